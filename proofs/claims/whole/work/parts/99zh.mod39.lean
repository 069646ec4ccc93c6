/-! ===== 99zh: the reference: sentence ===== -/
section S99zh
variable {S : tmS} {L : Nat → Nat → Int64}
abbrev SePost (S : tmS) (I : Nat → Nat → Int) (L : Nat → Nat → Int64) (R : Bool × Nat × TS × RuL) : Option tmV → tmH → Prop := fun q h' => q = some (tI (if R.1 = true then 1 else 0)) ∧ ∃ J, h' = (S, J, L) ∧ RF I J ∧ J 168 10 = (R.2.1 : Int) ∧ (R.1 = true → MT J (clX R.2.2.1) ∧ MRl (J 169) R.2.2.2 ∧ RlOK R.2.2.2)
-- a RULE: from pc 47
set_option maxRecDepth 20000 in
theorem se_rule (hL : LX S) {I : Nat → Nat → Int} {b : Nat → Int} {n p q : Nat} (hb : I 176 = b) (hn : I 168 9 = (n : Int)) (hn1 : n ≤ 120) (hp : p ≤ n) {X : TS} {rl : RuL} (hX : TsOK X) (hM : MT I (clX X)) (h6 : rl.length ≤ 6) (hok : RlOK rl) (hR : MRl (I 169) rl) {w : List Int} (h1 : (sideW b n 7 p).1 = true) (hw : w = (sideW b n 7 p).2.2) (hq : q = skp b n (sideW b n 7 p).2.1) (h10 : I 168 10 = (q : Int)) (h12 : I 168 12 = (w.length : Int)) (h7 : ∀ i, i < w.length → I 177 i = w.getD i 0) (hqn : q < n) {a2 : Int} {R : Bool × Nat × TS × RuL}
    (eR : R = if (w.length = 1 ∧ letW w ≠ 0) ∨ 6 ≤ rl.length then (false, q, X, rl) else if (sideW b n (letW w) (q + 1)).1 = false then (false, (sideW b n (letW w) (q + 1)).2.1, X, rl) else if tkB b n (sideW b n (letW w) (q + 1)).2.1 59 then (true, tkP b n (sideW b n (letW w) (q + 1)).2.1 59, X, rl ++ [(w, (sideW b n (letW w) (q + 1)).2.2)]) else (false, tkP b n (sideW b n (letW w) (q + 1)).2.1 59, X, rl)) :
    tmW kX12_sentence 5 0 0 47 [some (tR 168), some (tI (letW w : Nat)), some (tI a2), none, none] [] (S, I, L) (SePost S I L R) := by
  have o168 := oX168 hL
  have r168_0 := rX168_0 hL
  have r168_1 := rX168_1 hL
  have r168_3 := rX168_3 hL
  have r168_4 := rX168_4 hL
  have r168_5 := rX168_5 hL
  have r168_6 := rX168_6 hL
  have r168_7 := rX168_7 hL
  have r168_8 := rX168_8 hL
  have r168_11 := rX168_11 hL
  have r168_13 := rX168_13 hL
  have r168_17 := rX168_17 hL
  have r168_18 := rX168_18 hL
  have r168_19 := rX168_19 hL
  have r168_21 := rX168_21 hL
  have r168_22 := rX168_22 hL
  have r168_23 := rX168_23 hL
  have r168_24 := rX168_24 hL
  have r168_25 := rX168_25 hL
  have r168_26 := rX168_26 hL
  have r168_27 := rX168_27 hL
  have r168_28 := rX168_28 hL
  have r168_29 := rX168_29 hL
  have r168_30 := rX168_30 hL
  have o169 := oX169 hL
  have o177 := oX177 hL
  have o := sd_ok hp h1
  rw [← hw] at o
  obtain ⟨o1, o2, o3, o4, o5⟩ := o
  have h9 : ∀ s ∈ w, 0 ≤ s ∧ s ≤ 9 := fun s hs => ⟨(o1 s hs).1, (o1 s hs).2.1⟩
  have tr : TreeW w := by rw [hw]; exact sd_tree h1
  have tl := tree_letter tr h9
  have lw : 0 < w.length := List.length_pos_iff.mpr (tree_ne tr)
  have hlw : letW w < 8 := letW_lt w (fun s hs => (h9 s hs).2)
  have e7 : I 177 0 = w.getD 0 0 := h7 0 lw
  have g9 := h9 _ (getD_mem lw)
  have er : I 169 1 = (rl.length : Int) := hR.1
  by_cases c : (w.length = 1 ∧ letW w ≠ 0) ∨ 6 ≤ rl.length
  · rw [if_pos c] at eR
    have fin : SePost S I L R (some (tI 0)) (S, I, L) := by rw [eR]; exact ⟨rfl, I, rfl, RF.rfl', h10, fun z => by cases z⟩
    by_cases c7 : 7 ≤ w.getD 0 0
    · refine wa_aload_n dX12_sentence_47 rfl ?_
      refine wt_getR dX12_sentence_48 FX12_34 (by assumption) (by assumption) ?_
      refine wa_iconst dX12_sentence_51 ?_
      refine wt_iald 0 dX12_sentence_52 (by assumption) rfl (by omega) ?_
      try first | rw [e7] | skip
      refine wa_bipush dX12_sentence_53 rfl ?_
      refine wa_icmp_ge 69 dX12_sentence_55 (by decide) (by exact ⟨by omega, by omega⟩) (by exact ⟨by omega, by omega⟩) (fun c_55 => ?_) (fun c_55 => ?_)
      · refine wa_iconst dX12_sentence_69 ?_
        refine wa_zreturn dX12_sentence_70 rfl (by first | exact Or.inl rfl | exact Or.inr rfl) ?_
        exact fin
      · omega
    · have c6 : rl.length = 6 := by
        rcases c with z | z
        · exact absurd (tl.mpr z) c7
        · omega
      refine wa_aload_n dX12_sentence_47 rfl ?_
      refine wt_getR dX12_sentence_48 FX12_34 (by assumption) (by assumption) ?_
      refine wa_iconst dX12_sentence_51 ?_
      refine wt_iald 0 dX12_sentence_52 (by assumption) rfl (by omega) ?_
      try first | rw [e7] | rw [er] | skip
      refine wa_bipush dX12_sentence_53 rfl ?_
      refine wa_icmp_ge 69 dX12_sentence_55 (by decide) (by exact ⟨by omega, by omega⟩) (by exact ⟨by omega, by omega⟩) (fun c_55 => ?_) (fun c_55 => ?_)
      · omega
      · refine wa_aload_n dX12_sentence_58 rfl ?_
        refine wt_getR dX12_sentence_59 FX12_7 (by assumption) (by assumption) ?_
        refine wa_iconst dX12_sentence_62 ?_
        refine wt_iald 1 dX12_sentence_63 (by assumption) rfl (by omega) ?_
        try first | rw [e7] | rw [er] | skip
        refine wa_bipush dX12_sentence_64 rfl ?_
        refine wa_icmp_ne 71 dX12_sentence_66 (by decide) (by exact ⟨by omega, by omega⟩) (by exact ⟨by omega, by omega⟩) (fun c_66 => ?_) (fun c_66 => ?_)
        · omega
        · refine wa_iconst dX12_sentence_69 ?_
          refine wa_zreturn dX12_sentence_70 rfl (by first | exact Or.inl rfl | exact Or.inr rfl) ?_
          exact fin
  · rw [if_neg c] at eR
    have c7 : ¬ 7 ≤ w.getD 0 0 := fun z => c (Or.inl (tl.mp z))
    have c6 : rl.length < 6 := by
      by_cases z : rl.length < 6
      · exact z
      · exact absurd (Or.inr (by omega)) c
    have kd := c_mside (I := atQ I (q + 1)) (L := L) hL (n := n) (p := q + 1) (by rw [atQ_k (by decide)]; exact hn) hn1 atQ_10 (by omega) (ρ := 178) (Or.inr rfl) (oX178 hL) hlw
    rw [atQ_n (show 176 ≠ 168 by decide), hb] at kd
    have eK : va_up I 168 (va_up (I 168) 10 ((q : Int) + 1)) = atQ I (q + 1) := rfl
    have p90 : ∀ K : Nat → Nat → Int, SdR 178 (atQ I (q + 1)) K (sideW b n (letW w) (q + 1)) → tmW kX12_sentence 5 0 0 90 [some (tR 168), some (tI (letW w : Nat)), some (tI a2), none, none] [tI (if (sideW b n (letW w) (q + 1)).1 = true then 1 else 0)] (S, K, L) (SePost S I L R) := fun K hK => by
      obtain ⟨s1, s2, s3⟩ := hK
      have fK : RF I K := (RF.at _).trans' (s1.rf (Or.inr rfl))
      by_cases d : (sideW b n (letW w) (q + 1)).1 = false
      · rw [if_pos d] at eR
        rw [if_neg (by rw [d]; decide)]
        have fin : SePost S I L R (some (tI 0)) (S, K, L) := by rw [eR]; exact ⟨rfl, K, rfl, fK, s2, fun z => by cases z⟩
        refine wa_if_ne 95 dX12_sentence_90 (by decide) (by exact ⟨by omega, by omega⟩) (fun c_90 => ?_) (fun c_90 => ?_)
        · omega
        · refine wa_iconst dX12_sentence_93 ?_
          refine wa_zreturn dX12_sentence_94 rfl (by first | exact Or.inl rfl | exact Or.inr rfl) ?_
          exact fin
      · rw [if_neg d] at eR
        have d1 : (sideW b n (letW w) (q + 1)).1 = true := by
          cases z : (sideW b n (letW w) (q + 1)).1 with
          | true => rfl
          | false => exact absurd z d
        rw [if_pos d1]
        obtain ⟨t1, t2, t3⟩ := s3 d1
        have sk := skp_b (b := b) o4
        have ru : RuOK (w, (sideW b n (letW w) (q + 1)).2.2) := by
          rw [hw]
          exact sd_RuOK hn1 hp h1 (by omega) (by omega) (by rw [← hw]; exact d1)
        have u := sd_ok (b := b) (n := n) (may := letW w) (p := q + 1) (by omega) d1
        generalize (sideW b n (letW w) (q + 1)).2.2 = v at *
        generalize (sideW b n (letW w) (q + 1)).2.1 = p2 at *
        obtain ⟨u1, u2, u3, u4, u5⟩ := u
        generalize hV : va_up K 168 (va_up (K 168) 14 (v.length : Int)) = V
        have gV : ∀ a, a ≠ 168 → V a = K a := fun a ha => by rw [← hV, vup_n ha]
        have v8 : ∀ k, k ≠ 14 → V 168 k = K 168 k := fun k hk => by rw [← hV, vup_s, vup_n hk]
        have fV : RF I V := fK.trans' (by rw [← hV]; exact RF.up (by omega))
        have k176 : V 176 = b := by rw [fV.1 176 (by decide) (by decide) (by decide) (by decide) (by decide) (by decide) (by decide)]; exact hb
        have ki := c_mis (I := V) (L := L) hL (n := n) (p := p2) (by rw [fV.2 9 (by decide) (by decide) (by decide) (by decide) (by decide) (by decide) (by decide) (by decide)]; exact hn) hn1 (by rw [v8 10 (by decide)]; exact s2) u4 59 ⟨by decide, by decide⟩
        rw [k176] at ki
        by_cases t : tkB b n p2 59
        · rw [if_pos t] at ki eR
          generalize hW : atQ V (tkP b n p2 59) = W at ki
          have gW : ∀ a, a ≠ 168 → W a = K a := fun a ha => by rw [← hW, atQ_n ha, gV a ha]
          have w8 : ∀ k, k ≠ 10 → W 168 k = V 168 k := fun k hk => by rw [← hW, atQ_k hk]
          have k9 : K 169 = I 169 := by rw [s1.1 169 (by decide) (by decide) (by decide), atQ_n (by decide)]
          have kr := c_mrules (I := W) (L := L) hL (r := rl.length) c6 (w := w) (v := v) ru.2.2.2.2.1 (by rw [gW 169 (by decide), k9]; exact er) (by rw [w8 12 (by decide), v8 12 (by decide), s1.2 12 (by decide) (by decide) (by decide), atQ_k (by decide)]; exact h12) (by rw [w8 14 (by decide), ← hV, vup_s, vup_s]) (fun k hk => by rw [gW 177 (by decide), s1.1 177 (by decide) (by decide) (by decide), atQ_n (by decide)]; exact h7 k hk) (fun k hk => by rw [gW 178 (by decide)]; exact t3 k hk)
          have fin : ∀ M : Nat → Nat → Int, RuF W M rl.length w v → SePost S I L R (some (tI 1)) (S, M, L) := fun M hm => by
            rw [eR]
            refine ⟨rfl, M, rfl, ?_, ?_, fun _ => ⟨?_, ?_, ?_⟩⟩
            · refine (fV.trans' (by rw [← hW]; exact RF.at _)).trans' ⟨fun a _ a2 _ _ _ _ _ => hm.1 a a2, fun k _ _ _ _ _ _ _ _ => by rw [hm.1 168 (by decide)]⟩
            · rw [hm.1 168 (by decide), ← hW]; exact atQ_10
            · exact hm.mt (hM.row (by rw [gW 169 (by decide), k9])) hX.1
            · exact hm.rl c6 hok (by rw [gW 169 (by decide), k9]; exact hR)
            · intro x hx
              rcases List.mem_append.mp hx with y | y
              · exact hok x y
              · rw [List.mem_singleton] at y; rw [y]; exact ru
          refine wa_if_ne 95 dX12_sentence_90 (by decide) (by exact ⟨by omega, by omega⟩) (fun c_90 => ?_) (fun c_90 => ?_)
          · refine wa_aload_n dX12_sentence_95 rfl ?_
            refine wa_aload_n dX12_sentence_96 rfl ?_
            refine wt_getI dX12_sentence_97 FX12_204 (by assumption) ?_
            try first | rw [t1] | skip
            refine wt_putI dX12_sentence_100 FX12_219 (WX12_14 _ _) (by assumption) (by exact ⟨by omega, by omega⟩) ?_
            rw [hV]
            refine wa_aload_n dX12_sentence_103 rfl ?_
            refine wa_bipush dX12_sentence_104 rfl ?_
            refine wa_callVf (ci := 12) dX12_sentence_106 KX12_is LX12_213 ⟨_, _, rfl, by decide⟩ o168 (ki) (by decide) rfl rfl (Nat.le_of_ble_eq_true rfl) rfl rfl ?_
            refine wa_if_ne 114 dX12_sentence_109 (by decide) (by exact ⟨by omega, by omega⟩) (fun c_109 => ?_) (fun c_109 => ?_)
            · refine wa_aload_n dX12_sentence_114 rfl ?_
              refine wa_callV (ci := 12) dX12_sentence_115 KX12_rules LX12_226 ⟨_, _, rfl, by decide⟩ o168 (kr) (by decide) rfl (Nat.le_of_ble_eq_true rfl) rfl rfl (fun r h' hq => ?_)
              obtain ⟨rfl, M, rfl, hm⟩ := hq
              refine wa_iconst dX12_sentence_118 ?_
              refine wa_zreturn dX12_sentence_119 rfl (by first | exact Or.inl rfl | exact Or.inr rfl) ?_
              exact fin M hm
            · omega
          · omega
        · rw [if_neg t] at ki eR
          have fin : SePost S I L R (some (tI 0)) (S, atQ V (tkP b n p2 59), L) := by rw [eR]; exact ⟨rfl, _, rfl, fV.trans' (RF.at _), atQ_10, fun z => by cases z⟩
          refine wa_if_ne 95 dX12_sentence_90 (by decide) (by exact ⟨by omega, by omega⟩) (fun c_90 => ?_) (fun c_90 => ?_)
          · refine wa_aload_n dX12_sentence_95 rfl ?_
            refine wa_aload_n dX12_sentence_96 rfl ?_
            refine wt_getI dX12_sentence_97 FX12_204 (by assumption) ?_
            try first | rw [t1] | skip
            refine wt_putI dX12_sentence_100 FX12_219 (WX12_14 _ _) (by assumption) (by exact ⟨by omega, by omega⟩) ?_
            rw [hV]
            refine wa_aload_n dX12_sentence_103 rfl ?_
            refine wa_bipush dX12_sentence_104 rfl ?_
            refine wa_callVf (ci := 12) dX12_sentence_106 KX12_is LX12_213 ⟨_, _, rfl, by decide⟩ o168 (ki) (by decide) rfl rfl (Nat.le_of_ble_eq_true rfl) rfl rfl ?_
            refine wa_if_ne 114 dX12_sentence_109 (by decide) (by exact ⟨by omega, by omega⟩) (fun c_109 => ?_) (fun c_109 => ?_)
            · omega
            · refine wa_iconst dX12_sentence_112 ?_
              refine wa_zreturn dX12_sentence_113 rfl (by first | exact Or.inl rfl | exact Or.inr rfl) ?_
              exact fin
          · omega
    refine wa_aload_n dX12_sentence_47 rfl ?_
    refine wt_getR dX12_sentence_48 FX12_34 (by assumption) (by assumption) ?_
    refine wa_iconst dX12_sentence_51 ?_
    refine wt_iald 0 dX12_sentence_52 (by assumption) rfl (by omega) ?_
    try first | rw [e7] | rw [er] | rw [h10] | skip
    refine wa_bipush dX12_sentence_53 rfl ?_
    refine wa_icmp_ge 69 dX12_sentence_55 (by decide) (by exact ⟨by omega, by omega⟩) (by exact ⟨by omega, by omega⟩) (fun c_55 => ?_) (fun c_55 => ?_)
    · omega
    · refine wa_aload_n dX12_sentence_58 rfl ?_
      refine wt_getR dX12_sentence_59 FX12_7 (by assumption) (by assumption) ?_
      refine wa_iconst dX12_sentence_62 ?_
      refine wt_iald 1 dX12_sentence_63 (by assumption) rfl (by omega) ?_
      try first | rw [e7] | rw [er] | rw [h10] | skip
      refine wa_bipush dX12_sentence_64 rfl ?_
      refine wa_icmp_ne 71 dX12_sentence_66 (by decide) (by exact ⟨by omega, by omega⟩) (by exact ⟨by omega, by omega⟩) (fun c_66 => ?_) (fun c_66 => ?_)
      · refine wa_aload_n dX12_sentence_71 rfl ?_
        refine wa_dup dX12_sentence_72 rfl ?_
        refine wt_getI dX12_sentence_73 FX12_195 (by assumption) ?_
        try first | rw [e7] | rw [er] | rw [h10] | skip
        refine wa_iconst dX12_sentence_76 ?_
        refine wa_iadd dX12_sentence_77 ?_
        refine wt_putI dX12_sentence_78 FX12_195 (WX12_10 _ _) (by assumption) (by exact ⟨by omega, by omega⟩) ?_
        rw [eK]
        refine wa_aload_n dX12_sentence_81 rfl ?_
        refine wa_aload_n dX12_sentence_82 rfl ?_
        refine wt_getR dX12_sentence_83 FX12_37 (by assumption) (by assumption) ?_
        refine wa_iload_n dX12_sentence_86 rfl ?_
        refine wa_callV (ci := 12) dX12_sentence_87 KX12_side LX12_222 ⟨_, _, rfl, by decide⟩ o168 (kd) (by decide) rfl (Nat.le_of_ble_eq_true rfl) rfl rfl (fun r h' hq => ?_)
        obtain ⟨rfl, K, rfl, hK⟩ := hq
        exact p90 K hK
      · omega
set_option maxRecDepth 20000 in
theorem RlK.rl {I J : Nat → Nat → Int} {rl : RuL} (h6 : rl.length ≤ 6) (hok : RlOK rl) (h : MRl (I 169) rl) (k : RlK I J) : MRl (J 169) rl := h.cg h6 hok (fun x hx _ => k x hx)
set_option maxRecDepth 20000 in
theorem tr_n {I J : Nat → Nat → Int} {X : TS} {rl : RuL} (f : RF I J) {q0 : Nat} {r : Option tmV} {h' : tmH} (h : TrPost S J L q0 none r h') : SePost S I L (false, q0, X, rl) r h' := by
  obtain ⟨rfl, K, rfl, k1, k2⟩ := h
  exact ⟨rfl, K, rfl, f.trans' k1, k2, fun z => by cases z⟩
set_option maxRecDepth 20000 in
theorem tr_s {I J : Nat → Nat → Int} {Y : TS} {rl : RuL} (h6 : rl.length ≤ 6) (hok : RlOK rl) (hR : MRl (J 169) rl) (f : RF I J) {q0 : Nat} {r : Option tmV} {h' : tmH} (h : TrPost S J L q0 (some Y) r h') : SePost S I L (true, q0 + 1, Y, rl) r h' := by
  obtain ⟨rfl, K, rfl, k1, k2, k3, k4⟩ := h
  exact ⟨rfl, K, rfl, f.trans' k1, k2, fun _ => ⟨k3, k4.rl h6 hok hR, hok⟩⟩
-- TERMS: from pc 120
set_option maxRecDepth 20000 in
theorem se_term (hL : LX S) {I : Nat → Nat → Int} {b : Nat → Int} {n p q : Nat} (hb : I 176 = b) (hn : I 168 9 = (n : Int)) (hn1 : n ≤ 120) (hp : p ≤ n) {X : TS} {rl : RuL} (hX : TsOK X) (hM : MT I (clX X)) (h6 : rl.length ≤ 6) (hok : RlOK rl) (hR : MRl (I 169) rl) {w : List Int} (h1 : (sideW b n 7 p).1 = true) (hw : w = (sideW b n 7 p).2.2) (hq : q = skp b n (sideW b n 7 p).2.1) (h10 : I 168 10 = (q : Int)) (h12 : I 168 12 = (w.length : Int)) (h7 : ∀ i, i < w.length → I 177 i = w.getD i 0) (hqn : q ≤ n) (rc : inR (byt b n q)) {R : Bool × Nat × TS × RuL}
    (eR : R = if letW w ≠ 0 then (false, q, X, rl) else if byt b n q = 61 then (if (sideW b n 7 (q + 1)).1 = false then (false, (sideW b n 7 (q + 1)).2.1, X, rl) else if byt b n (skp b n (sideW b n 7 (q + 1)).2.1) = 59 ∧ letW (sideW b n 7 (q + 1)).2.2 = 0 then (match trmW X w (some (sideW b n 7 (q + 1)).2.2) with
        | none => (false, skp b n (sideW b n 7 (q + 1)).2.1, X, rl)
        | some Y => (true, skp b n (sideW b n 7 (q + 1)).2.1 + 1, Y, rl)) else (false, skp b n (sideW b n 7 (q + 1)).2.1, X, rl)) else if byt b n q = 59 then (match trmW X w none with
        | none => (false, q, X, rl)
        | some Y => (true, q + 1, Y, rl)) else (false, q, X, rl)) :
    tmW kX12_sentence 5 0 0 120 [some (tR 168), some (tI (letW w : Nat)), some (tI (byt b n q)), none, none] [] (S, I, L) (SePost S I L R) := by
  have o168 := oX168 hL
  have r168_0 := rX168_0 hL
  have r168_1 := rX168_1 hL
  have r168_3 := rX168_3 hL
  have r168_4 := rX168_4 hL
  have r168_5 := rX168_5 hL
  have r168_6 := rX168_6 hL
  have r168_7 := rX168_7 hL
  have r168_8 := rX168_8 hL
  have r168_11 := rX168_11 hL
  have r168_13 := rX168_13 hL
  have r168_17 := rX168_17 hL
  have r168_18 := rX168_18 hL
  have r168_19 := rX168_19 hL
  have r168_21 := rX168_21 hL
  have r168_22 := rX168_22 hL
  have r168_23 := rX168_23 hL
  have r168_24 := rX168_24 hL
  have r168_25 := rX168_25 hL
  have r168_26 := rX168_26 hL
  have r168_27 := rX168_27 hL
  have r168_28 := rX168_28 hL
  have r168_29 := rX168_29 hL
  have r168_30 := rX168_30 hL
  have o := sd_ok hp h1
  rw [← hw] at o
  obtain ⟨o1, o2, o3, o4, o5⟩ := o
  have h9 : ∀ s ∈ w, 0 ≤ s ∧ s ≤ 9 := fun s hs => ⟨(o1 s hs).1, (o1 s hs).2.1⟩
  have hlw : letW w < 8 := letW_lt w (fun s hs => (h9 s hs).2)
  by_cases c0 : letW w = 0
  · rw [if_neg (fun z => z c0)] at eR
    have tw : TW w := by rw [hw]; exact sd_TW hp h1 (by rw [← hw]; exact c0)
    generalize hV : va_up I 168 (va_up (I 168) 14 0) = V
    have gV : ∀ a, a ≠ 168 → V a = I a := fun a ha => by rw [← hV, vup_n ha]
    have v8 : ∀ k, k ≠ 14 → V 168 k = I 168 k := fun k hk => by rw [← hV, vup_s, vup_n hk]
    have fV : RF I V := by rw [← hV]; exact RF.up (by omega)
    have v10 : V 168 10 = (q : Int) := by rw [v8 10 (by decide)]; exact h10
    have v9 : V 169 = I 169 := gV 169 (by decide)
    by_cases c1 : byt b n q = 61
    · rw [if_pos c1] at eR
      have hqn2 : q < n := by
        by_cases z : q < n
        · exact z
        · unfold byt at c1; rw [if_neg z] at c1; omega
      have kd := c_mside (I := atQ V (q + 1)) (L := L) hL (n := n) (p := q + 1) (by rw [atQ_k (by decide), v8 9 (by decide)]; exact hn) hn1 atQ_10 (by omega) (ρ := 178) (Or.inr rfl) (oX178 hL) (may := 7) (by decide)
      rw [atQ_n (show 176 ≠ 168 by decide), gV 176 (by decide), hb] at kd
      have eK : va_up V 168 (va_up (V 168) 10 ((q : Int) + 1)) = atQ V (q + 1) := rfl
      have p169 : ∀ K : Nat → Nat → Int, SdR 178 (atQ V (q + 1)) K (sideW b n 7 (q + 1)) → tmW kX12_sentence 5 0 0 169 [some (tR 168), some (tI (letW w : Nat)), some (tI (byt b n q)), none, none] [tI (if (sideW b n 7 (q + 1)).1 = true then 1 else 0)] (S, K, L) (SePost S I L R) := fun K hK => by
        obtain ⟨s1, s2, s3⟩ := hK
        have fK : RF I K := (fV.trans' (RF.at _)).trans' (s1.rf (Or.inr rfl))
        by_cases d : (sideW b n 7 (q + 1)).1 = false
        · rw [if_pos d] at eR
          rw [if_neg (by rw [d]; decide)]
          have fin : SePost S I L R (some (tI 0)) (S, K, L) := by rw [eR]; exact ⟨rfl, K, rfl, fK, s2, fun z => by cases z⟩
          refine wa_if_ne 174 dX12_sentence_169 (by decide) (by exact ⟨by omega, by omega⟩) (fun c_169 => ?_) (fun c_169 => ?_)
          · omega
          · refine wa_iconst dX12_sentence_172 ?_
            refine wa_zreturn dX12_sentence_173 rfl (by first | exact Or.inl rfl | exact Or.inr rfl) ?_
            exact fin
        · rw [if_neg d] at eR
          have d1 : (sideW b n 7 (q + 1)).1 = true := by
            cases z : (sideW b n 7 (q + 1)).1 with
            | true => rfl
            | false => exact absurd z d
          rw [if_pos d1]
          obtain ⟨t1, t2, t3⟩ := s3 d1
          have u := sd_ok (b := b) (n := n) (may := 7) (p := q + 1) (by omega) d1
          have tv := sd_TW (b := b) (n := n) (may := 7) (p := q + 1) (by omega) d1
          generalize (sideW b n 7 (q + 1)).2.2 = v at *
          generalize (sideW b n 7 (q + 1)).2.1 = p2 at *
          obtain ⟨u1, u2, u3, u4, u5⟩ := u
          have hlv : letW v < 8 := letW_lt v (fun s hs => (u1 s hs).2.1)
          have sk := skp_b (b := b) u4
          generalize hW : va_up K 168 (va_up (K 168) 14 (v.length : Int)) = W
          have gW : ∀ a, a ≠ 168 → W a = K a := fun a ha => by rw [← hW, vup_n ha]
          have w8 : ∀ k, k ≠ 14 → W 168 k = K 168 k := fun k hk => by rw [← hW, vup_s, vup_n hk]
          have fW : RF I W := fK.trans' (by rw [← hW]; exact RF.up (by omega))
          have w176 : W 176 = b := by rw [fW.1 176 (by decide) (by decide) (by decide) (by decide) (by decide) (by decide) (by decide)]; exact hb
          have w9 : W 168 9 = (n : Int) := by rw [fW.2 9 (by decide) (by decide) (by decide) (by decide) (by decide) (by decide) (by decide) (by decide)]; exact hn
          have ks := c_mskips (I := W) (L := L) hL (n := n) (p := p2) w9 hn1 (by rw [w8 10 (by decide)]; exact s2) u4
          rw [w176] at ks
          generalize hq2 : skp b n p2 = q2 at *
          generalize hM2 : atQ W q2 = M at ks
          have gM : ∀ a, a ≠ 168 → M a = K a := fun a ha => by rw [← hM2, atQ_n ha, gW a ha]
          have m8 : ∀ k, k ≠ 10 → M 168 k = W 168 k := fun k hk => by rw [← hM2, atQ_k hk]
          have m10 : M 168 10 = (q2 : Int) := by rw [← hM2]; exact atQ_10
          have fM : RF I M := fW.trans' (by rw [← hM2]; exact RF.at _)
          have m16 : M 168 16 = ((letW v : Nat) : Int) := by rw [m8 16 (by decide), w8 16 (by decide)]; exact t2
          have k9 : K 169 = I 169 := by rw [s1.1 169 (by decide) (by decide) (by decide), atQ_n (by decide), v9]
          have kb := c_mbyte (I := M) (L := L) hL (n := n) (p := q2) (by rw [m8 9 (by decide)]; exact w9) hn1 sk.2
          rw [gM 176 (by decide), ← gW 176 (by decide), w176] at kb
          have fin0 : ¬ (byt b n q2 = 59 ∧ letW v = 0) → SePost S I L R (some (tI 0)) (S, M, L) := fun z => by
            rw [if_neg z] at eR
            rw [eR]
            exact ⟨rfl, M, rfl, fM, m10, fun y => by cases y⟩
          have yes : byt b n q2 = 59 → letW v = 0 → tmW kX12_sentence 5 0 0 208 [some (tR 168), some (tI (letW w : Nat)), some (tI (byt b n q)), none, none] [] (S, M, L) (SePost S I L R) := fun z1 z2 => by
            rw [if_pos ⟨z1, z2⟩] at eR
            have hse := (se_208 (L := L) hL (I := M) m10 (by omega) hX (hM.row (by rw [gM 169 (by decide), k9])) (w := w) (v := some v) tw (fun x hx => by cases hx; exact tv z2) (by omega) (fun x hx => by cases hx; omega) (by rw [m8 12 (by decide), w8 12 (by decide), s1.2 12 (by decide) (by decide) (by decide), atQ_k (by decide), v8 12 (by decide)]; exact h12) (by rw [m8 14 (by decide), ← hW, vup_s, vup_s]; rfl) (fun i hi => by rw [gM 177 (by decide), s1.1 177 (by decide) (by decide) (by decide), atQ_n (by decide), gV 177 (by decide)]; exact h7 i hi) (fun x hx i hi => by cases hx; rw [gM 178 (by decide)]; exact t3 i hi) (a1 := (letW w : Nat)) (a2 := byt b n q))
            have hR2 : MRl (M 169) rl := by rw [gM 169 (by decide), k9]; exact hR
            cases ht : trmW X w (some v) with
            | none =>
              rw [ht] at hse eR
              rw [eR]
              exact hse.wk (fun r h' hr => tr_n fM hr)
            | some Y =>
              rw [ht] at hse eR
              rw [eR]
              exact hse.wk (fun r h' hr => tr_s h6 hok hR2 fM hr)
          refine wt_ir (fun hIK => ?_)
          have rb : inR (byt b n q2) := by
            unfold byt
            split
            · have := hIK 176 q2
              rw [fK.1 176 (by decide) (by decide) (by decide) (by decide) (by decide) (by decide) (by decide), hb] at this
              exact this
            · exact ⟨by decide, by decide⟩
          generalize byt b n q2 = y at *
          refine wa_if_ne 174 dX12_sentence_169 (by decide) (by first | exact rb | exact ⟨by omega, by omega⟩) (fun c_169 => ?_) (fun c_169 => ?_)
          · refine wa_aload_n dX12_sentence_174 rfl ?_
            refine wa_aload_n dX12_sentence_175 rfl ?_
            refine wt_getI dX12_sentence_176 FX12_204 (by assumption) ?_
            try first | rw [t1] | rw [m16] | rw [m10] | skip
            refine wt_putI dX12_sentence_179 FX12_219 (WX12_14 _ _) (by assumption) (by first | exact rb | exact ⟨by omega, by omega⟩) ?_
            rw [hW]
            refine wa_aload_n dX12_sentence_182 rfl ?_
            refine wa_callVf (ci := 12) dX12_sentence_183 KX12_skips LX12_201 ⟨_, _, rfl, by decide⟩ o168 (ks) (by decide) rfl rfl (Nat.le_of_ble_eq_true rfl) rfl rfl ?_
            refine wa_aload_n dX12_sentence_186 rfl ?_
            refine wt_getI dX12_sentence_187 FX12_207 (by assumption) ?_
            try first | rw [t1] | rw [m16] | rw [m10] | skip
            refine wa_if_ne 206 dX12_sentence_190 (by decide) (by first | exact rb | exact ⟨by omega, by omega⟩) (fun c_190 => ?_) (fun c_190 => ?_)
            · refine wa_iconst dX12_sentence_206 ?_
              refine wa_zreturn dX12_sentence_207 rfl (by first | exact Or.inl rfl | exact Or.inr rfl) ?_
              exact fin0 (fun z => by omega)
            · refine wa_aload_n dX12_sentence_193 rfl ?_
              refine wa_aload_n dX12_sentence_194 rfl ?_
              refine wt_getI dX12_sentence_195 FX12_195 (by assumption) ?_
              try first | rw [t1] | rw [m16] | rw [m10] | skip
              refine wa_callVf (ci := 12) dX12_sentence_198 KX12_byteAt LX12_198 ⟨_, _, rfl, by decide⟩ o168 (kb) (by decide) rfl rfl (Nat.le_of_ble_eq_true rfl) rfl rfl ?_
              refine wa_bipush dX12_sentence_201 rfl ?_
              refine wa_icmp_eq 208 dX12_sentence_203 (by decide) (by first | exact rb | exact ⟨by omega, by omega⟩) (by first | exact rb | exact ⟨by omega, by omega⟩) (fun c_203 => ?_) (fun c_203 => ?_)
              · exact yes (by omega) (by omega)
              · refine wa_iconst dX12_sentence_206 ?_
                refine wa_zreturn dX12_sentence_207 rfl (by first | exact Or.inl rfl | exact Or.inr rfl) ?_
                exact fin0 (fun z => by omega)
          · omega
      refine wa_iload_n dX12_sentence_120 rfl ?_
      refine wa_if_ne 136 dX12_sentence_121 (by decide) (by first | exact rc | exact ⟨by omega, by omega⟩) (fun c_121 => ?_) (fun c_121 => ?_)
      · omega
      · refine wa_iload_n dX12_sentence_124 rfl ?_
        refine wa_bipush dX12_sentence_125 rfl ?_
        refine wa_icmp_eq 138 dX12_sentence_127 (by decide) (by first | exact rc | exact ⟨by omega, by omega⟩) (by first | exact rc | exact ⟨by omega, by omega⟩) (fun c_127 => ?_) (fun c_127 => ?_)
        · refine wa_aload_n dX12_sentence_138 rfl ?_
          refine wa_iconst dX12_sentence_139 ?_
          refine wt_putI dX12_sentence_140 FX12_219 (WX12_14 _ _) (by assumption) (by first | exact rc | exact ⟨by omega, by omega⟩) ?_
          rw [hV]
          refine wa_iload_n dX12_sentence_143 rfl ?_
          refine wa_bipush dX12_sentence_144 rfl ?_
          refine wa_icmp_ne 208 dX12_sentence_146 (by decide) (by first | exact rc | exact ⟨by omega, by omega⟩) (by first | exact rc | exact ⟨by omega, by omega⟩) (fun c_146 => ?_) (fun c_146 => ?_)
          · omega
          · refine wa_aload_n dX12_sentence_149 rfl ?_
            refine wa_dup dX12_sentence_150 rfl ?_
            refine wt_getI dX12_sentence_151 FX12_195 (by assumption) ?_
            try first | rw [v10] | skip
            refine wa_iconst dX12_sentence_154 ?_
            refine wa_iadd dX12_sentence_155 ?_
            refine wt_putI dX12_sentence_156 FX12_195 (WX12_10 _ _) (by assumption) (by first | exact rc | exact ⟨by omega, by omega⟩) ?_
            rw [eK]
            refine wa_aload_n dX12_sentence_159 rfl ?_
            refine wa_aload_n dX12_sentence_160 rfl ?_
            refine wt_getR dX12_sentence_161 FX12_37 (by assumption) (by assumption) ?_
            refine wa_bipush dX12_sentence_164 rfl ?_
            refine wa_callV (ci := 12) dX12_sentence_166 KX12_side LX12_222 ⟨_, _, rfl, by decide⟩ o168 (kd) (by decide) rfl (Nat.le_of_ble_eq_true rfl) rfl rfl (fun r h' hq => ?_)
            obtain ⟨rfl, K, rfl, hK⟩ := hq
            exact p169 K hK
        · omega
    · rw [if_neg c1] at eR
      by_cases c2 : byt b n q = 59
      · rw [if_pos c2] at eR
        have hse := (se_208 (L := L) hL (I := V) v10 (by omega) hX (hM.row v9) (w := w) (v := none) tw (fun x hx => by cases hx) (by omega) (fun x hx => by cases hx) (by rw [v8 12 (by decide)]; exact h12) (by rw [← hV, vup_s, vup_s]; rfl) (fun i hi => by rw [gV 177 (by decide)]; exact h7 i hi) (fun x hx => by cases hx) (a1 := (letW w : Nat)) (a2 := byt b n q))
        have hR2 : MRl (V 169) rl := by rw [v9]; exact hR
        have se : tmW kX12_sentence 5 0 0 208 [some (tR 168), some (tI (letW w : Nat)), some (tI (byt b n q)), none, none] [] (S, V, L) (SePost S I L R) := by
          cases ht : trmW X w none with
          | none =>
            rw [ht] at hse eR
            rw [eR]
            exact hse.wk (fun r h' hr => tr_n fV hr)
          | some Y =>
            rw [ht] at hse eR
            rw [eR]
            exact hse.wk (fun r h' hr => tr_s h6 hok hR2 fV hr)
        refine wa_iload_n dX12_sentence_120 rfl ?_
        refine wa_if_ne 136 dX12_sentence_121 (by decide) (by first | exact rc | exact ⟨by omega, by omega⟩) (fun c_121 => ?_) (fun c_121 => ?_)
        · omega
        · refine wa_iload_n dX12_sentence_124 rfl ?_
          refine wa_bipush dX12_sentence_125 rfl ?_
          refine wa_icmp_eq 138 dX12_sentence_127 (by decide) (by first | exact rc | exact ⟨by omega, by omega⟩) (by first | exact rc | exact ⟨by omega, by omega⟩) (fun c_127 => ?_) (fun c_127 => ?_)
          · omega
          · refine wa_iload_n dX12_sentence_130 rfl ?_
            refine wa_bipush dX12_sentence_131 rfl ?_
            refine wa_icmp_eq 138 dX12_sentence_133 (by decide) (by first | exact rc | exact ⟨by omega, by omega⟩) (by first | exact rc | exact ⟨by omega, by omega⟩) (fun c_133 => ?_) (fun c_133 => ?_)
            · refine wa_aload_n dX12_sentence_138 rfl ?_
              refine wa_iconst dX12_sentence_139 ?_
              refine wt_putI dX12_sentence_140 FX12_219 (WX12_14 _ _) (by assumption) (by first | exact rc | exact ⟨by omega, by omega⟩) ?_
              rw [hV]
              refine wa_iload_n dX12_sentence_143 rfl ?_
              refine wa_bipush dX12_sentence_144 rfl ?_
              refine wa_icmp_ne 208 dX12_sentence_146 (by decide) (by first | exact rc | exact ⟨by omega, by omega⟩) (by first | exact rc | exact ⟨by omega, by omega⟩) (fun c_146 => ?_) (fun c_146 => ?_)
              · exact se
              · omega
            · omega
      · rw [if_neg c2] at eR
        have fin : SePost S I L R (some (tI 0)) (S, I, L) := by rw [eR]; exact ⟨rfl, I, rfl, RF.rfl', h10, fun z => by cases z⟩
        refine wa_iload_n dX12_sentence_120 rfl ?_
        refine wa_if_ne 136 dX12_sentence_121 (by decide) (by first | exact rc | exact ⟨by omega, by omega⟩) (fun c_121 => ?_) (fun c_121 => ?_)
        · omega
        · refine wa_iload_n dX12_sentence_124 rfl ?_
          refine wa_bipush dX12_sentence_125 rfl ?_
          refine wa_icmp_eq 138 dX12_sentence_127 (by decide) (by first | exact rc | exact ⟨by omega, by omega⟩) (by first | exact rc | exact ⟨by omega, by omega⟩) (fun c_127 => ?_) (fun c_127 => ?_)
          · omega
          · refine wa_iload_n dX12_sentence_130 rfl ?_
            refine wa_bipush dX12_sentence_131 rfl ?_
            refine wa_icmp_eq 138 dX12_sentence_133 (by decide) (by first | exact rc | exact ⟨by omega, by omega⟩) (by first | exact rc | exact ⟨by omega, by omega⟩) (fun c_133 => ?_) (fun c_133 => ?_)
            · omega
            · refine wa_iconst dX12_sentence_136 ?_
              refine wa_zreturn dX12_sentence_137 rfl (by first | exact Or.inl rfl | exact Or.inr rfl) ?_
              exact fin
  · rw [if_pos c0] at eR
    have fin : SePost S I L R (some (tI 0)) (S, I, L) := by rw [eR]; exact ⟨rfl, I, rfl, RF.rfl', h10, fun z => by cases z⟩
    refine wa_iload_n dX12_sentence_120 rfl ?_
    refine wa_if_ne 136 dX12_sentence_121 (by decide) (by first | exact rc | exact ⟨by omega, by omega⟩) (fun c_121 => ?_) (fun c_121 => ?_)
    · refine wa_iconst dX12_sentence_136 ?_
      refine wa_zreturn dX12_sentence_137 rfl (by first | exact Or.inl rfl | exact Or.inr rfl) ?_
      exact fin
    · omega
set_option maxRecDepth 20000 in
theorem c_msentence (hL : LX S) {I : Nat → Nat → Int} {n p : Nat} (hn : I 168 9 = (n : Int)) (hn1 : n ≤ 120) (h10 : I 168 10 = (p : Int)) (hp : p ≤ n) {X : TS} {rl : RuL} (hX : TsOK X) (hM : MT I (clX X)) (h6 : rl.length ≤ 6) (hok : RlOK rl) (hR : MRl (I 169) rl) : tmC yX12_sentence kX12_sentence 5 0 0 [tR 168] (S, I, L) (SePost S I L (sentW (I 176) n p X rl)) := by
  refine tmC.mk (lv := [some (tR 168), none, none, none, none]) 4 ⟨rfl, by decide +kernel, by decide⟩ rfl rfl ?_
  have o168 := oX168 hL
  have r168_0 := rX168_0 hL
  have r168_1 := rX168_1 hL
  have r168_3 := rX168_3 hL
  have r168_4 := rX168_4 hL
  have r168_5 := rX168_5 hL
  have r168_6 := rX168_6 hL
  have r168_7 := rX168_7 hL
  have r168_8 := rX168_8 hL
  have r168_11 := rX168_11 hL
  have r168_13 := rX168_13 hL
  have r168_17 := rX168_17 hL
  have r168_18 := rX168_18 hL
  have r168_19 := rX168_19 hL
  have r168_21 := rX168_21 hL
  have r168_22 := rX168_22 hL
  have r168_23 := rX168_23 hL
  have r168_24 := rX168_24 hL
  have r168_25 := rX168_25 hL
  have r168_26 := rX168_26 hL
  have r168_27 := rX168_27 hL
  have r168_28 := rX168_28 hL
  have r168_29 := rX168_29 hL
  have r168_30 := rX168_30 hL
  refine wt_ir (fun hI => ?_)
  obtain ⟨b, hb⟩ : ∃ b, b = I 176 := ⟨_, rfl⟩
  have kd := c_mside (I := I) (L := L) hL (n := n) (p := p) hn hn1 h10 hp (ρ := 177) (Or.inl rfl) (oX177 hL) (may := 7) (by decide)
  rw [← hb] at kd ⊢
  obtain ⟨R, eR⟩ : ∃ R, R = sentW b n p X rl := ⟨_, rfl⟩
  rw [← eR]
  have p10 : ∀ J : Nat → Nat → Int, SdR 177 I J (sideW b n 7 p) → tmW kX12_sentence 5 0 0 10 [some (tR 168), none, none, none, none] [tI (if (sideW b n 7 p).1 = true then 1 else 0)] (S, J, L) (SePost S I L R) := fun J hJ => by
    obtain ⟨s1, s2, s3⟩ := hJ
    have fJ : RF I J := s1.rf (Or.inl rfl)
    unfold sentW at eR
    by_cases d : (sideW b n 7 p).1 = false
    · rw [if_pos d] at eR
      rw [if_neg (by rw [d]; decide)]
      have fin : SePost S I L R (some (tI 0)) (S, J, L) := by rw [eR]; exact ⟨rfl, J, rfl, fJ, s2, fun z => by cases z⟩
      refine wa_if_ne 15 dX12_sentence_10 (by decide) (by exact ⟨by omega, by omega⟩) (fun c_10 => ?_) (fun c_10 => ?_)
      · omega
      · refine wa_iconst dX12_sentence_13 ?_
        refine wa_zreturn dX12_sentence_14 rfl (by first | exact Or.inl rfl | exact Or.inr rfl) ?_
        exact fin
    · rw [if_neg d] at eR
      have d1 : (sideW b n 7 p).1 = true := by
        cases z : (sideW b n 7 p).1 with
        | true => rfl
        | false => exact absurd z d
      rw [if_pos d1]
      obtain ⟨t1, t2, t3⟩ := s3 d1
      have u := sd_ok (b := b) (n := n) (may := 7) (p := p) hp d1
      obtain ⟨w, hw⟩ : ∃ w, w = (sideW b n 7 p).2.2 := ⟨_, rfl⟩
      obtain ⟨q, hq⟩ : ∃ q, q = skp b n (sideW b n 7 p).2.1 := ⟨_, rfl⟩
      have sk := skp_b (b := b) u.2.2.2.1
      have wl : w.length ≤ 120 := by have := u.2.2.1; have := u.2.2.2.1; rw [hw]; omega
      rw [← hw, ← hq] at eR
      rw [← hw] at t1 t2 t3
      generalize hV : va_up J 168 (va_up (J 168) 12 (w.length : Int)) = V
      have gV : ∀ a, a ≠ 168 → V a = J a := fun a ha => by rw [← hV, vup_n ha]
      have v8 : ∀ k, k ≠ 12 → V 168 k = J 168 k := fun k hk => by rw [← hV, vup_s, vup_n hk]
      have fV : RF I V := fJ.trans' (by rw [← hV]; exact RF.up (by omega))
      have v16 : V 168 16 = ((letW w : Nat) : Int) := by rw [v8 16 (by decide)]; exact t2
      have v176 : V 176 = b := by rw [fV.1 176 (by decide) (by decide) (by decide) (by decide) (by decide) (by decide) (by decide), ← hb]
      have v9 : V 168 9 = (n : Int) := by rw [fV.2 9 (by decide) (by decide) (by decide) (by decide) (by decide) (by decide) (by decide) (by decide)]; exact hn
      have ks := c_mskips (I := V) (L := L) hL (n := n) (p := (sideW b n 7 p).2.1) v9 hn1 (by rw [v8 10 (by decide)]; exact s2) u.2.2.2.1
      rw [v176, ← hq] at ks
      rw [← hq] at sk
      generalize hM2 : atQ V q = M at ks
      have gM : ∀ a, a ≠ 168 → M a = J a := fun a ha => by rw [← hM2, atQ_n ha, gV a ha]
      have m8 : ∀ k, k ≠ 10 → M 168 k = V 168 k := fun k hk => by rw [← hM2, atQ_k hk]
      have m10 : M 168 10 = (q : Int) := by rw [← hM2]; exact atQ_10
      have fM : RF I M := fV.trans' (by rw [← hM2]; exact RF.at _)
      have m176 : M 176 = b := by rw [fM.1 176 (by decide) (by decide) (by decide) (by decide) (by decide) (by decide) (by decide), ← hb]
      have m9 : M 168 9 = (n : Int) := by rw [m8 9 (by decide)]; exact v9
      have j9 : J 169 = I 169 := s1.1 169 (by decide) (by decide) (by decide)
      have e9 : M 169 = I 169 := by rw [gM 169 (by decide)]; exact j9
      have kb := c_mbyte (I := M) (L := L) hL (n := n) (p := q) m9 hn1 sk.2
      rw [m176] at kb
      have rb : inR (byt b n q) := by rw [hb]; exact byt_r hI n q
      have m12 : M 168 12 = (w.length : Int) := by rw [m8 12 (by decide), ← hV, vup_s, vup_s]
      have m7 : ∀ i, i < w.length → M 177 i = w.getD i 0 := fun i hi => by rw [gM 177 (by decide)]; exact t3 i hi
      have wk : ∀ {r : Option tmV} {h' : tmH}, SePost S M L R r h' → SePost S I L R r h' := fun hr => by
        obtain ⟨rfl, K, rfl, k1, k2⟩ := hr
        exact ⟨rfl, K, rfl, fM.trans' k1, k2⟩
      have rule : byt b n q = 62 → tmW kX12_sentence 5 0 0 47 [some (tR 168), some (tI (letW w : Nat)), some (tI (byt b n q)), none, none] [] (S, M, L) (SePost S I L R) := fun z => by
        have hqn : q < n := by
          by_cases y : q < n
          · exact y
          · unfold byt at z; rw [if_neg y] at z; omega
        rw [if_pos z] at eR
        exact (se_rule (L := L) hL (I := M) m176 m9 hn1 hp hX (hM.row e9) h6 hok (by rw [e9]; exact hR) d1 hw hq m10 m12 m7 hqn eR).wk (fun r h' hr => wk hr)
      have term : byt b n q ≠ 62 → tmW kX12_sentence 5 0 0 120 [some (tR 168), some (tI (letW w : Nat)), some (tI (byt b n q)), none, none] [] (S, M, L) (SePost S I L R) := fun z => by
        rw [if_neg z] at eR
        exact (se_term (L := L) hL (I := M) m176 m9 hn1 hp hX (hM.row e9) h6 hok (by rw [e9]; exact hR) d1 hw hq m10 m12 m7 sk.2 rb eR).wk (fun r h' hr => wk hr)
      refine wa_if_ne 15 dX12_sentence_10 (by decide) (by first | exact rb | exact ⟨by omega, by omega⟩) (fun c_10 => ?_) (fun c_10 => ?_)
      · refine wa_aload_n dX12_sentence_15 rfl ?_
        refine wa_aload_n dX12_sentence_16 rfl ?_
        refine wt_getI dX12_sentence_17 FX12_204 (by assumption) ?_
        try first | rw [t1] | rw [v16] | rw [m10] | skip
        refine wt_putI dX12_sentence_20 FX12_216 (WX12_12 _ _) (by assumption) (by first | exact rb | exact ⟨by omega, by omega⟩) ?_
        rw [hV]
        refine wa_aload_n dX12_sentence_23 rfl ?_
        refine wt_getI dX12_sentence_24 FX12_207 (by assumption) ?_
        try first | rw [t1] | rw [v16] | rw [m10] | skip
        refine wa_istore_n dX12_sentence_27 (by decide) ?_
        refine wa_aload_n dX12_sentence_28 rfl ?_
        refine wa_callVf (ci := 12) dX12_sentence_29 KX12_skips LX12_201 ⟨_, _, rfl, by decide⟩ o168 (ks) (by decide) rfl rfl (Nat.le_of_ble_eq_true rfl) rfl rfl ?_
        refine wa_aload_n dX12_sentence_32 rfl ?_
        refine wa_aload_n dX12_sentence_33 rfl ?_
        refine wt_getI dX12_sentence_34 FX12_195 (by assumption) ?_
        try first | rw [t1] | rw [v16] | rw [m10] | skip
        refine wa_callVf (ci := 12) dX12_sentence_37 KX12_byteAt LX12_198 ⟨_, _, rfl, by decide⟩ o168 (kb) (by decide) rfl rfl (Nat.le_of_ble_eq_true rfl) rfl rfl ?_
        refine wa_istore_n dX12_sentence_40 (by decide) ?_
        refine wa_iload_n dX12_sentence_41 rfl ?_
        refine wa_bipush dX12_sentence_42 rfl ?_
        refine wa_icmp_ne 120 dX12_sentence_44 (by decide) (by first | exact rb | exact ⟨by omega, by omega⟩) (by first | exact rb | exact ⟨by omega, by omega⟩) (fun c_44 => ?_) (fun c_44 => ?_)
        · exact term (by omega)
        · exact rule (by omega)
      · omega
  refine wa_aload_n dX12_sentence_0 rfl ?_
  refine wa_aload_n dX12_sentence_1 rfl ?_
  refine wt_getR dX12_sentence_2 FX12_34 (by assumption) (by assumption) ?_
  refine wa_bipush dX12_sentence_5 rfl ?_
  refine wa_callV (ci := 12) dX12_sentence_7 KX12_side LX12_222 ⟨_, _, rfl, by decide⟩ o168 (kd) (by decide) rfl (Nat.le_of_ble_eq_true rfl) rfl rfl (fun r h' hq => ?_)
  obtain ⟨rfl, J, rfl, hJ⟩ := hq
  exact p10 J hJ
end S99zh
