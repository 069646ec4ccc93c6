/-! ===== 89: TriggerMatches: rule, finding ===== -/
abbrev fndA (A : AS) (r : Nat) : List E6 := fnd6 A.1.1 (rlL A.1.2 r) (r : Int)
def ruleX (A : AS) (r : Nat) (w : Int) : Int :=
  if w = 0 then bcN (letW (rlL A.1.2 r)) else if w = 1 then (((rlL A.1.2 r).countP (fun s => decide (s < 7)) : Nat) : Int) else if w = 2 then (((rlR A.1.2 r).countP (fun s => decide (s < 7)) : Nat) : Int) else if w = 3 then ((fndA A r).length : Int) else (((fndA A r).countP (notLate A.2.2.1.2) : Nat) : Int)
abbrev isR (A : AS) (r : Int) : Prop := 0 ≤ r ∧ r < A.1.2.length
def spRule (A : AS) (r w : Int) : Int × AS := if isR A r ∧ 0 ≤ w ∧ w ≤ 4 then (ruleX A r.toNat w, A) else (-2, aRf A 0)
def e6At (e : E6) (w : Nat) : Int := tmPart e.1 e.2.1 e.2.2.1 e.2.2.2.1 e.2.2.2.2.1 e.2.2.2.2.2 w
def findX (A : AS) (r k w : Nat) : Int := match (fndA A r)[k]? with
  | none => -1
  | some e => e6At e w
def spFinding (A : AS) (r k w : Int) : Int × AS := if isR A r ∧ 0 ≤ k ∧ 0 ≤ w ∧ w ≤ 4 then (findX A r.toNat k.toNat w.toNat, A) else (-2, aRf A 0)
section S89
variable {S : tmS} {I : Nat → Nat → Int} {L : Nat → Nat → Int64}
/-- Search has looked -/
theorem CR.look {I' : Nat → Nat → Int} {L' : Nat → Nat → Int64} {m m' : Nat} {A : AS} (h : CR S I L m A) (hm : m ≤ m') {r : Nat} (f : LkFr I I' L L') (h3 : I' 143 3 = (r : Int)) (hf : Found I' L' (prS S r) (lfS S I r) A.1.1.1 r) : CR S I' L' m' A ∧ MFr S I S I' := by
  obtain ⟨c1, c2, c3, c4, c5⟩ := h
  have e : ∀ a, a ≠ 143 → a ≠ 144 → a ≠ 146 → a ≠ 147 → a ≠ 148 → I' a = I a := f.1
  have pf : PatFr S I S I' := ⟨Nat.le_refl _, fun a a1 _ => ⟨rfl, rfl, rfl, e a (by omega) (by omega) (by omega) (by omega) (by omega)⟩⟩
  obtain ⟨n1, n2, n3, ⟨us, n4⟩, n5, n6⟩ := c2
  have e' : ∀ a, a < 143 ∨ 148 < a → I' a = I a := fun a ha => e a (by omega) (by omega) (by omega) (by omega) (by omega)
  refine ⟨⟨c1, ⟨⟨by rw [e' 2 (by omega)]; exact n1.1, fun t ht => ?_⟩, n2, ?_, ⟨us, ?_⟩, n5.pf pf (by rw [e' 1 (by omega)]) (fun _ _ => rfl), fun x hx hx3 => ?_⟩, c3.fr pf (fun a a1 a2 => e' a (by omega)) (fun _ _ _ => rfl), c4, c5.fr hm (fun a ha => e' a (by omega)) (by rw [e' 155 (by omega)]) (by rw [e' 155 (by omega)]; exact c5.2.2.2.2.2)⟩, fun a a1 a2 => e' a (by omega)⟩
  · rw [e' 3 (by omega), e' 4 (by omega), e' 5 (by omega), e' 6 (by omega), e' 7 (by omega)]; exact n1.2 t ht
  · rw [e' 3 (by omega), e' 4 (by omega), e' 5 (by omega), e' 7 (by omega), e' 134 (by omega)]; exact n3
  · unfold PlOK at n4 ⊢
    rw [e' 133 (by omega), e' 134 (by omega), e' 135 (by omega)]; exact n4
  · have : x = r := by rw [h3] at hx3; omega
    subst this
    have e1 : lfS S I' x = lfS S I x := by
      unfold lfS
      have := prS_ge n5 hx
      rw [e' _ (by omega)]
    rw [e1]; exact hf
/-- look, against the pure state -/
theorem c_lookA {m : Nat} {A : AS} (h : CR S I L m A) {r : Nat} (hr : r < A.1.2.length) : tmC yX4_look kX4_look 8 0 0 [tR 143, tI r] (S, I, L) (fun q h' => q = some (tR 144) ∧ ∃ I' L', h' = (S, I', L') ∧ CR S I' L' (m + 1) A ∧ MFr S I S I' ∧ ∃ P G T, FnOK (I' 144 1) (L' 145) r P G T ∧ fndA A r = T.map (fun q => ((r : Int), q.1, q.2.1, q.2.2, P q, G q))) := by
  have hn := h.2.1
  have hrl := hn.2.2.2.2.1
  obtain ⟨w1, w2, w3, w4⟩ := hrl.ws
  obtain ⟨v1, v2⟩ := w2.2.2 r hr
  refine (c_look h.1 hn.tinv hrl.1 hrl.2.1 hr v1 v2 (fun z => hn.2.2.2.2.2 r hr z)).weaken (fun q h' hq => ?_)
  obtain ⟨rfl, I', L', rfl, f, h3, hf⟩ := hq
  obtain ⟨a, b⟩ := h.look (m' := m + 1) (by omega) f h3 hf
  refine ⟨rfl, I', L', rfl, a, b, _, _, _, hf, ?_⟩
  have e := f.found (p := prS S r) (lf := lfS S I r) (n := A.1.1.1) (prS_ge hrl hr)
  rw [e.1, e.2.1, e.2.2]
  exact (hn.ent hr).symm
theorem nInT_map {lim : Int} {P G : Int × Int × Int → Int} {r : Int} : ∀ T : List (Int × Int × Int), nInT lim G T = (T.map (fun q => (r, q.1, q.2.1, q.2.2, P q, G q))).countP (notLate lim) := by
  intro T
  unfold nInT
  rw [List.countP_map]
  rfl
set_option maxRecDepth 20000 in
theorem c_rule {m : Nat} {A : AS} (h : CR S I L m A) (hm : m ≤ 1000) (r0 w : Int) (hr0 : inR r0) (hw : inR w) : tmC yX11_rule kX11_rule 9 0 0 [tR 0, tI r0, tI w] (S, I, L) (CPost S I (m + 1) (tI (spRule A r0 w).1) (spRule A r0 w).2) := by
  refine tmC.mk (lv := [some (tR 0), some (tI r0), some (tI w), none]) 1 ⟨rfl, by decide +kernel, by decide⟩ rfl rfl ?_
  have hL := h.1
  have o0 := oX0 hL
  have r0_0 := rX0_0 hL
  have r0_1 := rX0_1 hL
  have r0_2 := rX0_2 hL
  have r0_3 := rX0_3 hL
  have r0_4 := rX0_4 hL
  have r0_5 := rX0_5 hL
  have r0_6 := rX0_6 hL
  have r0_7 := rX0_7 hL
  have r0_8 := rX0_8 hL
  have o1 := oX1 hL
  have r1_0 := rX1_0 hL
  have r1_1 := rX1_1 hL
  have r1_3 := rX1_3 hL
  have o143 := oX143 hL
  have r143_0 := rX143_0 hL
  have r143_1 := rX143_1 hL
  have r143_2 := rX143_2 hL
  have r143_4 := rX143_4 hL
  have r143_5 := rX143_5 hL
  have r143_6 := rX143_6 hL
  have o144 := oX144 hL
  have r144_0 := rX144_0 hL
  have hrl := h.2.1.2.2.2.2.1
  have k1 := c_hasRule (L := L) hL hrl.1 r0 hr0
  have hrf := c_rf0 h hm
  by_cases c : isR A r0
  · obtain ⟨rr, rfl⟩ : ∃ rr : Nat, r0 = (rr : Int) := ⟨r0.toNat, by have := c.1; omega⟩
    have hrr : rr < A.1.2.length := by have := c.2; omega
    rw [if_pos c] at k1
    obtain ⟨w1, w2, w3, w4⟩ := hrl.ws
    obtain ⟨v1, v2⟩ := w2.2.2 rr hrr
    obtain ⟨_, _, rep⟩ := w1 rr hrr
    have kra := c_ruleAt (L := L) hL hrl.1 hrl.2.1 rr hrr v1
    obtain ⟨q1, q2, q3, q4, q5, q6, q7, q8, q9, q10, q11⟩ := id v2
    have sg9 : ∀ i, i < szS S I rr → 0 ≤ I (prS S rr + 1) i ∧ I (prS S rr + 1) i ≤ 9 := fun i hi => ⟨(q8 i hi).1, (q8 i hi).2.1⟩
    have kl := c_lettersIn (L := L) q2 q3 (Nat.le_refl _) q7 0 (lfS S I rr) (by omega) (by omega) sg9
    rw [Nat.sub_zero, rep.let] at kl
    have kl : tmC yX2_lettersIn kX2_lettersIn 1 0 0 [tR (prS S rr), tI 0, tI (lfS S I rr : Nat)] (S, I, L) (tmF (some (tI (letW (rlL A.1.2 rr) : Nat))) (S, I, L)) := kl
    have hru := w4.at hrr
    have kb := c_bitCount (S := S) (I := I) (L := L) (letW (rlL A.1.2 rr)) (letW_lt _ (fun s hs => (hru.1 s hs).2))
    have ks1 := c_signsIn (L := L) q2 q3 (Nat.le_refl _) q7 0 (lfS S I rr) (by omega) (by omega)
    rw [Nat.sub_zero, rep.cntL] at ks1
    have ks1 : tmC yX2_signsIn kX2_signsIn 1 0 0 [tR (prS S rr), tI 0, tI (lfS S I rr : Nat)] (S, I, L) (tmF (some (tI (((rlL A.1.2 rr).countP (fun s => decide (s < 7)) : Nat) : Int))) (S, I, L)) := ks1
    have ks2 := c_signsIn (L := L) q2 q3 (Nat.le_refl _) q7 (lfS S I rr) (szS S I rr) (by omega) (by omega)
    rw [rep.cntR] at ks2
    have klk := c_lookA h hrr
    by_cases c2 : 0 ≤ w ∧ w ≤ 4
    · have e : spRule A rr w = (ruleX A rr w, A) := by unfold spRule; rw [if_pos ⟨c, c2⟩]; rfl
      rw [e]
      have klim := h.2.2.2.2.2.1
      refine wa_aload_n dX11_rule_0 rfl ?_
      refine wt_getR dX11_rule_1 FX11_10 (by assumption) (by assumption) ?_
      refine wa_iload_n dX11_rule_4 rfl ?_
      refine wa_callVf (ci := 6) dX11_rule_5 KX6_hasRule LX11_158 ⟨_, _, rfl, by decide⟩ o1 (k1) (by decide) rfl rfl (Nat.le_of_ble_eq_true rfl) rfl rfl ?_
      refine wa_if_ne 18 dX11_rule_8 (by decide) (by first | exact hw | exact ⟨by omega, by omega⟩) (fun c_8 => ?_) (fun c_8 => ?_)
      · refine wa_aload_n dX11_rule_18 rfl ?_
        refine wt_getR dX11_rule_19 FX11_10 (by assumption) (by assumption) ?_
        refine wa_iload_n dX11_rule_22 rfl ?_
        refine wa_callVf (ci := 6) dX11_rule_23 KX6_ruleAt LX11_161 ⟨_, _, rfl, by decide⟩ o1 (kra) (by decide) rfl rfl (Nat.le_of_ble_eq_true rfl) rfl rfl ?_
        refine wa_astore_n dX11_rule_26 (by decide) ?_
        refine wa_iload_n dX11_rule_27 rfl ?_
        by_cases h0 : w = 0
        · subst h0
          refine wa_tableIn 64 dX11_rule_28 hw (by omega) (by omega) (off := 36) rfl (by decide) ?_
          refine wa_aload_n dX11_rule_64 rfl ?_
          refine wa_iconst dX11_rule_65 ?_
          refine wa_aload_n dX11_rule_66 rfl ?_
          refine wt_getI dX11_rule_67 FX11_165 q2.1 ?_
          try first | rw [q3] | rw [q4] | skip
          refine wa_callVf (ci := 2) dX11_rule_70 KX2_lettersIn LX11_170 ⟨_, _, rfl, by decide⟩ q2.1 (kl) (by decide) rfl rfl (Nat.le_of_ble_eq_true rfl) rfl rfl ?_
          refine wa_callSf dX11_rule_73 KJ6_bitCount_0f7a4 LX11_174 (kb) (by decide) rfl rfl (Nat.le_of_ble_eq_true rfl) rfl rfl ?_
          refine wa_ireturn dX11_rule_76 rfl ?_
          exact h.stay rfl rfl
        · by_cases h1 : w = 1
          · subst h1
            refine wa_tableIn 77 dX11_rule_28 hw (by omega) (by omega) (off := 49) rfl (by decide) ?_
            refine wa_aload_n dX11_rule_77 rfl ?_
            refine wa_iconst dX11_rule_78 ?_
            refine wa_aload_n dX11_rule_79 rfl ?_
            refine wt_getI dX11_rule_80 FX11_165 q2.1 ?_
            try first | rw [q3] | rw [q4] | skip
            refine wa_callVf (ci := 2) dX11_rule_83 KX2_signsIn LX11_179 ⟨_, _, rfl, by decide⟩ q2.1 (ks1) (by decide) rfl rfl (Nat.le_of_ble_eq_true rfl) rfl rfl ?_
            refine wa_ireturn dX11_rule_86 rfl ?_
            exact h.stay rfl rfl
          · by_cases h2 : w = 2
            · subst h2
              refine wa_tableIn 87 dX11_rule_28 hw (by omega) (by omega) (off := 59) rfl (by decide) ?_
              refine wa_aload_n dX11_rule_87 rfl ?_
              refine wa_aload_n dX11_rule_88 rfl ?_
              refine wt_getI dX11_rule_89 FX11_165 q2.1 ?_
              try first | rw [q3] | rw [q4] | skip
              refine wa_aload_n dX11_rule_92 rfl ?_
              refine wt_getI dX11_rule_93 FX11_182 q2.1 ?_
              try first | rw [q3] | rw [q4] | skip
              refine wa_callVf (ci := 2) dX11_rule_96 KX2_signsIn LX11_179 ⟨_, _, rfl, by decide⟩ q2.1 (ks2) (by decide) rfl rfl (Nat.le_of_ble_eq_true rfl) rfl rfl ?_
              refine wa_ireturn dX11_rule_99 rfl ?_
              exact h.stay rfl rfl
            · by_cases h3 : w = 3
              · subst h3
                refine wa_tableIn 100 dX11_rule_28 hw (by omega) (by omega) (off := 72) rfl (by decide) ?_
                refine wa_aload_n dX11_rule_100 rfl ?_
                refine wt_getR dX11_rule_101 FX11_48 (by assumption) (by assumption) ?_
                refine wa_iload_n dX11_rule_104 rfl ?_
                refine wa_callV (ci := 4) dX11_rule_105 KX4_look LX11_183 ⟨_, _, rfl, by decide⟩ o143 (klk) (by decide) rfl (Nat.le_of_ble_eq_true rfl) rfl rfl (fun r h' hq => ?_)
                obtain ⟨rfl, I', L', rfl, s1, s2, P, G, T, t1, t2⟩ := hq
                refine wt_getI dX11_rule_108 FX11_187 o144 ?_
                try first | rw [q3] | rw [q4] | skip
                refine wa_ireturn dX11_rule_111 rfl ?_
                refine ⟨?_, S, I', L', rfl, s1, s2⟩
                show some (tI (I' 144 1)) = some (tI ((fndA A rr).length : Int))
                rw [t1.1, t2, List.length_map]
              · obtain rfl : w = 4 := by omega
                refine wa_tableIn 112 dX11_rule_28 hw (by omega) (by omega) (off := 84) rfl (by decide) ?_
                refine wa_aload_n dX11_rule_112 rfl ?_
                refine wt_getR dX11_rule_113 FX11_48 (by assumption) (by assumption) ?_
                refine wa_iload_n dX11_rule_116 rfl ?_
                refine wa_callV (ci := 4) dX11_rule_117 KX4_look LX11_183 ⟨_, _, rfl, by decide⟩ o143 (klk) (by decide) rfl (Nat.le_of_ble_eq_true rfl) rfl rfl (fun r h' hq => ?_)
                obtain ⟨rfl, I', L', rfl, s1, s2, P, G, T, t1, t2⟩ := hq
                have kc := c_countInTime (S := S) (I := I') (L := L') hL (rr := (rr : Int)) ⟨by omega, by have := hrl.2.1; omega⟩ t1 A.2.2.1.2 ⟨by omega, by omega⟩
                refine wa_aload_n dX11_rule_120 rfl ?_
                refine wt_getI dX11_rule_121 FX11_85 (by assumption) ?_
                try first | rw [q3] | rw [q4] | skip
                rw [s1.2.2.2.2.2.1.1]
                refine wa_callVf (ci := 1) dX11_rule_124 KX1_countInTime LX11_190 ⟨_, _, rfl, by decide⟩ o144 (kc) (by decide) rfl rfl (Nat.le_of_ble_eq_true rfl) rfl rfl ?_
                refine wa_ireturn dX11_rule_127 rfl ?_
                refine ⟨?_, S, I', L', rfl, s1, s2⟩
                show some (tI ((nInT A.2.2.1.2 G T : Nat) : Int)) = some (tI (((fndA A rr).countP (notLate A.2.2.1.2) : Nat) : Int))
                rw [t2, ← nInT_map]
      · omega
    · have e : spRule A rr w = (-2, aRf A 0) := by unfold spRule; rw [if_neg (fun z => c2 z.2)]
      rw [e]
      refine wa_aload_n dX11_rule_0 rfl ?_
      refine wt_getR dX11_rule_1 FX11_10 (by assumption) (by assumption) ?_
      refine wa_iload_n dX11_rule_4 rfl ?_
      refine wa_callVf (ci := 6) dX11_rule_5 KX6_hasRule LX11_158 ⟨_, _, rfl, by decide⟩ o1 (k1) (by decide) rfl rfl (Nat.le_of_ble_eq_true rfl) rfl rfl ?_
      refine wa_if_ne 18 dX11_rule_8 (by decide) (by first | exact hw | exact ⟨by omega, by omega⟩) (fun c_8 => ?_) (fun c_8 => ?_)
      · refine wa_aload_n dX11_rule_18 rfl ?_
        refine wt_getR dX11_rule_19 FX11_10 (by assumption) (by assumption) ?_
        refine wa_iload_n dX11_rule_22 rfl ?_
        refine wa_callVf (ci := 6) dX11_rule_23 KX6_ruleAt LX11_161 ⟨_, _, rfl, by decide⟩ o1 (kra) (by decide) rfl rfl (Nat.le_of_ble_eq_true rfl) rfl rfl ?_
        refine wa_astore_n dX11_rule_26 (by decide) ?_
        refine wa_iload_n dX11_rule_27 rfl ?_
        refine wa_tableOut 128 dX11_rule_28 hw (by omega) (by decide) ?_
        refine wa_aload_n dX11_rule_128 rfl ?_
        refine wa_bipush dX11_rule_129 rfl ?_
        refine wa_callV (ci := 11) dX11_rule_131 KX11_refuse LX11_88 ⟨_, _, rfl, by decide⟩ o0 (hrf) (by decide) rfl (Nat.le_of_ble_eq_true rfl) rfl rfl (fun r h' hq => ?_)
        obtain ⟨rfl, hq⟩ := hq
        refine wa_ireturn dX11_rule_134 rfl ?_
        exact ⟨rfl, hq⟩
      · omega
  · rw [if_neg c] at k1
    have e : spRule A r0 w = (-2, aRf A 0) := by unfold spRule; rw [if_neg (fun z => c z.1)]
    rw [e]
    refine wa_aload_n dX11_rule_0 rfl ?_
    refine wt_getR dX11_rule_1 FX11_10 (by assumption) (by assumption) ?_
    refine wa_iload_n dX11_rule_4 rfl ?_
    refine wa_callVf (ci := 6) dX11_rule_5 KX6_hasRule LX11_158 ⟨_, _, rfl, by decide⟩ o1 (k1) (by decide) rfl rfl (Nat.le_of_ble_eq_true rfl) rfl rfl ?_
    refine wa_if_ne 18 dX11_rule_8 (by decide) (by first | exact hw | exact ⟨by omega, by omega⟩) (fun c_8 => ?_) (fun c_8 => ?_)
    · omega
    · refine wa_aload_n dX11_rule_11 rfl ?_
      refine wa_bipush dX11_rule_12 rfl ?_
      refine wa_callV (ci := 11) dX11_rule_14 KX11_refuse LX11_88 ⟨_, _, rfl, by decide⟩ o0 (hrf) (by decide) rfl (Nat.le_of_ble_eq_true rfl) rfl rfl (fun r h' hq => ?_)
      obtain ⟨rfl, hq⟩ := hq
      refine wa_ireturn dX11_rule_17 rfl ?_
      exact ⟨rfl, hq⟩
set_option maxRecDepth 20000 in
theorem c_finding {m : Nat} {A : AS} (h : CR S I L m A) (hm : m ≤ 1000) (r0 k w : Int) (hr0 : inR r0) (hk : inR k) (hw : inR w) : tmC yX11_finding kX11_finding 9 0 0 [tR 0, tI r0, tI k, tI w] (S, I, L) (CPost S I (m + 1) (tI (spFinding A r0 k w).1) (spFinding A r0 k w).2) := by
  refine tmC.mk (lv := [some (tR 0), some (tI r0), some (tI k), some (tI w), none]) 1 ⟨rfl, by decide +kernel, by decide⟩ rfl rfl ?_
  have hL := h.1
  have o0 := oX0 hL
  have r0_0 := rX0_0 hL
  have r0_1 := rX0_1 hL
  have r0_2 := rX0_2 hL
  have r0_3 := rX0_3 hL
  have r0_4 := rX0_4 hL
  have r0_5 := rX0_5 hL
  have r0_6 := rX0_6 hL
  have r0_7 := rX0_7 hL
  have r0_8 := rX0_8 hL
  have o1 := oX1 hL
  have r1_0 := rX1_0 hL
  have r1_1 := rX1_1 hL
  have r1_3 := rX1_3 hL
  have o143 := oX143 hL
  have r143_0 := rX143_0 hL
  have r143_1 := rX143_1 hL
  have r143_2 := rX143_2 hL
  have r143_4 := rX143_4 hL
  have r143_5 := rX143_5 hL
  have r143_6 := rX143_6 hL
  have o144 := oX144 hL
  have r144_0 := rX144_0 hL
  have o145 := oX145 hL
  have hrl := h.2.1.2.2.2.2.1
  have k1 := c_hasRule (L := L) hL hrl.1 r0 hr0
  have hrf := c_rf0 h hm
  by_cases c : isR A r0 ∧ 0 ≤ k ∧ 0 ≤ w ∧ w ≤ 4
  · have e : spFinding A r0 k w = (findX A r0.toNat k.toNat w.toNat, A) := by unfold spFinding; rw [if_pos c]
    rw [e]
    rw [if_pos c.1] at k1
    obtain ⟨rr, rfl⟩ : ∃ rr : Nat, r0 = (rr : Int) := ⟨r0.toNat, by have := c.1.1; omega⟩
    obtain ⟨kk, rfl⟩ : ∃ kk : Nat, k = (kk : Int) := ⟨k.toNat, by omega⟩
    obtain ⟨ww, rfl⟩ : ∃ ww : Nat, w = (ww : Int) := ⟨w.toNat, by omega⟩
    simp only [Int.toNat_natCast]
    have hrr : rr < A.1.2.length := by have := c.1.2; omega
    have klk := c_lookA h hrr
    have rest : ∀ (I' : Nat → Nat → Int) (L' : Nat → Nat → Int64), CR S I' L' (m + 1) A → MFr S I S I' → (∃ P G T, FnOK (I' 144 1) (L' 145) rr P G T ∧ fndA A rr = T.map (fun q => ((rr : Int), q.1, q.2.1, q.2.2, P q, G q))) → tmW kX11_finding 9 0 0 41 [some (tR 0), some (tI rr), some (tI kk), some (tI ww), some (tR 144)] [] (S, I', L') (CPost S I (m + 1) (tI (findX A rr kk ww)) A) := by
      intro I' L' s1 s2 ⟨P, G, T, t1, t2⟩
      have hfin : LFin S 144 200 := ⟨o144, r144_0, o145⟩
      by_cases z : kk < T.length
      · obtain ⟨t3, t4, t5⟩ := t1
        have hq := List.getElem?_eq_getElem z
        obtain ⟨u1, u2, u3, u4, u5, u6⟩ := t5 kk _ hq
        have kt := c_tell (I := I') (L := L') hfin t3 t4 kk ww z (by omega) ⟨by omega, by have := hrl.2.1; omega⟩ u2 u3 u4 u5 u6 u1
        refine wa_aload dX11_finding_41 rfl ?_
        refine wa_iload_n dX11_finding_43 rfl ?_
        refine wa_iload_n dX11_finding_44 rfl ?_
        refine wa_callVf (ci := 1) dX11_finding_45 KX1_tell LX11_193 ⟨_, _, rfl, by decide⟩ o144 (kt) (by decide) rfl rfl (Nat.le_of_ble_eq_true rfl) rfl rfl ?_
        refine wa_ireturn dX11_finding_48 rfl ?_
        refine ⟨?_, S, I', L', rfl, s1, s2⟩
        unfold findX
        rw [t2, List.getElem?_map, hq]
        rfl
      · have kt := c_tellNo (I := I') (L := L') hfin t1.1 t1.2.1 (kk : Int) (ww : Int) ⟨by omega, by omega⟩ ⟨by omega, by omega⟩ (by omega)
        refine wa_aload dX11_finding_41 rfl ?_
        refine wa_iload_n dX11_finding_43 rfl ?_
        refine wa_iload_n dX11_finding_44 rfl ?_
        refine wa_callVf (ci := 1) dX11_finding_45 KX1_tell LX11_193 ⟨_, _, rfl, by decide⟩ o144 (kt) (by decide) rfl rfl (Nat.le_of_ble_eq_true rfl) rfl rfl ?_
        refine wa_ireturn dX11_finding_48 rfl ?_
        refine ⟨?_, S, I', L', rfl, s1, s2⟩
        unfold findX
        rw [t2, List.getElem?_map, List.getElem?_eq_none (by omega)]
        rfl
    refine wa_aload_n dX11_finding_0 rfl ?_
    refine wt_getR dX11_finding_1 FX11_10 (by assumption) (by assumption) ?_
    refine wa_iload_n dX11_finding_4 rfl ?_
    refine wa_callVf (ci := 6) dX11_finding_5 KX6_hasRule LX11_158 ⟨_, _, rfl, by decide⟩ o1 (k1) (by decide) rfl rfl (Nat.le_of_ble_eq_true rfl) rfl rfl ?_
    refine wa_if_eq 24 dX11_finding_8 (by decide) (by first | exact hk | exact hw | exact ⟨by omega, by omega⟩) (fun c_8 => ?_) (fun c_8 => ?_)
    · omega
    · refine wa_iload_n dX11_finding_11 rfl ?_
      refine wa_if_lt 24 dX11_finding_12 (by decide) (by first | exact hk | exact hw | exact ⟨by omega, by omega⟩) (fun c_12 => ?_) (fun c_12 => ?_)
      · omega
      · refine wa_iload_n dX11_finding_15 rfl ?_
        refine wa_if_lt 24 dX11_finding_16 (by decide) (by first | exact hk | exact hw | exact ⟨by omega, by omega⟩) (fun c_16 => ?_) (fun c_16 => ?_)
        · omega
        · refine wa_iload_n dX11_finding_19 rfl ?_
          refine wa_iconst dX11_finding_20 ?_
          refine wa_icmp_le 31 dX11_finding_21 (by decide) (by first | exact hk | exact hw | exact ⟨by omega, by omega⟩) (by first | exact hk | exact hw | exact ⟨by omega, by omega⟩) (fun c_21 => ?_) (fun c_21 => ?_)
          · refine wa_aload_n dX11_finding_31 rfl ?_
            refine wt_getR dX11_finding_32 FX11_48 (by assumption) (by assumption) ?_
            refine wa_iload_n dX11_finding_35 rfl ?_
            refine wa_callV (ci := 4) dX11_finding_36 KX4_look LX11_183 ⟨_, _, rfl, by decide⟩ o143 (klk) (by decide) rfl (Nat.le_of_ble_eq_true rfl) rfl rfl (fun r h' hq => ?_)
            obtain ⟨rfl, I', L', rfl, s1, s2, s3⟩ := hq
            refine wa_astore dX11_finding_39 (by decide) ?_
            exact rest I' L' s1 s2 s3
          · omega
  · have e : spFinding A r0 k w = (-2, aRf A 0) := by unfold spFinding; rw [if_neg c]
    rw [e]
    have at24 : tmW kX11_finding 9 0 0 24 [some (tR 0), some (tI r0), some (tI k), some (tI w), none] [] (S, I, L) (CPost S I (m + 1) (tI (-2, aRf A 0).1) (-2, aRf A 0).2) := by
      refine wa_aload_n dX11_finding_24 rfl ?_
      refine wa_bipush dX11_finding_25 rfl ?_
      refine wa_callV (ci := 11) dX11_finding_27 KX11_refuse LX11_88 ⟨_, _, rfl, by decide⟩ o0 (hrf) (by decide) rfl (Nat.le_of_ble_eq_true rfl) rfl rfl (fun r h' hq => ?_)
      obtain ⟨rfl, hq⟩ := hq
      refine wa_ireturn dX11_finding_30 rfl ?_
      exact ⟨rfl, hq⟩
    by_cases c1 : isR A r0
    · rw [if_pos c1] at k1
      refine wa_aload_n dX11_finding_0 rfl ?_
      refine wt_getR dX11_finding_1 FX11_10 (by assumption) (by assumption) ?_
      refine wa_iload_n dX11_finding_4 rfl ?_
      refine wa_callVf (ci := 6) dX11_finding_5 KX6_hasRule LX11_158 ⟨_, _, rfl, by decide⟩ o1 (k1) (by decide) rfl rfl (Nat.le_of_ble_eq_true rfl) rfl rfl ?_
      refine wa_if_eq 24 dX11_finding_8 (by decide) (by first | exact hk | exact hw | exact ⟨by omega, by omega⟩) (fun c_8 => ?_) (fun c_8 => ?_)
      · omega
      · refine wa_iload_n dX11_finding_11 rfl ?_
        refine wa_if_lt 24 dX11_finding_12 (by decide) (by first | exact hk | exact hw | exact ⟨by omega, by omega⟩) (fun c_12 => ?_) (fun c_12 => ?_)
        · exact at24
        · refine wa_iload_n dX11_finding_15 rfl ?_
          refine wa_if_lt 24 dX11_finding_16 (by decide) (by first | exact hk | exact hw | exact ⟨by omega, by omega⟩) (fun c_16 => ?_) (fun c_16 => ?_)
          · exact at24
          · refine wa_iload_n dX11_finding_19 rfl ?_
            refine wa_iconst dX11_finding_20 ?_
            refine wa_icmp_le 31 dX11_finding_21 (by decide) (by first | exact hk | exact hw | exact ⟨by omega, by omega⟩) (by first | exact hk | exact hw | exact ⟨by omega, by omega⟩) (fun c_21 => ?_) (fun c_21 => ?_)
            · exfalso; exact c ⟨c1, by omega, by omega, by omega⟩
            · exact at24
    · rw [if_neg c1] at k1
      refine wa_aload_n dX11_finding_0 rfl ?_
      refine wt_getR dX11_finding_1 FX11_10 (by assumption) (by assumption) ?_
      refine wa_iload_n dX11_finding_4 rfl ?_
      refine wa_callVf (ci := 6) dX11_finding_5 KX6_hasRule LX11_158 ⟨_, _, rfl, by decide⟩ o1 (k1) (by decide) rfl rfl (Nat.le_of_ble_eq_true rfl) rfl rfl ?_
      refine wa_if_eq 24 dX11_finding_8 (by decide) (by first | exact hk | exact hw | exact ⟨by omega, by omega⟩) (fun c_8 => ?_) (fun c_8 => ?_)
      · exact at24
      · omega
end S89
