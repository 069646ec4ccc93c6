/-! ===== 73: Text.sentence does what the words say, all roads ===== -/
section S73
variable {S : tmS} {I : Nat → Nat → Int} {L : Nat → Nat → Int64}
theorem rows_ts {I I' : Nat → Nat → Int} {n : Nat} (e : ∀ a, 2 ≤ a → a ≤ 7 → I' a = I a) : tsOf I' n = tsOf I n := by
  simp only [tsOf, e 3 (by decide) (by decide), e 4 (by decide) (by decide), e 5 (by decide) (by decide), e 6 (by decide) (by decide), e 7 (by decide) (by decide)]
/-- termSentence, by words -/
theorem ts_words {n nb sz lf pp : Nat} {rl : RuL} {I1 : Nat → Nat → Int} {w : List Int} {v : Option (List Int)} {q : Option tmV} {h' : tmH} (hn : I 2 0 = (n : Int)) (hr : RulesAt S I 1 rl) (f : TxL I I1) (hdp : ∃ d : Nat, I1 155 7 = (d : Int)) (hq : TsPost S I1 L n nb sz lf pp q h') (hlt : tmLet (I1 158) sz 0 0 = letW (v.getD w))
    (ht : letW (v.getD w) = 0 → trmW (tsOf I n) w v = (tsB I1 n sz).map (fun q => endW q.1 (mdL q.2 sz 0) (q.2 (lf - 1)).toNat (q.2 (sz - 1)).toNat)) :
    SwwPost S I L (if byt (I 156) nb (skp (I 156) nb pp) = 59 ∧ letW (v.getD w) = 0 then (match trmW (tsOf I n) w v with
        | none => (false, skp (I 156) nb pp, tsOf I n, rl)
        | some Y => (true, skp (I 156) nb pp + 1, Y, rl)) else (false, skp (I 156) nb pp, tsOf I n, rl)) q h' := by
  have e156 : I1 156 = I 156 := f.at' (by omega)
  obtain ⟨I', rfl, g1, g2, g3, g4, hq⟩ := hq
  have ff := tsFr (S := S) (L := L) f g1 g2 g4
  have d7 : ∃ d : Nat, I' 155 7 = (d : Int) := by obtain ⟨d, hd⟩ := hdp; exact ⟨d, by rw [g4 7 (by decide)]; exact hd⟩
  rw [e156, hlt] at hq
  rcases hq with ⟨rfl, k8, kn⟩ | ⟨rfl, k8, kb, kl, X, md, hb, x2, x3, x4, x5, x6, x7⟩
  · by_cases c : byt (I 156) nb (skp (I 156) nb pp) = 59 ∧ letW (v.getD w) = 0
    · have htn : tsB I1 n sz = none := by
        cases z : tsB I1 n sz with
        | none => rfl
        | some o => exact absurd ⟨c.1, c.2, by rw [z]; simp⟩ kn
      rw [if_pos c, ht c.2, htn]
      exact ⟨S, I', L, rfl, ff, rfl, k8, d7, fun h => by simp at h⟩
    · rw [if_neg c]
      exact ⟨S, I', L, rfl, ff, rfl, k8, d7, fun h => by simp at h⟩
  · rw [if_pos ⟨kb, kl⟩, ht kl, hb]
    refine ⟨S, I', L, rfl, ff, rfl, k8, d7, fun _ => ⟨x2, ?_, ?_⟩⟩
    · show (_, I' 3, I' 4, I' 5, I' 6, I' 7) = _
      rw [x3, x4, x5, x6, x7, gzR_gzL]
      rfl
    · exact hr.pf (ff.pf) (by rw [g3, f.at' (a := 1) (by omega)]) (fun r _ => rfl)
set_option maxRecDepth 20000 in
set_option maxHeartbeats 4000000 in
theorem sn_words (hL : LX S) {n nb p : Nat} {rl : RuL} (hn : I 2 0 = (n : Int)) (hnb1 : nb ≤ 120) (hpn : p ≤ nb) (hr : RulesAt S I 1 rl) {q : Option tmV} {h' : tmH} (h : SnPost S I L n nb rl.length p q h') : SwwPost S I L (sentW (I 156) nb p (tsOf I n) rl) q h' := by
  obtain ⟨A1, A2, A3⟩ := rdS_word (b := I 156) (n := nb) (may := 7) (0, I 158, I 159, I 160, I 161, I 162, I 163, p)
  have A1 : (snL I nb p).1 = (sideW (I 156) nb 7 p).1 := A1
  have A2 : (snL I nb p).2.2.2.2.2.2.2.2.2 = (sideW (I 156) nb 7 p).2.1 := A2
  obtain ⟨hzi, htr⟩ := snL_ok (I := I) hpn
  rcases h with ⟨h1, rfl, I', dp, rfl, f, hz⟩ | ⟨h1, h⟩
  · unfold sentW
    rw [if_pos (A1.symm.trans h1)]
    exact ⟨S, I', L, rfl, f.tf, rfl, by rw [hz.2.2.1, A2], ⟨dp, hz.2.2.2⟩, fun h => by simp at h⟩
  · obtain ⟨hpos, hsd⟩ := htr h1
    obtain ⟨w1, r1, _, a1, a2, a3⟩ := A3 h1
    have w1 : WI 0 0 (snL I nb p).2.2 := w1
    have a1 : (snL I nb p).2.2.1 = r1 + 1 := a1
    have a2 : r1 + 1 = 0 + (zP (snL I nb p).2.2 r1).length := a2
    have a3 : zP (snL I nb p).2.2 r1 = (sideW (I 156) nb 7 p).2.2 := a3
    have hM : snM I nb p = letW (sideW (I 156) nb 7 p).2.2 := by
      have := letW_pf w1.1 w1.2.1 (i := r1) (by omega) (by omega)
      have e : (pf (snL I nb p).2.2.2.1 (snL I nb p).2.2.2.2.1 (snL I nb p).2.2.2.2.2.1 (r1 : Int)) = (sideW (I 156) nb 7 p).2.2 := a3
      have el : (sideW (I 156) nb 7 p).2.2.length = r1 + 1 := by rw [← a3]; omega
      rw [e, el, show r1 + 1 - (r1 + 1) = 0 by omega] at this
      unfold snM
      rw [a1]
      exact this
    have el : (sideW (I 156) nb 7 p).2.2.length = (snL I nb p).2.2.1 := by rw [← a3]; omega
    have s120 : (snL I nb p).2.2.1 ≤ 120 := by have a := hzi.1; have b := hzi.2.1; omega
    have hP : snP I nb p = skp (I 156) nb (sideW (I 156) nb 7 p).2.1 := by unfold snP; rw [A2]
    unfold sentW
    rw [if_neg (by rw [← A1, h1]; decide)]
    have hsk := skp_b (b := I 156) hzi.1
    have hskP : snP I nb p ≤ nb := hsk.2
    rw [← hP, ← hM]
    rcases h with ⟨hb, h⟩ | ⟨hb, hm, rfl, I', dp, rfl, f, hz⟩ | ⟨hb, hm, ht, h2, rfl, I', dp, rfl, f, hz⟩ | ⟨hb, hm, ht, h2, I1, dp, f, hz, hlf, hq⟩ | ⟨hb, hm, ht, I1, dp, f, hz, hlf, hq⟩
    · rw [if_pos hb]
      obtain ⟨I1, dp, f, hz, hlf, hq⟩ := h
      have e156 : I1 156 = I 156 := f.at' (by omega)
      obtain ⟨tk1, tk2, tk3⟩ := tk_skp (b := I 156) (n := nb) (p := (snL I nb p).2.2.2.2.2.2.2.2.2) (c := 62)
      have htb : tkB (I 156) nb (snP I nb p) 62 := tk1.mpr hb
      have htp : tkP (I 156) nb (snP I nb p) 62 = snP I nb p + 1 := tk2 hb
      unfold RsPost at hq
      rw [e156] at hq
      obtain ⟨B1, B2, B3⟩ := rdS_word (b := I 156) (n := nb) (may := snM I nb p) (zTo (zTo (snL I nb p).2.2 (snP I nb p)) (snP I nb p + 1))
      have B1 : (rdS (I 156) nb (snM I nb p) (zTo (zTo (snL I nb p).2.2 (snP I nb p)) (snP I nb p + 1))).1 = (sideW (I 156) nb (snM I nb p) (snP I nb p + 1)).1 := B1
      have B2 : (rdS (I 156) nb (snM I nb p) (zTo (zTo (snL I nb p).2.2 (snP I nb p)) (snP I nb p + 1))).2.2.2.2.2.2.2.2.2 = (sideW (I 156) nb (snM I nb p) (snP I nb p + 1)).2.1 := B2
      have eO : rsO (I 156) nb rl.length (snM I nb p) (zTo (snL I nb p).2.2 (snP I nb p)) = if ((snL I nb p).2.2.1 = 1 ∧ snM I nb p ≠ 0) ∨ 6 ≤ rl.length then (false, zTo (snL I nb p).2.2 (snP I nb p)) else
          if (rdS (I 156) nb (snM I nb p) (zTo (zTo (snL I nb p).2.2 (snP I nb p)) (snP I nb p + 1))).1 = true then
            (decide (tkB (I 156) nb (rdS (I 156) nb (snM I nb p) (zTo (zTo (snL I nb p).2.2 (snP I nb p)) (snP I nb p + 1))).2.2.2.2.2.2.2.2.2 59), zTo (rdS (I 156) nb (snM I nb p) (zTo (zTo (snL I nb p).2.2 (snP I nb p)) (snP I nb p + 1))).2.2 (tkP (I 156) nb (rdS (I 156) nb (snM I nb p) (zTo (zTo (snL I nb p).2.2 (snP I nb p)) (snP I nb p + 1))).2.2.2.2.2.2.2.2.2 59))
          else (false, (rdS (I 156) nb (snM I nb p) (zTo (zTo (snL I nb p).2.2 (snP I nb p)) (snP I nb p + 1))).2.2) := by
        have hpp : (zTo (snL I nb p).2.2 (snP I nb p)).2.2.2.2.2.2.2 = snP I nb p := rfl
        unfold rsO
        rw [hpp, if_pos htb, htp]
        rfl
      rw [eO] at hq
      rw [el]
      by_cases c1 : ((snL I nb p).2.2.1 = 1 ∧ snM I nb p ≠ 0) ∨ 6 ≤ rl.length
      · rw [if_pos c1] at hq ⊢
        rcases hq with ⟨_, rfl, I', dp', rfl, g, hz'⟩ | ⟨z, _⟩
        · exact ⟨S, I', L, rfl, (f.trans g.l).tf, rfl, hz'.2.2.1, ⟨dp', hz'.2.2.2⟩, fun h => by simp at h⟩
        · simp at z
      · rw [if_neg c1] at hq ⊢
        cases c2 : (rdS (I 156) nb (snM I nb p) (zTo (zTo (snL I nb p).2.2 (snP I nb p)) (snP I nb p + 1))).1 with
        | false =>
          rw [if_neg (by rw [c2]; decide)] at hq
          rw [if_pos (by rw [← B1, c2])]
          rcases hq with ⟨_, rfl, I', dp', rfl, g, hz'⟩ | ⟨z, _⟩
          · exact ⟨S, I', L, rfl, (f.trans g.l).tf, rfl, by rw [hz'.2.2.1, B2], ⟨dp', hz'.2.2.2⟩, fun h => by simp at h⟩
          · simp at z
        | true =>
          rw [if_pos c2, B2] at hq
          rw [if_neg (by rw [← B1, c2]; decide)]
          by_cases c3 : tkB (I 156) nb (sideW (I 156) nb (snM I nb p) (snP I nb p + 1)).2.1 59
          · rw [if_pos c3]
            rcases hq with ⟨z, _⟩ | ⟨_, rfl, I2, dp', S3, I3, L3, g, hz', k1, k2, k3, k4, rfl⟩
            · simp [c3] at z
            · obtain ⟨w2, r2, b0, b1, b2, b3⟩ := B3 c2
              have hz1 : ZI nb 0 (zTo (zTo (snL I nb p).2.2 (snP I nb p)) (snP I nb p + 1)) := by
                have := tkP_b (b := I 156) hskP (c := 62) (by decide)
                rw [htp] at this
                refine ⟨this.2.1, ?_, fun k hk => by omega⟩
                have a := hzi.2.1
                have b := hsk.1
                show (snL I nb p).2.2.1 + 0 ≤ snP I nb p + 1
                have : (snL I nb p).2.2.2.2.2.2.2.2.2 ≤ snP I nb p := b
                omega
              have hzz := rdZ_inv (b := I 156) (n := nb) (may := snM I nb p) 121 0 _ hz1
              have hkp := rdZ_keep (b := I 156) (n := nb) (may := snM I nb p) 121 0 (zTo (zTo (snL I nb p).2.2 (snP I nb p)) (snP I nb p + 1))
              have htree := rdZ_tree (b := I 156) (n := nb) (may := snM I nb p) (fr := (snL I nb p).2.2.1) 121 0 (zTo (zTo (snL I nb p).2.2 (snP I nb p)) (snP I nb p + 1)) ⟨Nat.le_refl _, fun i i1 i2 => by simp only [zTo] at i2; omega, fun k hk => by omega, fun j j1 j2 => by simp only [zTo] at j2; omega⟩ c2
              obtain ⟨rr1, rr2, rr3, rr4⟩ := hz'.rows
              have hL3 := hL.1
              have pfr : PatFr S3 I3 (S3.1, S3.2.1, S3.2.2.1, va_up S3.2.2.2 8 (va_up (S3.2.2.2 8) rl.length (some S.1))) (va_up I3 1 (va_up (I3 1) 2 (rl.length + 1 : Nat))) := ⟨Nat.le_refl _, fun a a1 a2 => ⟨rfl, rfl, vup_n (by omega), vup_n (by omega)⟩⟩
              have hnew := new_rule (S2 := S3) (I1 := I2) (I2 := I3) (p0 := S.1) (m := snM I nb p) (Z1 := (snL I nb p).2.2) (Z2 := (rdS (I 156) nb (snM I nb p) (zTo (zTo (snL I nb p).2.2 (snP I nb p)) (snP I nb p + 1))).2.2) (wl := (sideW (I 156) nb 7 p).2.2) (wr := (sideW (I 156) nb (snM I nb p) (snP I nb p + 1)).2.2) hL3 k3 k4 hz'.2.1 (by rw [g.2.2 1 (by decide)]; exact hlf) rr1 rr2 rr3 rr4 (by have a := hzz.1; have b := hzz.2.1; exact Nat.le_trans (Nat.le_trans (Nat.le_trans (Nat.le_add_right _ _) b) a) hnb1)
                hsd hpos hkp htree.2.2 htree.2.1 rfl (fun z => c1 (Or.inl z)) w1 a1 a2 a3 w2 b0 b1 b2 b3
              have f1 : TxtFr S I L S I2 L := (f.trans g.l).tf
              have f2 : TxtFr S I2 L S3 I3 L3 := ⟨⟨by omega, fun z x hx => by
                obtain ⟨pp, p1, p2⟩ := z x hx
                exact ⟨pp, (congrFun (k1 8 (by omega)).2.2.1 x).trans p1, by have := p2.1; omega, ((k1 pp p2.1).1).trans p2.2⟩⟩, fun a ha => ⟨(k1 a ha).1, (k1 a ha).2.1, fun _ => (k1 a ha).2.2.1, (k1 a ha).2.2.2.2⟩, fun a ha _ _ _ _ => (k1 a ha).2.2.2.1, congrFun (k1 155 (by omega)).2.2.2.1 1⟩
              have f3 : TxtFr S3 I3 L3 (S3.1, S3.2.1, S3.2.2.1, va_up S3.2.2.2 8 (va_up (S3.2.2.2 8) rl.length (some S.1))) (va_up I3 1 (va_up (I3 1) 2 (rl.length + 1 : Nat))) L3 := ⟨⟨Nat.le_refl _, fun z x hx => by
                show ∃ p, va_up S3.2.2.2 8 (va_up (S3.2.2.2 8) rl.length (some S.1)) 8 x = some p ∧ _
                rw [vup_s]
                by_cases e : x = rl.length
                · subst e; rw [vup_s]; exact ⟨S.1, rfl, k3.1⟩
                · rw [vup_n e]; exact z x hx⟩, fun a _ => ⟨rfl, rfl, fun h8 => vup_n h8, rfl⟩, fun a _ a1 _ _ _ => vup_n (by omega), by rw [vup_n (by decide)]⟩
              have fall := (f1.trans f2).trans f3
              have e155 : (va_up I3 1 (va_up (I3 1) 2 (rl.length + 1 : Nat))) 155 = I2 155 := by rw [vup_n (by decide)]; exact (k1 155 (by omega)).2.2.2.1
              have er : ∀ a, 2 ≤ a → a ≤ 7 → (va_up I3 1 (va_up (I3 1) 2 (rl.length + 1 : Nat))) a = I a := fun a a1 a2 => by
                rw [vup_n (by omega)]
                exact ((k1 a (by omega)).2.2.2.1).trans ((f.trans g.l).at' (by omega))
              refine ⟨_, _, _, rfl, fall, rfl, by rw [e155]; exact hz'.2.2.1, ⟨dp', by rw [e155]; exact hz'.2.2.2⟩, fun _ => ⟨by rw [er 2 (by decide) (by decide)]; exact hn, rows_ts er, ?_⟩⟩
              refine ⟨by rw [vup_s, vup_s]; simp, by simp; omega, fun r w hw => ?_⟩
              by_cases hrl : r < rl.length
              · rw [List.getElem?_append_left hrl] at hw
                obtain ⟨pp, p1, p2⟩ := hr.2.2 r w hw
                refine ⟨pp, ?_, p2.pf fall.pf⟩
                show va_up S3.2.2.2 8 (va_up (S3.2.2.2 8) rl.length (some S.1)) 8 r = _
                rw [vup_s, vup_n (by omega), (k1 8 (by omega)).2.2.1]
                exact p1
              · rw [List.getElem?_append_right (by omega)] at hw
                have e0 : r = rl.length := by
                  by_cases z : r - rl.length = 0
                  · omega
                  · rw [List.getElem?_eq_none (by simp; omega)] at hw; cases hw
                subst e0
                simp only [Nat.sub_self, List.getElem?_cons_zero, Option.some.injEq] at hw
                subst hw
                refine ⟨S.1, ?_, hnew.pf pfr⟩
                show va_up S3.2.2.2 8 (va_up (S3.2.2.2 8) rl.length (some S.1)) 8 rl.length = _
                rw [vup_s, vup_s]
          · rw [if_neg c3]
            rcases hq with ⟨_, rfl, I', dp', rfl, g, hz'⟩ | ⟨z, _⟩
            · exact ⟨S, I', L, rfl, (f.trans g.l).tf, rfl, hz'.2.2.1, ⟨dp', hz'.2.2.2⟩, fun h => by simp at h⟩
            · simp [c3] at z
    · rw [if_neg hb, if_pos hm]
      exact ⟨S, I', L, rfl, f.tf, rfl, hz.2.2.1, ⟨dp, hz.2.2.2⟩, fun h => by simp at h⟩
    · obtain ⟨tk1, tk2, tk3⟩ := tk_skp (b := I 156) (n := nb) (p := (snL I nb p).2.2.2.2.2.2.2.2.2) (c := 61)
      have hb61 := tk1.mp ht
      have htp : tkP (I 156) nb (snP I nb p) 61 = snP I nb p + 1 := tk2 hb61
      obtain ⟨B1, B2, B3⟩ := rdS_word (b := I 156) (n := nb) (may := 7) (zTo (snL I nb p).2.2 (tkP (I 156) nb (snP I nb p) 61))
      have B1 : (snR I nb p).1 = (sideW (I 156) nb 7 (tkP (I 156) nb (snP I nb p) 61)).1 := B1
      have B2 : (snR I nb p).2.2.2.2.2.2.2.2.2 = (sideW (I 156) nb 7 (tkP (I 156) nb (snP I nb p) 61)).2.1 := B2
      rw [htp] at B1 B2
      rw [if_neg hb, if_neg (fun z => z hm), if_pos hb61, if_pos (by rw [← B1, h2])]
      exact ⟨S, I', L, rfl, f.tf, rfl, by rw [hz.2.2.1, B2], ⟨dp, hz.2.2.2⟩, fun h => by simp at h⟩
    · obtain ⟨tk1, tk2, tk3⟩ := tk_skp (b := I 156) (n := nb) (p := (snL I nb p).2.2.2.2.2.2.2.2.2) (c := 61)
      have hb61 := tk1.mp ht
      have htp : tkP (I 156) nb (snP I nb p) 61 = snP I nb p + 1 := tk2 hb61
      obtain ⟨B1, B2, B3⟩ := rdS_word (b := I 156) (n := nb) (may := 7) (zTo (snL I nb p).2.2 (tkP (I 156) nb (snP I nb p) 61))
      have B1 : (snR I nb p).1 = (sideW (I 156) nb 7 (tkP (I 156) nb (snP I nb p) 61)).1 := B1
      have B2 : (snR I nb p).2.2.2.2.2.2.2.2.2 = (sideW (I 156) nb 7 (tkP (I 156) nb (snP I nb p) 61)).2.1 := B2
      obtain ⟨w2, r2, b0, b1, b2, b3⟩ := B3 h2
      have w2 : WI (snL I nb p).2.2.1 0 (snR I nb p).2.2 := w2
      have b0 : (snL I nb p).2.2.1 ≤ r2 := b0
      have b1 : (snR I nb p).2.2.1 = r2 + 1 := b1
      have b2 : r2 + 1 = (snL I nb p).2.2.1 + (zP (snR I nb p).2.2 r2).length := b2
      have b3 : zP (snR I nb p).2.2 r2 = (sideW (I 156) nb 7 (tkP (I 156) nb (snP I nb p) 61)).2.2 := b3
      rw [htp] at B1 B2 b3
      obtain ⟨ri, rk, rt⟩ := snR_ok (I := I) hpn
      obtain ⟨rr1, rr2, rr3, rr4⟩ := hz.rows
      have hz120 : (snR I nb p).2.2.1 ≤ 120 := by have a := ri.1; have b := ri.2.1; omega
      have hrep := rep_of w1 a1 a2 a3 rk w2 b0 b1 b2 b3 (I := I1) (p := 157) (fun i _ => ⟨by rw [← rr1], by rw [← rr2], by rw [← rr3]⟩)
      rw [if_neg hb, if_neg (fun z => z hm), if_pos hb61, if_neg (by rw [← B1, h2]; decide)]
      rw [← B2]
      refine ts_words (v := some _) hn hr f ⟨_, hz.2.2.2⟩ hq ?_ (fun h0 => ?_)
      · have hl1 := hrep.let
        rw [← hM, hm] at hl1
        have hl2 := letW_pf hrep.2.2.1 hrep.2.2.2.1 (i := (snR I nb p).2.2.1 - 1) (by omega) (by omega)
        rw [hrep.2.2.2.2.2.2.1, show (snR I nb p).2.2.1 - 1 + 1 - (sideW (I 156) nb 7 (snP I nb p + 1)).2.2.length = (snL I nb p).2.2.1 by have := hrep.2.2.2.2.2.2.2.1; omega] at hl2
        have := tmLet_app (I1 158) (snL I nb p).2.2.1 (sideW (I 156) nb 7 (snP I nb p + 1)).2.2.length 0 0
        rw [hl1, hrep.2.2.2.2.2.2.2.1, Nat.zero_add, hl2] at this
        exact this
      · have := trm_two (lt := I1 141) hrep hz120 (by rw [← hM, hm]) h0 (tsOf I1 n) (I1 142)
        rw [f.ts] at this
        rw [this]
        unfold tsB
        rw [f.ts]
    · have hb61 : byt (I 156) nb (snP I nb p) ≠ 61 := fun z => ht ((tk_skp (b := I 156) (n := nb) (p := (snL I nb p).2.2.2.2.2.2.2.2.2) (c := 61)).1.mpr z)
      have htp : tkP (I 156) nb (snP I nb p) 61 = snP I nb p := (tk_skp (b := I 156) (n := nb) (p := (snL I nb p).2.2.2.2.2.2.2.2.2) (c := 61)).2.2 hb61
      obtain ⟨rr1, rr2, rr3, rr4⟩ := hz.rows
      rw [htp] at hq
      have rr1 : I1 158 = (snL I nb p).2.2.2.1 := rr1
      have rr2 : I1 159 = (snL I nb p).2.2.2.2.1 := rr2
      have rr3 : I1 160 = (snL I nb p).2.2.2.2.2.1 := rr3
      have hts := ts_words (w := (sideW (I 156) nb 7 p).2.2) (v := none) hn hr f ⟨_, hz.2.2.2⟩ hq (by rw [rr1]; exact hM) (fun h0 => by
        have := trm_one (lt := I1 141) w1.1 w1.2.1 (by rw [show (snL I nb p).2.2.1 - 1 = r1 by omega]; exact a3) el hpos s120 h0 (tsOf I1 n) (I1 142)
        rw [f.ts] at this
        rw [this]
        unfold tsB
        rw [f.ts, rr1, rr2, rr3])
      have hid : skp (I 156) nb (snP I nb p) = snP I nb p := skp_id
      rw [hid] at hts
      rw [if_neg hb, if_neg (fun z => z hm), if_neg hb61]
      by_cases c : byt (I 156) nb (snP I nb p) = 59
      · rw [if_pos ⟨c, hM.symm.trans hm⟩] at hts
        rw [if_pos c]
        exact hts
      · rw [if_neg (fun z => c z.1)] at hts
        rw [if_neg c]
        exact hts
/-- a RULE comes where the words say so -/
theorem rs_sent {nb p : Nat} {rl : RuL} {X : TS} (h1 : (snL I nb p).1 = true) (hb : byt (I 156) nb (snP I nb p) = 62) (h : (rsO (I 156) nb rl.length (snM I nb p) (zTo (snL I nb p).2.2 (snP I nb p))).1 = true) (hpn : p ≤ nb) : (sentW (I 156) nb p X rl).2.2.2.length = rl.length + 1 := by
  obtain ⟨A1, A2, A3⟩ := rdS_word (b := I 156) (n := nb) (may := 7) (0, I 158, I 159, I 160, I 161, I 162, I 163, p)
  have A1 : (snL I nb p).1 = (sideW (I 156) nb 7 p).1 := A1
  have A2 : (snL I nb p).2.2.2.2.2.2.2.2.2 = (sideW (I 156) nb 7 p).2.1 := A2
  obtain ⟨w1, r1, _, a1, a2, a3⟩ := A3 h1
  have w1 : WI 0 0 (snL I nb p).2.2 := w1
  have a1 : (snL I nb p).2.2.1 = r1 + 1 := a1
  have a2 : r1 + 1 = 0 + (zP (snL I nb p).2.2 r1).length := a2
  have a3 : zP (snL I nb p).2.2 r1 = (sideW (I 156) nb 7 p).2.2 := a3
  have el : (sideW (I 156) nb 7 p).2.2.length = (snL I nb p).2.2.1 := by rw [← a3]; omega
  have hM : snM I nb p = letW (sideW (I 156) nb 7 p).2.2 := by
    have := letW_pf w1.1 w1.2.1 (i := r1) (by omega) (by omega)
    have e : (pf (snL I nb p).2.2.2.1 (snL I nb p).2.2.2.2.1 (snL I nb p).2.2.2.2.2.1 (r1 : Int)) = (sideW (I 156) nb 7 p).2.2 := a3
    have el : (sideW (I 156) nb 7 p).2.2.length = r1 + 1 := by rw [← a3]; omega
    rw [e, el, show r1 + 1 - (r1 + 1) = 0 by omega] at this
    unfold snM
    rw [a1]
    exact this
  have hP : snP I nb p = skp (I 156) nb (sideW (I 156) nb 7 p).2.1 := by unfold snP; rw [A2]
  obtain ⟨tk1, tk2, tk3⟩ := tk_skp (b := I 156) (n := nb) (p := (snL I nb p).2.2.2.2.2.2.2.2.2) (c := 62)
  have htb : tkB (I 156) nb (snP I nb p) 62 := tk1.mpr hb
  have htp : tkP (I 156) nb (snP I nb p) 62 = snP I nb p + 1 := tk2 hb
  obtain ⟨B1, B2, B3⟩ := rdS_word (b := I 156) (n := nb) (may := snM I nb p) (zTo (zTo (snL I nb p).2.2 (snP I nb p)) (snP I nb p + 1))
  have B1 : (rdS (I 156) nb (snM I nb p) (zTo (zTo (snL I nb p).2.2 (snP I nb p)) (snP I nb p + 1))).1 = (sideW (I 156) nb (snM I nb p) (snP I nb p + 1)).1 := B1
  have B2 : (rdS (I 156) nb (snM I nb p) (zTo (zTo (snL I nb p).2.2 (snP I nb p)) (snP I nb p + 1))).2.2.2.2.2.2.2.2.2 = (sideW (I 156) nb (snM I nb p) (snP I nb p + 1)).2.1 := B2
  have hpp : (zTo (snL I nb p).2.2 (snP I nb p)).2.2.2.2.2.2.2 = snP I nb p := rfl
  unfold rsO at h
  rw [hpp, if_pos htb, htp] at h
  unfold sentW
  rw [if_neg (by rw [← A1, h1]; decide), ← hP, ← hM, if_pos hb, el]
  by_cases c1 : ((snL I nb p).2.2.1 = 1 ∧ snM I nb p ≠ 0) ∨ 6 ≤ rl.length
  · have c1' : ((zTo (snL I nb p).2.2 (snP I nb p)).1 = 1 ∧ snM I nb p ≠ 0) ∨ 6 ≤ rl.length := c1
    rw [if_pos c1'] at h; simp at h
  · have c1' : ¬ (((zTo (snL I nb p).2.2 (snP I nb p)).1 = 1 ∧ snM I nb p ≠ 0) ∨ 6 ≤ rl.length) := c1
    rw [if_neg c1'] at h
    rw [if_neg c1]
    cases c2 : (rdS (I 156) nb (snM I nb p) (zTo (zTo (snL I nb p).2.2 (snP I nb p)) (snP I nb p + 1))).1 with
    | false => rw [if_neg (by rw [c2]; decide)] at h; simp at h
    | true =>
      rw [if_pos c2, B2] at h
      rw [if_neg (by rw [← B1, c2]; decide)]
      have c3 : tkB (I 156) nb (sideW (I 156) nb (snM I nb p) (snP I nb p + 1)).2.1 59 := by simpa using h
      rw [if_pos c3]
      simp
theorem c_sentenceW (hL : LX S) {n nb p dp bc bs : Nat} {rl : RuL} (hn : I 2 0 = (n : Int)) (hX : TsOK (tsOf I n)) (hnb : I 155 1 = (nb : Int)) (hnb1 : nb ≤ 120) (hp : I 155 8 = (p : Int)) (hpn : p ≤ nb) (hdp : I 155 7 = (dp : Int)) (hr : RulesAt S I 1 rl) (hbd : (sentW (I 156) nb p (tsOf I n) rl).2.2.2.length = rl.length + 1 → 5 ≤ bc ∧ 486 ≤ bs) :
    tmC yX9_sentence kX9_sentence 8 bc bs [tR 155] (S, I, L) (SwwPost S I L (sentW (I 156) nb p (tsOf I n) rl)) :=
  (c_sentence hL hn hX hnb hnb1 hp hpn hdp hr.1 hr.2.1 (fun h1 hb h => hbd (rs_sent h1 hb h hpn))).weaken (fun _ _ h => sn_words hL hn hnb1 hpn hr h)
end S73
