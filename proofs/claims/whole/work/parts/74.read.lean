/-! ===== 74: Text.read ===== -/
theorem sentW_b {b : Nat → Int} {n p : Nat} {X : TS} {rl : RuL} (hp : p ≤ n) (hX : TsOK X) (hl : rl.length ≤ 6) : (sentW b n p X rl).2.1 ≤ n ∧ ((sentW b n p X rl).1 = true → p + 1 ≤ (sentW b n p X rl).2.1 ∧ TsOK (sentW b n p X rl).2.2.1 ∧ X.1 ≤ (sentW b n p X rl).2.2.1.1 ∧ (sentW b n p X rl).2.2.2.length ≤ 6) ∧ ((sentW b n p X rl).2.2.2.length = rl.length ∨ (sentW b n p X rl).2.2.2.length = rl.length + 1 ∧ rl.length < 6) := by
  obtain ⟨a1, a2, a3, a4, a5, a6, a7⟩ := sdW_b (b := b) (n := n) (may := 7) 121 [] [] p hp
  have a4 := a4 (fun s hs => by cases hs)
  have hs := skp_b (b := b) a2
  have lt1 : ∀ c : Int, 0 ≤ c → byt b n (skp b n (sideW b n 7 p).2.1) = c → skp b n (sideW b n 7 p).2.1 < n := fun c hc h => by
    by_cases z : skp b n (sideW b n 7 p).2.1 < n
    · exact z
    · unfold byt at h; rw [if_neg z] at h; omega
  unfold sentW
  by_cases c1 : (sideW b n 7 p).1 = false
  · rw [if_pos c1]; exact ⟨a2, fun h => by simp at h, Or.inl rfl⟩
  · rw [if_neg c1]
    have a5 := a5 (by simpa using c1)
    by_cases c2 : byt b n (skp b n (sideW b n 7 p).2.1) = 62
    · rw [if_pos c2]
      have l1 := lt1 62 (by decide) c2
      by_cases c3 : ((sideW b n 7 p).2.2.length = 1 ∧ letW (sideW b n 7 p).2.2 ≠ 0) ∨ 6 ≤ rl.length
      · rw [if_pos c3]; exact ⟨hs.2, fun h => by simp at h, Or.inl rfl⟩
      · rw [if_neg c3]
        obtain ⟨b1, b2, b3, b4, b5, b6, b7⟩ := sdW_b (b := b) (n := n) (may := letW (sideW b n 7 p).2.2) 121 [] [] (skp b n (sideW b n 7 p).2.1 + 1) (by omega)
        by_cases c4 : (sideW b n (letW (sideW b n 7 p).2.2) (skp b n (sideW b n 7 p).2.1 + 1)).1 = false
        · rw [if_pos c4]; exact ⟨b2, fun h => by simp at h, Or.inl rfl⟩
        · rw [if_neg c4]
          have t := tkP_b (b := b) b2 (c := 59) (by decide)
          by_cases c5 : tkB b n (sideW b n (letW (sideW b n 7 p).2.2) (skp b n (sideW b n 7 p).2.1 + 1)).2.1 59
          · rw [if_pos c5]
            refine ⟨t.2.1, fun _ => ⟨?_, hX, Nat.le_refl _, ?_⟩, Or.inr ⟨by simp, by omega⟩⟩
            · have hs1 : (sideW b n 7 p).2.1 ≤ skp b n (sideW b n 7 p).2.1 := hs.1
              have t1 : (sideW b n (letW (sideW b n 7 p).2.2) (skp b n (sideW b n 7 p).2.1 + 1)).2.1 ≤ tkP b n (sideW b n (letW (sideW b n 7 p).2.2) (skp b n (sideW b n 7 p).2.1 + 1)).2.1 59 := t.1
              show p + 1 ≤ tkP b n (sideW b n (letW (sideW b n 7 p).2.2) (skp b n (sideW b n 7 p).2.1 + 1)).2.1 59
              have b1' : skp b n (sideW b n 7 p).2.1 + 1 ≤ (sideW b n (letW (sideW b n 7 p).2.2) (skp b n (sideW b n 7 p).2.1 + 1)).2.1 := b1
              have a1' : p ≤ (sideW b n 7 p).2.1 := a1
              omega
            · simp; omega
          · rw [if_neg c5]; exact ⟨t.2.1, fun h => by simp at h, Or.inl rfl⟩
    · rw [if_neg c2]
      have hs1 : (sideW b n 7 p).2.1 ≤ skp b n (sideW b n 7 p).2.1 := hs.1
      have a1' : p ≤ (sideW b n 7 p).2.1 := a1
      by_cases c3 : letW (sideW b n 7 p).2.2 ≠ 0
      · rw [if_pos c3]; exact ⟨hs.2, fun h => by simp at h, Or.inl rfl⟩
      · rw [if_neg c3]
        have c3 : letW (sideW b n 7 p).2.2 = 0 := by omega
        have w7 := letW_no (fun s hs => (a4 s hs).2.1) c3
        by_cases c4 : byt b n (skp b n (sideW b n 7 p).2.1) = 61
        · rw [if_pos c4]
          have l1 := lt1 61 (by decide) c4
          obtain ⟨b1, b2, b3, b4, b5, b6, b7⟩ := sdW_b (b := b) (n := n) (may := 7) 121 [] [] (skp b n (sideW b n 7 p).2.1 + 1) (by omega)
          have b4 := b4 (fun s hs => by cases hs)
          have b1' : skp b n (sideW b n 7 p).2.1 + 1 ≤ (sideW b n 7 (skp b n (sideW b n 7 p).2.1 + 1)).2.1 := b1
          have ht := skp_b (b := b) b2
          have ht1 : (sideW b n 7 (skp b n (sideW b n 7 p).2.1 + 1)).2.1 ≤ skp b n (sideW b n 7 (skp b n (sideW b n 7 p).2.1 + 1)).2.1 := ht.1
          by_cases c5 : (sideW b n 7 (skp b n (sideW b n 7 p).2.1 + 1)).1 = false
          · rw [if_pos c5]; exact ⟨b2, fun h => by simp at h, Or.inl rfl⟩
          · rw [if_neg c5]
            have b5 := b5 (by simpa using c5)
            by_cases c6 : byt b n (skp b n (sideW b n 7 (skp b n (sideW b n 7 p).2.1 + 1)).2.1) = 59 ∧ letW (sideW b n 7 (skp b n (sideW b n 7 p).2.1 + 1)).2.2 = 0
            · rw [if_pos c6]
              have v7 := letW_no (fun s hs => (b4 s hs).2.1) c6.2
              cases ht : trmW X (sideW b n 7 p).2.2 (some (sideW b n 7 (skp b n (sideW b n 7 p).2.1 + 1)).2.2) with
              | none => exact ⟨by show skp b n _ ≤ n; exact (skp_b b2).2, fun h => by simp at h, Or.inl rfl⟩
              | some Y =>
                have l2 : skp b n (sideW b n 7 (skp b n (sideW b n 7 p).2.1 + 1)).2.1 < n := by
                  by_cases z : skp b n (sideW b n 7 (skp b n (sideW b n 7 p).2.1 + 1)).2.1 < n
                  · exact z
                  · have := c6.1; unfold byt at this; rw [if_neg z] at this; omega
                have := trmW_ok ht hX (fun s hs => ⟨(a4 s hs).1, (a4 s hs).2.1⟩) w7 a5 (fun x hx => by
                  rw [← Option.some.inj hx]
                  exact ⟨fun s hs => ⟨(b4 s hs).1, (b4 s hs).2.1⟩, v7, b5⟩)
                exact ⟨by show skp b n _ + 1 ≤ n; omega, fun _ => ⟨by show p + 1 ≤ skp b n _ + 1; omega, this.1, this.2, hl⟩, Or.inl rfl⟩
            · rw [if_neg c6]; exact ⟨ht.2, fun h => by simp at h, Or.inl rfl⟩
        · rw [if_neg c4]
          by_cases c5 : byt b n (skp b n (sideW b n 7 p).2.1) = 59
          · rw [if_pos c5]
            have l1 := lt1 59 (by decide) c5
            cases ht : trmW X (sideW b n 7 p).2.2 none with
            | none => exact ⟨hs.2, fun h => by simp at h, Or.inl rfl⟩
            | some Y =>
              have := trmW_ok ht hX (fun s hs => ⟨(a4 s hs).1, (a4 s hs).2.1⟩) w7 a5 (fun x hx => by cases hx)
              exact ⟨by show skp b n _ + 1 ≤ n; omega, fun _ => ⟨by show p + 1 ≤ skp b n _ + 1; omega, this.1, this.2, hl⟩, Or.inl rfl⟩
          · rw [if_neg c5]; exact ⟨hs.2, fun h => by simp at h, Or.inl rfl⟩
/-- a text: whether it is read, the answer, what it leaves -/
def readW (b : Nat → Int) (n : Nat) : Nat → Nat → Nat → TS → RuL → Bool × Int × TS × RuL
  | 0, _, p, X, rl => (false, -10 - p, X, rl)
  | f + 1, k, p, X, rl =>
    if byt b n (skp b n p) = -1 then (if k = 0 then (false, -10 - (skp b n p : Int), X, rl) else (true, (k : Int), X, rl)) else
    if (sentW b n (skp b n p) X rl).1 = true then readW b n f (k + 1) (sentW b n (skp b n p) X rl).2.1 (sentW b n (skp b n p) X rl).2.2.1 (sentW b n (skp b n p) X rl).2.2.2
    else (false, -10 - ((sentW b n (skp b n p) X rl).2.1 : Int), X, rl)
section S74
variable {S : tmS} {I : Nat → Nat → Int} {L : Nat → Nat → Int64}
abbrev RdPost (S : tmS) (I : Nat → Nat → Int) (L : Nat → Nat → Int64) (R : Bool × Int × TS × RuL) : Option tmV → tmH → Prop := fun q h' => ∃ S' I' L', h' = (S', I', L') ∧ TxtFr S I L S' I' L' ∧ q = some (tI R.2.1) ∧ (∃ d : Nat, I' 155 7 = (d : Int)) ∧ (R.1 = true → I' 2 0 = (R.2.2.1.1 : Int) ∧ tsOf I' R.2.2.1.1 = R.2.2.1 ∧ RulesAt S' I' 1 R.2.2.2)
theorem read_end (hL : LX S) {k p bc bs : Nat} (hk : k ≤ 120) (hp : I 155 8 = (p : Int)) {Q : Option tmV → tmH → Prop} (hq : Q (some (tI (if k = 0 then -10 - (p : Int) else (k : Int)))) (S, I, L)) : tmW kX9_read 9 bc bs 42 [some (tR 155), some (tI k)] [] (S, I, L) Q := by
  have o155 := oX155 hL
  have r155_0 := rX155_0 hL
  have r155_2 := rX155_2 hL
  have r155_3 := rX155_3 hL
  have r155_4 := rX155_4 hL
  have r155_5 := rX155_5 hL
  have r155_6 := rX155_6 hL
  by_cases h : k = 0
  · rw [if_pos h] at hq
    refine wa_iload_n dX9_read_42 rfl ?_
    refine wa_if_ne 56 dX9_read_43 (by decide) (by exact ⟨by omega, by omega⟩) (fun c_43 => ?_) (fun c_43 => ?_)
    · omega
    · refine wa_bipush dX9_read_46 rfl ?_
      refine wa_aload_n dX9_read_48 rfl ?_
      refine wt_getI dX9_read_49 FX9_37 (by assumption) ?_
      rw [hp]
      refine wa_isub dX9_read_52 ?_
      refine wa_goto 57 dX9_read_53 (by decide) ?_
      refine wa_ireturn dX9_read_57 rfl ?_
      exact hq
  · rw [if_neg h] at hq
    refine wa_iload_n dX9_read_42 rfl ?_
    refine wa_if_ne 56 dX9_read_43 (by decide) (by exact ⟨by omega, by omega⟩) (fun c_43 => ?_) (fun c_43 => ?_)
    · refine wa_iload_n dX9_read_56 rfl ?_
      refine wa_ireturn dX9_read_57 rfl ?_
      exact hq
    · omega
set_option maxRecDepth 20000 in
set_option maxHeartbeats 2000000 in
theorem read_loop (hL : LX S) {nb : Nat} (hnb : I 155 1 = (nb : Int)) (hnb1 : nb ≤ 120) (hby : ∀ i, i < nb → 0 ≤ I 156 i ∧ I 156 i ≤ 127) : ∀ (f k p bc bs d : Nat) (X : TS) (rl : RuL) (S1 : tmS) (I1 : Nat → Nat → Int) (L1 : Nat → Nat → Int64), nb + 1 ≤ p + f → k ≤ p → p ≤ nb → TxtFr S I L S1 I1 L1 → I1 155 8 = (p : Int) → I1 155 7 = (d : Int) → I1 2 0 = (X.1 : Int) → tsOf I1 X.1 = X → TsOK X → RulesAt S1 I1 1 rl → 5 * (6 - rl.length) ≤ bc → 486 * (6 - rl.length) ≤ bs →
    tmW kX9_read 9 bc bs 7 [some (tR 155), some (tI k)] [] (S1, I1, L1) (RdPost S I L (readW (I 156) nb f k p X rl)) := by
  intro f
  induction f with
  | zero => intro k p bc bs d X rl S1 I1 L1 h; omega
  | succ f ih =>
    intro k p bc bs d X rl S1 I1 L1 h1 h2 h3 hf h8 h7 hn hts hX hr hbc hbs
    have hL1 := hf.lx hL
    have hs := skp_b (b := I 156) h3
    have e156 : I1 156 = I 156 := hf.2.2.1 156 (by have := hL.1; omega) (by omega) (by decide) (by decide) (by decide)
    have e1 : I1 155 1 = (nb : Int) := hf.2.2.2.trans hnb
    have o155 := oX155 hL1
    have hbr : inR (byt (I 156) nb (skp (I 156) nb p)) := by
      unfold byt; split
      · next h => have := hby _ h; exact ⟨by omega, by omega⟩
      · exact ⟨by decide, by decide⟩
    by_cases hk : 120 ≤ k
    · have hb : byt (I 156) nb (skp (I 156) nb p) = -1 := by unfold byt; rw [if_neg (by omega)]
      have fin : RdPost S I L (readW (I 156) nb (f + 1) k p X rl) (some (tI (if k = 0 then -10 - (p : Int) else (k : Int)))) (S1, I1, L1) := by
        simp only [readW]
        rw [if_pos hb, if_neg (by omega), if_neg (by omega)]
        exact ⟨S1, I1, L1, rfl, hf, rfl, ⟨d, h7⟩, fun _ => ⟨hn, hts, hr⟩⟩
      refine wa_iload_n dX9_read_7 rfl ?_
      refine wa_bipush dX9_read_8 rfl ?_
      refine wa_icmp_ge 42 dX9_read_10 (by decide) (by exact ⟨by omega, by omega⟩) (by exact ⟨by omega, by omega⟩) (fun c_10 => ?_) (fun c_10 => ?_)
      · exact read_end hL1 (by omega) h8 fin
      · omega
    · have hpk := c_peek (I := I1) (L := L1) hL1 e1 hnb1 h8 h3
      rw [e156] at hpk
      have j8 : atP I1 (skp (I 156) nb p) 155 8 = (skp (I 156) nb p : Int) := by unfold atP; rw [vup_s, vup_s]
      have jk : ∀ k, k ≠ 8 → atP I1 (skp (I 156) nb p) 155 k = I1 155 k := fun k hk => by unfold atP; rw [vup_s, vup_n hk]
      have gJ : ∀ a, a ≠ 155 → atP I1 (skp (I 156) nb p) a = I1 a := fun a ha => vup_n ha
      generalize hJ : atP I1 (skp (I 156) nb p) = J at *
      have fJ : TxtFr S I L S1 J L1 := hf.trans ⟨⟨Nat.le_refl _, id⟩, fun _ _ => ⟨rfl, rfl, fun _ => rfl, rfl⟩, fun a _ _ _ a3 _ => gJ a a3, jk 1 (by decide)⟩
      have rJ : RulesAt S1 J 1 rl := hr.pf ⟨Nat.le_refl _, fun a a1 _ => ⟨rfl, rfl, rfl, gJ a (by omega)⟩⟩ (by rw [gJ 1 (by decide)]) (fun _ _ => rfl)
      have tJ : tsOf J X.1 = X := (rows_ts (fun a a1 a2 => gJ a (by omega))).trans hts
      by_cases hb : byt (I 156) nb (skp (I 156) nb p) = -1
      · have fin : RdPost S I L (readW (I 156) nb (f + 1) k p X rl) (some (tI (if k = 0 then -10 - ((skp (I 156) nb p : Nat) : Int) else (k : Int)))) (S1, J, L1) := by
          simp only [readW]
          rw [if_pos hb]
          by_cases k0 : k = 0
          · rw [if_pos k0, if_pos k0]
            exact ⟨S1, J, L1, rfl, fJ, rfl, ⟨d, by rw [jk 7 (by decide)]; exact h7⟩, fun h => by simp at h⟩
          · rw [if_neg k0, if_neg k0]
            exact ⟨S1, J, L1, rfl, fJ, rfl, ⟨d, by rw [jk 7 (by decide)]; exact h7⟩, fun _ => ⟨by rw [gJ 2 (by decide)]; exact hn, tJ, rJ⟩⟩
        refine wa_iload_n dX9_read_7 rfl ?_
        refine wa_bipush dX9_read_8 rfl ?_
        refine wa_icmp_ge 42 dX9_read_10 (by decide) (by first | exact hbr | exact ⟨by omega, by omega⟩) (by first | exact hbr | exact ⟨by omega, by omega⟩) (fun c_10 => ?_) (fun c_10 => ?_)
        · omega
        · refine wa_aload_n dX9_read_13 rfl ?_
          refine wa_callVf (ci := 9) dX9_read_14 KX9_peek LX9_48 ⟨_, _, rfl, by decide⟩ o155 (hpk) (by decide) rfl rfl (Nat.le_of_ble_eq_true rfl) rfl rfl ?_
          refine wa_iconst dX9_read_17 ?_
          refine wa_icmp_eq 42 dX9_read_18 (by decide) (by first | exact hbr | exact ⟨by omega, by omega⟩) (by first | exact hbr | exact ⟨by omega, by omega⟩) (fun c_18 => ?_) (fun c_18 => ?_)
          · exact read_end hL1 (by omega) j8 fin
          · exact absurd hb c_18
      · obtain ⟨w1, w2, w3⟩ := sentW_b (b := I 156) (X := X) (rl := rl) hs.2 hX hr.2.1
        have e156J : J 156 = I 156 := by rw [gJ 156 (by decide)]; exact e156
        have go : ∀ (mc ms bc' bs' : Nat), bc' + mc = bc → bs' + ms = bs → ((sentW (I 156) nb (skp (I 156) nb p) X rl).2.2.2.length = rl.length + 1 → 5 ≤ mc ∧ 486 ≤ ms) → 5 * (6 - (sentW (I 156) nb (skp (I 156) nb p) X rl).2.2.2.length) ≤ bc' → 486 * (6 - (sentW (I 156) nb (skp (I 156) nb p) X rl).2.2.2.length) ≤ bs' → tmW kX9_read 9 bc bs 7 [some (tR 155), some (tI k)] [] (S1, I1, L1) (RdPost S I L (readW (I 156) nb (f + 1) k p X rl)) := by
          intro mc ms bc' bs' q1 q2 q3 q4 q5
          have hse := c_sentenceW (L := L1) hL1 (n := X.1) (I := J) (bc := mc) (bs := ms) (by rw [gJ 2 (by decide)]; exact hn) (by rw [tJ]; exact hX) (by rw [jk 1 (by decide)]; exact e1) hnb1 j8 hs.2 (by rw [jk 7 (by decide)]; exact h7) rJ (by rw [e156J, tJ]; exact q3)
          rw [e156J, tJ] at hse
          generalize hW : sentW (I 156) nb (skp (I 156) nb p) X rl = W at *
          have rest : ∀ (S2 : tmS) (I2 : Nat → Nat → Int) (L2 : Nat → Nat → Int64), TxtFr S1 J L1 S2 I2 L2 → I2 155 8 = (W.2.1 : Int) → (∃ d : Nat, I2 155 7 = (d : Int)) → (W.1 = true → I2 2 0 = (W.2.2.1.1 : Int) ∧ tsOf I2 W.2.2.1.1 = W.2.2.1 ∧ RulesAt S2 I2 1 W.2.2.2) → tmW kX9_read 9 bc' bs' 25 [some (tR 155), some (tI k)] [tI (if W.1 = true then 1 else 0)] (S2, I2, L2) (RdPost S I L (readW (I 156) nb (f + 1) k p X rl)) := by
            intro S2 I2 L2 g1 g2 ⟨d2, g3⟩ g4
            have fall := fJ.trans g1
            have o155' := oX155 (fall.lx hL)
            by_cases ok : W.1 = true
            · obtain ⟨y1, y2, y3⟩ := g4 ok
              obtain ⟨z1, z2, z3, z4⟩ := w2 ok
              have hi := ih (k + 1) W.2.1 bc' bs' d2 W.2.2.1 W.2.2.2 S2 I2 L2 (by omega) (by omega) w1 fall g2 g3 y1 y2 z2 y3 q4 q5
              have er : readW (I 156) nb (f + 1) k p X rl = readW (I 156) nb f (k + 1) W.2.1 W.2.2.1 W.2.2.2 := by
                simp only [readW]
                rw [if_neg hb, hW, if_pos ok]
              rw [er, if_pos ok]
              refine wa_if_ne 36 dX9_read_25 (by decide) (by exact ⟨by omega, by omega⟩) (fun c_25 => ?_) (fun c_25 => ?_)
              · refine wa_iinc dX9_read_36 rfl (by decide) ?_
                refine wa_goto 7 dX9_read_39 (by decide) ?_
                exact hi
              · omega
            · have er : readW (I 156) nb (f + 1) k p X rl = (false, -10 - (W.2.1 : Int), X, rl) := by
                simp only [readW]
                rw [if_neg hb, hW, if_neg ok]
              rw [er, if_neg ok]
              refine wa_if_ne 36 dX9_read_25 (by decide) (by exact ⟨by omega, by omega⟩) (fun c_25 => ?_) (fun c_25 => ?_)
              · omega
              · refine wa_bipush dX9_read_28 rfl ?_
                refine wa_aload_n dX9_read_30 rfl ?_
                refine wt_getI dX9_read_31 FX9_37 o155' ?_
                rw [g2]
                refine wa_isub dX9_read_34 ?_
                refine wa_ireturn dX9_read_35 rfl ?_
                exact ⟨S2, I2, L2, rfl, fall, rfl, ⟨d2, g3⟩, fun h => by simp at h⟩
          refine wa_iload_n dX9_read_7 rfl ?_
          refine wa_bipush dX9_read_8 rfl ?_
          refine wa_icmp_ge 42 dX9_read_10 (by decide) (by first | exact hbr | exact ⟨by omega, by omega⟩) (by first | exact hbr | exact ⟨by omega, by omega⟩) (fun c_10 => ?_) (fun c_10 => ?_)
          · omega
          · refine wa_aload_n dX9_read_13 rfl ?_
            refine wa_callVf (ci := 9) dX9_read_14 KX9_peek LX9_48 ⟨_, _, rfl, by decide⟩ o155 (hpk) (by decide) rfl rfl (Nat.le_of_ble_eq_true rfl) rfl rfl ?_
            refine wa_iconst dX9_read_17 ?_
            refine wa_icmp_eq 42 dX9_read_18 (by decide) (by first | exact hbr | exact ⟨by omega, by omega⟩) (by first | exact hbr | exact ⟨by omega, by omega⟩) (fun c_18 => ?_) (fun c_18 => ?_)
            · exact absurd c_18 hb
            · refine wa_aload_n dX9_read_21 rfl ?_
              refine wa_callV (ci := 9) dX9_read_22 KX9_sentence LX9_52 ⟨_, _, rfl, by decide⟩ o155 (hse) (by decide) rfl (Nat.le_of_ble_eq_true rfl) q1 q2 (fun r h' hq => ?_)
              obtain ⟨S2, I2, L2, rfl, g1, rfl, g2, g3, g4⟩ := hq
              exact rest S2 I2 L2 g1 g2 g3 g4
        rcases w3 with e | ⟨e, e6⟩
        · exact go 0 0 bc bs rfl rfl (fun z => by omega) (by rw [e]; exact hbc) (by rw [e]; exact hbs)
        · exact go 5 486 (bc - 5) (bs - 486) (by omega) (by omega) (fun _ => ⟨by decide, by decide⟩) (by omega) (by omega)
theorem c_read (hL : LX S) {n nb d : Nat} {rl : RuL} (hn : I 2 0 = (n : Int)) (hX : TsOK (tsOf I n)) (hnb : I 155 1 = (nb : Int)) (hnb1 : nb ≤ 120) (hby : ∀ i, i < nb → 0 ≤ I 156 i ∧ I 156 i ≤ 127) (hd : I 155 7 = (d : Int)) (hr : RulesAt S I 1 rl) :
    tmC yX9_read kX9_read 9 30 2916 [tR 155] (S, I, L) (RdPost S I L (readW (I 156) nb 121 0 0 (tsOf I n) rl)) := by
  refine tmC.mk (lv := [some (tR 155), none]) 1 ⟨rfl, by decide +kernel, by decide⟩ rfl rfl ?_
  have o155 := oX155 hL
  have r155_0 := rX155_0 hL
  have r155_2 := rX155_2 hL
  have r155_3 := rX155_3 hL
  have r155_4 := rX155_4 hL
  have r155_5 := rX155_5 hL
  have r155_6 := rX155_6 hL
  have gJ : ∀ a, a ≠ 155 → atP I 0 a = I a := fun a ha => vup_n ha
  have jk : ∀ k, k ≠ 8 → atP I 0 155 k = I 155 k := fun k hk => by unfold atP; rw [vup_s, vup_n hk]
  have j8 : atP I 0 155 8 = ((0 : Nat) : Int) := by unfold atP; rw [vup_s, vup_s]
  have fJ : TxtFr S I L S (atP I 0) L := ⟨⟨Nat.le_refl _, id⟩, fun _ _ => ⟨rfl, rfl, fun _ => rfl, rfl⟩, fun a _ _ _ a3 _ => gJ a a3, jk 1 (by decide)⟩
  have rJ : RulesAt S (atP I 0) 1 rl := hr.pf fJ.pf (by rw [gJ 1 (by decide)]) (fun _ _ => rfl)
  have lp := read_loop (L := L) hL hnb hnb1 hby 121 0 0 30 2916 d (tsOf I n) rl S (atP I 0) L (by omega) (by omega) (by omega) fJ j8 (by rw [jk 7 (by decide)]; exact hd) (by rw [gJ 2 (by decide)]; exact hn) (rows_ts (fun a a1 a2 => gJ a (by omega))) hX rJ (by omega) (by omega)
  refine wa_aload_n dX9_read_0 rfl ?_
  refine wa_iconst dX9_read_1 ?_
  refine wt_putI dX9_read_2 FX9_37 (WX9_8 _ _) (by assumption) (by exact ⟨by omega, by omega⟩) ?_
  refine wa_iconst dX9_read_5 ?_
  refine wa_istore_n dX9_read_6 (by decide) ?_
  exact lp
end S74
