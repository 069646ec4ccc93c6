/-! ===== 88: TriggerMatches: reads ===== -/
abbrev rdA (A : AS) : Bool × Int × TS × RuL := readW A.2.2.2.2.2.2 A.2.2.2.2.2.1 121 0 0 A.1.1 A.1.2
noncomputable def spReads (A : AS) : Int × AS := if (rdA A).1 = true then ((rdA A).2.1, aNow (aKeep A) (clX (rdA A).2.2.1, (rdA A).2.2.2)) else ((rdA A).2.1, A)
section S88
variable {S : tmS} {I : Nat → Nat → Int} {L : Nat → Nat → Int64}
/-- reading a text leaves the kept states alone -/
theorem TxtFr.past {S' : tmS} {I' : Nat → Nat → Int} {L' : Nat → Nat → Int64} {past : List (TS × RuL)} (f : TxtFr S I L S' I' L') (hL : LX S) (h : PastR S I past) : PastR S' I' past := by
  have h192 := hL.1
  exact h.fr f.pf (fun a a1 a2 => f.2.2.1 a (by omega) (by omega) (by omega) (by omega) (by omega)) (fun a a1 a2 => (f.2.1 a (by omega)).2.2.1 (by omega))
/-- a state in a slot: from now -/
theorem slot_of {m : Nat} {A : AS} (h : CR S I L m A) {k : Nat} (hk9 : k < 9) {R' : Nat → Nat → Option Nat} {J : Nat → Nat → Int} (hc : CpS I J (16 + 13 * k) 1) (hr : ∀ q, q < 6 → R' (16 + 13 * k + 7) q = S.2.2.2 (1 + 7) q) (hR : ∀ a, a ≠ 16 + 13 * k + 7 → R' a = S.2.2.2 a) : KeepR I (va_up J 14 (va_up (va_up (J 14) 1 ((k + 1) % 9 : Nat)) 2 (if A.2.1.length < 8 then A.2.1.length + 1 else 8 : Nat))) S.2.2.2 R' k A.2.1.length := by
  obtain ⟨g1, g2, g3, g4⟩ := hc
  refine ⟨by rw [vup_s, vup_n (by decide), vup_s], by rw [vup_s, vup_s], by rw [vup_n (by omega)]; exact g1, by rw [vup_n (by omega), show 17 + 13 * k = 16 + 13 * k + 1 by omega]; exact g2, fun i i1 i2 t ht => by rw [vup_n (by omega), show 17 + 13 * k + i = 16 + 13 * k + 1 + i by omega]; exact g3 i i1 i2 t ht, fun a a1 a2 => by rw [vup_n a1]; exact g4 a (by omega), fun q hq => by rw [show 23 + 13 * k = 16 + 13 * k + 7 by omega]; exact hr q hq, fun a ha => hR a (by omega)⟩
set_option maxRecDepth 20000 in
set_option maxHeartbeats 2000000 in
theorem c_reads {m : Nat} {A : AS} (h : CR S I L m A) : tmC yX11_reads kX11_reads 10 30 2916 [tR 0] (S, I, L) (CPost S I (m + 1) (tI (spReads A).1) (spReads A).2) := by
  refine tmC.mk (lv := [some (tR 0), none]) 1 ⟨rfl, by decide +kernel, by decide⟩ rfl rfl ?_
  have hL := h.1
  have o0 := oX0 hL
  have r0_0 := rX0_0 hL
  have r0_1 := rX0_1 hL
  have r0_2 := rX0_2 hL
  have r0_3 := rX0_3 hL
  have r0_4 := rX0_4 hL
  have r0_5 := rX0_5 hL
  have r0_6 := rX0_6 hL
  have r0_7 := rX0_7 hL
  have r0_8 := rX0_8 hL
  have o1 := oX1 hL
  have r1_0 := rX1_0 hL
  have r1_1 := rX1_1 hL
  have r1_3 := rX1_3 hL
  have o14 := oX14 hL
  have r14_0 := rX14_0 hL
  have o155 := oX155 hL
  have r155_0 := rX155_0 hL
  have r155_2 := rX155_2 hL
  have r155_3 := rX155_3 hL
  have r155_4 := rX155_4 hL
  have r155_5 := rX155_5 hL
  have r155_6 := rX155_6 hL
  obtain ⟨k, p1, p2, p3, p4, p5⟩ := id h.2.2.1
  have hprep := c_prepare (n := S.1) (C := S.2.1) (N := S.2.2.1) (R := S.2.2.2) (L := L) hL h.2.2.2.1.1 p1 p2
  have hX := h.2.1.2.1.1
  have hrl0 := h.2.1.2.2.2.2.1
  obtain ⟨tk1, tk2⟩ : ((rdA A).1 = true → 0 < (rdA A).2.1 ∧ (rdA A).2.1 ≤ ((0 : Nat) : Int) + ((121 : Nat) : Int) ∧ TsOK (rdA A).2.2.1 ∧ (rdA A).2.2.2.length ≤ 6) ∧ ((rdA A).1 = false → (rdA A).2.1 < 0 ∧ -10 - (A.2.2.2.2.2.1 : Int) ≤ (rdA A).2.1) := readW_pos (b := A.2.2.2.2.2.2) (n := A.2.2.2.2.2.1) 121 0 0 A.1.1 A.1.2 (by omega) hrl0.2.1 hX
  have behind : ∀ (R' : Nat → Nat → Option Nat) (J : Nat → Nat → Int), CpS I J (16 + 13 * k) 1 → (∀ q, q < 6 → R' (16 + 13 * k + 7) q = S.2.2.2 (1 + 7) q) → (∀ a, a ≠ 16 + 13 * k + 7 → R' a = S.2.2.2 a) → tmW kX11_reads 10 30 2916 11 [some (tR 0), none] [] ((S.1, S.2.1, S.2.2.1, R'), J, L) (CPost S I (m + 1) (tI (spReads A).1) (spReads A).2) := by
    intro R' J hcp hr hR
    obtain ⟨g1, g2, g3, g4⟩ := id hcp
    have hL1 : LX (S.1, S.2.1, S.2.2.1, R') := LX.cp (R := S.2.2.2) hL p2 (fun a ha => hR a (by omega))
    have gJ : ∀ a, (a < 16 ∨ 133 ≤ a) → J a = I a := fun a ha => g4 a (by omega)
    have pf1 : PatFr S I (S.1, S.2.1, S.2.2.1, R') J := ⟨Nat.le_refl _, fun a a1 _ => ⟨rfl, rfl, hR a (by omega), gJ a (by omega)⟩⟩
    have hslot : StC (S.1, S.2.1, S.2.2.1, R') J (16 + 13 * k) A.1 := by
      have hs : StC S I 1 A.1 := ⟨h.2.1.1, hrl0⟩
      have h50 := hX.1
      exact hs.fr pf1 g1 g2 (fun i i1 i2 t ht => g3 i i1 i2 t (by omega)) hr
    have prow1 : ∀ s, s < 9 → PRow (S.1, S.2.1, S.2.2.1, R') (16 + 13 * s) := fun s hs => by
      by_cases e : s = k
      · subst e; exact h.2.2.2.1.1.fr (Nat.le_refl _) (fun _ _ => rfl) (fun q hq => hr q hq)
      · exact (h.2.2.2.1.2 s hs).fr (Nat.le_refl _) (fun _ _ => rfl) (fun q _ => by show R' _ q = _; rw [hR _ (by omega)])
    have prow0 : PRow (S.1, S.2.1, S.2.2.1, R') 1 := h.2.2.2.1.1.fr (Nat.le_refl _) (fun _ _ => rfl) (fun q _ => by show R' _ q = _; rw [hR _ (by omega)])
    have rows1 : RowsEq J 2 A.1.1 := ⟨by rw [gJ 2 (by omega)]; exact h.2.1.1.1, fun t ht => by rw [gJ 3 (by omega), gJ 4 (by omega), gJ 5 (by omega), gJ 6 (by omega), gJ 7 (by omega)]; exact h.2.1.1.2 t ht⟩
    have rul1 : RulesAt (S.1, S.2.1, S.2.2.1, R') J 1 A.1.2 := hrl0.pf pf1 (by rw [gJ 1 (by omega)]) (fun r _ => by show R' 8 r = _; rw [hR 8 (by omega)])
    obtain ⟨k1, k2, k3, k4, k5, ⟨d, k6⟩⟩ := h.2.2.2.2
    have hY := hX.cg rows1.ts
    have hread := c_read (L := L) hL1 rows1.1 hY (by rw [gJ 155 (by omega)]; exact k5.1) k5.2.1 (by rw [gJ 156 (by omega)]; intro i hi; have := k5.2.2 i hi; omega) (by rw [gJ 155 (by omega)]; exact k6) rul1
    rw [readW_cgb (b := A.2.2.2.2.2.2) (b' := J 156) (n := A.2.2.2.2.2.1) (by rw [gJ 156 (by omega)]; exact fun i hi => (k5.2.2 i hi).1) 121] at hread
    obtain ⟨e1, e2, e3, e4⟩ := readW_e5 (b := A.2.2.2.2.2.2) (n := A.2.2.2.2.2.1) 121 0 0 A.1.1 (tsOf J A.1.1.1) A.1.2 (by omega) hrl0.2.1 hX hY rows1.ts
    have o14' := oX14 hL1
    have atX : ∀ (S2 : tmS) (I2 : Nat → Nat → Int) (L2 : Nat → Nat → Int64), TxtFr (S.1, S.2.1, S.2.2.1, R') J L S2 I2 L2 → (∃ d : Nat, I2 155 7 = (d : Int)) → ((rdA A).1 = true → RowsEq I2 2 (rdA A).2.2.1 ∧ RulesAt S2 I2 1 (rdA A).2.2.2) → tmW kX11_reads 10 0 0 18 [some (tR 0), none] [tI (rdA A).2.1] (S2, I2, L2) (CPost S I (m + 1) (tI (spReads A).1) (spReads A).2) := by
      intro S2 I2 L2 f hd hok
      have hL2 := f.lx hL1
      have h192 := hL1.1
      have h192' : 192 ≤ S.1 := h192
      have o0' := oX0 hL2
      have o14'' := oX14 hL2
      have r0_0' := rX0_0 hL2
      have r0_1' := rX0_1 hL2
      have fI : ∀ a, a < 192 → (a = 0 ∨ 8 ≤ a) → a ≠ 142 → a ≠ 155 → ¬ (157 ≤ a ∧ a ≤ 163) → I2 a = J a := fun a a0 a1 a2 a3 a4 => f.2.2.1 a (by show a < S.1; omega) a1 a2 a3 a4
      have fR : ∀ a, a < 192 → a ≠ 8 → S2.2.2.2 a = R' a := fun a a0 a1 => (f.2.1 a (by show a < S.1; omega)).2.2.1 a1
      have fK : ∀ a, a < S.1 → S2.2.1 a = S.2.1 a := fun a ha => (f.2.1 a ha).1
      have rr : inR (rdA A).2.1 := by
        cases hz : (rdA A).1 with
        | true => have := tk1 hz; exact ⟨by have := this.1; omega, by have := this.2.1; omega⟩
        | false => have := tk2 hz; have := k5.2.1; exact ⟨by omega, by omega⟩
      have prw : ∀ s, s < 9 → PRow S2 (16 + 13 * s) := fun s hs => (prow1 s hs).fr f.1.1 fK (fun q _ => by rw [fR _ (by omega) (by omega)])
      have slots2 : StC S2 I2 (16 + 13 * k) A.1 := hslot.fr f.pf (by rw [fI _ (by omega) (by omega) (by omega) (by omega) (by omega)]) (by rw [fI _ (by omega) (by omega) (by omega) (by omega) (by omega)]) (fun i i1 i2 t _ => by rw [fI _ (by omega) (by omega) (by omega) (by omega) (by omega)]) (fun q _ => by rw [fR _ (by omega) (by omega)])
      have i14 : I2 14 = I 14 := by rw [fI 14 (by omega) (by omega) (by omega) (by omega) (by omega), gJ 14 (by omega)]
      have pl2 : ∀ us, PlOK I us → PlOK I2 us := fun us hus => by
        unfold PlOK at hus ⊢
        rw [fI 133 (by omega) (by omega) (by omega) (by omega) (by omega), fI 134 (by omega) (by omega) (by omega) (by omega) (by omega), fI 135 (by omega) (by omega) (by omega) (by omega) (by omega), gJ 133 (by omega), gJ 134 (by omega), gJ 135 (by omega)]; exact hus
      obtain ⟨us, hus⟩ := h.2.1.2.2.2.1
      have misc2 : MiscR I2 (m + 1) A.2.2.1.1 A.2.2.1.2 A.2.2.2.1 A.2.2.2.2.1 A.2.2.2.2.2.1 A.2.2.2.2.2.2 := h.2.2.2.2.fr (by omega) (fun a ha => by rw [fI a (by omega) (by omega) (by omega) (by omega) (by omega), gJ a (by omega)]) (by rw [f.2.2.2, gJ 155 (by omega)]) hd
      have mfr2 : MFr S I S2 I2 := fun a a1 a2 => by rw [fI a (by omega) (by omega) (by omega) (by omega) (by omega), gJ a (by omega)]
      have pfAll : PatFr S I S2 I2 := pf1.trans f.pf
      cases hz : (rdA A).1 with
      | true =>
        have t1 := tk1 hz
        obtain ⟨rows2, rul2⟩ := hok hz
        have hkp := c_keepPrepared (I := I2) (L := L2) hL2 (by rw [i14]; exact p1) p2 (by rw [i14]; exact p3) p4
        generalize hV : va_up I2 14 (va_up (va_up (I2 14) 1 ((k + 1) % 9 : Nat)) 2 (if A.2.1.length < 8 then A.2.1.length + 1 else 8 : Nat)) = V at hkp
        have gV : ∀ a, a ≠ 14 → V a = I2 a := fun a ha => by rw [← hV]; exact vup_n ha
        have v14 : V 14 = va_up (va_up (I2 14) 1 ((k + 1) % 9 : Nat)) 2 (if A.2.1.length < 8 then A.2.1.length + 1 else 8 : Nat) := by rw [← hV, vup_s]
        -- the kept states: as keep would leave them, then moved along
        obtain ⟨ck, _⟩ := h.keep p1 p2 (slot_of h p2 hcp hr hR)
        have pfV : PatFr (S.1, S.2.1, S.2.2.1, R') (va_up J 14 (va_up (va_up (J 14) 1 ((k + 1) % 9 : Nat)) 2 (if A.2.1.length < 8 then A.2.1.length + 1 else 8 : Nat))) S2 V := ⟨f.1.1, fun a a1 a2 => ⟨(f.2.1 a a2).1, (f.2.1 a a2).2.1, (f.2.1 a a2).2.2.1 (by omega), by rw [gV a (by omega), vup_n (by omega)]; exact f.2.2.1 a a2 (by omega) (by omega) (by omega) (by omega)⟩⟩
        have past2 : PastR S2 V (aKeep A).2.1 := ck.2.2.1.fr pfV (fun a a1 a2 => by
          by_cases e : a = 14
          · subst e
            rw [v14, vup_s, i14, gJ 14 (by omega)]
          · rw [gV a e, vup_n e]; exact fI a (by omega) (by omega) (by omega) (by omega) (by omega)) (fun a a1 a2 => fR a (by omega) (by omega))
        have rowsV : RowsEq V 2 (rdA A).2.2.1 := ⟨by rw [gV 2 (by decide)]; exact rows2.1, fun t ht => by rw [gV 3 (by decide), gV 4 (by decide), gV 5 (by decide), gV 6 (by decide), gV 7 (by decide)]; exact rows2.2 t ht⟩
        have rulV : RulesAt S2 V 1 (rdA A).2.2.2 := rul2.pf ⟨Nat.le_refl _, fun a a1 _ => ⟨rfl, rfl, rfl, gV a (by omega)⟩⟩ (by rw [gV 1 (by decide)]) (fun _ _ => rfl)
        have plV : PlOK V us := by have := pl2 us hus; unfold PlOK at this ⊢; rw [gV 133 (by decide), gV 134 (by decide), gV 135 (by decide)]; exact this
        have hsa := c_settleAll (L := L2) hL2 rowsV t1.2.2.1 plV
        have prw1 : PRow S2 1 := f.1.2 prow0
        have miscV : MiscR V (m + 1) A.2.2.1.1 A.2.2.1.2 A.2.2.2.1 A.2.2.2.2.1 A.2.2.2.2.2.1 A.2.2.2.2.2.2 := misc2.fr (Nat.le_refl _) (fun a ha => gV a (by omega)) (by rw [gV 155 (by decide)]) (by rw [gV 155 (by decide)]; exact hd)
        have espec : spReads A = ((rdA A).2.1, aNow (aKeep A) (clX (rdA A).2.2.1, (rdA A).2.2.2)) := by unfold spReads; rw [if_pos hz]
        rw [espec]
        refine wa_istore_n dX11_reads_18 (by decide) ?_
        refine wa_iload_n dX11_reads_19 rfl ?_
        refine wa_if_le 33 dX11_reads_20 (by decide) (by first | exact rr | exact ⟨by omega, by omega⟩) (fun c_20 => ?_) (fun c_20 => ?_)
        · omega
        · refine wa_aload_n dX11_reads_23 rfl ?_
          refine wt_getR dX11_reads_24 FX11_19 o0' r0_1' ?_
          refine wa_callVf (ci := 7) dX11_reads_27 KX7_keepPrepared LX11_227 ⟨_, _, rfl, by decide⟩ o14'' (hkp) (by decide) rfl rfl (Nat.le_of_ble_eq_true rfl) rfl rfl ?_
          refine wa_goto 44 dX11_reads_30 (by decide) ?_
          refine wa_aload_n dX11_reads_44 rfl ?_
          refine wa_callV (ci := 11) dX11_reads_45 KX11_settleAll LX11_116 ⟨_, _, rfl, by decide⟩ o0' (hsa) (by decide) rfl (Nat.le_of_ble_eq_true rfl) rfl rfl (fun r h' hq => ?_)
          obtain ⟨rfl, I3, rfl, hs⟩ := hq
          refine wa_iload_n dX11_reads_48 rfl ?_
          refine wa_ireturn dX11_reads_49 rfl ?_
          have hfin := CR.fin (L := L2) (m := m + 1) (P := (aKeep A).2) hL2 t1.2.2.1 hs rulV past2 ⟨prw1, prw⟩ miscV
          refine ⟨rfl, _, I3, L2, rfl, hfin, fun a a1 a2 => ?_⟩
          rw [hs.1 a (by omega) (by omega) (by omega) (by omega) (by omega), gV a (by omega)]
          exact mfr2 a a1 a2
      | false =>
        have t2 := tk2 hz
        have hun := c_undo (n := S2.1) (C := S2.2.1) (N := S2.2.2.1) (R := S2.2.2.2) (I := I2) (L := L2) hL2 (by rw [i14]; exact p1) p2 (prw k p2)
        have espec : spReads A = ((rdA A).2.1, A) := by unfold spReads; rw [if_neg (by rw [hz]; decide)]
        rw [espec]
        have at44 : ∀ (R3 : Nat → Nat → Option Nat) (V : Nat → Nat → Int), CpS I2 V 1 (16 + 13 * k) → (∀ q, q < 6 → R3 (1 + 7) q = S2.2.2.2 (16 + 13 * k + 7) q) → (∀ a, a ≠ 1 + 7 → R3 a = S2.2.2.2 a) → tmW kX11_reads 10 0 0 44 [some (tR 0), some (tI (rdA A).2.1)] [] ((S2.1, S2.2.1, S2.2.2.1, R3), V, L2) (CPost S I (m + 1) (tI (rdA A).2.1) A) := by
          intro R3 V ⟨v1, v2, v3, v4⟩ v5 v6
          have v6 : ∀ a, a ≠ 8 → R3 a = S2.2.2.2 a := v6
          have hL3 : LX (S2.1, S2.2.1, S2.2.2.1, R3) := LX.cp8 (R := S2.2.2.2) hL2 v6
          have gV : ∀ a, (a < 1 ∨ 8 ≤ a) → V a = I2 a := fun a ha => v4 a (by omega)
          have pf3 : PatFr S2 I2 (S2.1, S2.2.1, S2.2.2.1, R3) V := ⟨Nat.le_refl _, fun a a1 _ => ⟨rfl, rfl, v6 a (by omega), gV a (by omega)⟩⟩
          have hnow : StC (S2.1, S2.2.1, S2.2.2.1, R3) V 1 A.1 := by
            have h50 := hX.1
            exact slots2.fr pf3 v1 v2 (fun i i1 i2 t ht => v3 i i1 i2 t (by omega)) v5
          have plV : PlOK V us := by have := pl2 us hus; unfold PlOK at this ⊢; rw [gV 133 (by omega), gV 134 (by omega), gV 135 (by omega)]; exact this
          have hsa := c_settleAll (L := L2) hL3 hnow.1 hX plV
          have past3 : PastR (S2.1, S2.2.1, S2.2.2.1, R3) V A.2.1 := by
            refine ⟨k, by rw [gV 14 (by omega), i14]; exact p1, p2, by rw [gV 14 (by omega), i14]; exact p3, p4, fun i st hi => ?_⟩
            obtain ⟨a, b⟩ := p5 i st hi
            refine ⟨?_, b⟩
            have hil : i < A.2.1.length := by
              by_cases z : i < A.2.1.length
              · exact z
              · rw [List.getElem?_eq_none (by omega)] at hi; cases hi
            have hne : (k + 9 - A.2.1.length + i) % 9 ≠ k := by omega
            have hlt : (k + 9 - A.2.1.length + i) % 9 < 9 := Nat.mod_lt _ (by decide)
            generalize (k + 9 - A.2.1.length + i) % 9 = s at *
            have toJ : ∀ a, 16 + 13 * s ≤ a → a ≤ 22 + 13 * s → V a = I a := fun a a1 a2 => by rw [gV a (by omega), fI a (by omega) (by omega) (by omega) (by omega) (by omega), g4 a (by omega)]
            exact a.fr (pfAll.trans pf3) (by rw [toJ _ (by omega) (by omega)]) (by rw [toJ _ (by omega) (by omega)]) (fun j j1 j2 t _ => by rw [toJ _ (by omega) (by omega)]) (fun q _ => by show R3 _ q = _; rw [v6 _ (by omega), fR _ (by omega) (by omega), hR _ (by omega)])
          have prow3 : PRows (S2.1, S2.2.1, S2.2.2.1, R3) := ⟨(prw k p2).fr (Nat.le_refl _) (fun _ _ => rfl) v5, fun j hj => (prw j hj).fr (Nat.le_refl _) (fun _ _ => rfl) (fun q _ => by show R3 _ q = _; rw [v6 _ (by omega)])⟩
          have misc3 := misc2.fr (I' := V) (m' := m + 1) (Nat.le_refl _) (fun a ha => gV a (by omega)) (by rw [gV 155 (by omega)]) (by rw [gV 155 (by omega)]; exact hd)
          have o0q := oX0 hL3
          refine wa_aload_n dX11_reads_44 rfl ?_
          refine wa_callV (ci := 11) dX11_reads_45 KX11_settleAll LX11_116 ⟨_, _, rfl, by decide⟩ o0q (hsa) (by decide) rfl (Nat.le_of_ble_eq_true rfl) rfl rfl (fun r h' hq => ?_)
          obtain ⟨rfl, I3, rfl, hs⟩ := hq
          refine wa_iload_n dX11_reads_48 rfl ?_
          refine wa_ireturn dX11_reads_49 rfl ?_
          have hfin := CR.fin (L := L2) (m := m + 1) (P := A.2) hL3 hX hs hnow.2 past3 prow3 misc3
          refine ⟨rfl, _, I3, L2, rfl, ⟨hfin.1, hfin.2.1.cg (clX_self h.2.1.2.1).symm, hfin.2.2⟩, fun a a1 a2 => ?_⟩
          rw [hs.1 a (by omega) (by omega) (by omega) (by omega) (by omega), gV a (by omega)]
          exact mfr2 a a1 a2
        refine wa_istore_n dX11_reads_18 (by decide) ?_
        refine wa_iload_n dX11_reads_19 rfl ?_
        refine wa_if_le 33 dX11_reads_20 (by decide) (by first | exact rr | exact ⟨by omega, by omega⟩) (fun c_20 => ?_) (fun c_20 => ?_)
        · refine wa_aload_n dX11_reads_33 rfl ?_
          refine wt_getR dX11_reads_34 FX11_19 o0' r0_1' ?_
          refine wa_aload_n dX11_reads_37 rfl ?_
          refine wt_getR dX11_reads_38 FX11_10 o0' r0_0' ?_
          refine wa_callV (ci := 7) dX11_reads_41 KX7_undo LX11_230 ⟨_, _, rfl, by decide⟩ o14'' (hun) (by decide) rfl (Nat.le_of_ble_eq_true rfl) rfl rfl (fun r h' hq => ?_)
          obtain ⟨rfl, R3, V, rfl, v1, v2, v3⟩ := hq
          exact at44 R3 V v1 v2 v3
        · omega
    have o0' := oX0 hL1
    have o155' := oX155 hL1
    have r0_6' := rX0_6 hL1
    refine wa_aload_n dX11_reads_11 rfl ?_
    refine wt_getR dX11_reads_12 FX11_66 o0' r0_6' ?_
    refine wa_callV (ci := 9) dX11_reads_15 KX9_read LX11_224 ⟨_, _, rfl, by decide⟩ o155' (hread) (by decide) rfl (Nat.le_of_ble_eq_true rfl) (Nat.zero_add _) (Nat.zero_add _) (fun r h' hq => ?_)
    obtain ⟨S2, I2, L2, rfl, f, rfl, hd, hok⟩ := hq
    rw [e2]
    rw [e1, e4] at hok
    refine atX S2 I2 L2 f hd (fun z => ?_)
    obtain ⟨y1, y2, y3⟩ := hok z
    have hn3 := e3.1
    refine ⟨⟨by rw [y1, hn3], fun t ht => ?_⟩, y3⟩
    have h3 := e3.2 t ht
    rw [← y2] at h3
    exact h3
  refine wa_aload_n dX11_reads_0 rfl ?_
  refine wt_getR dX11_reads_1 FX11_19 (by assumption) (by assumption) ?_
  refine wa_aload_n dX11_reads_4 rfl ?_
  refine wt_getR dX11_reads_5 FX11_10 (by assumption) (by assumption) ?_
  refine wa_callV (ci := 7) dX11_reads_8 KX7_prepare LX11_221 ⟨_, _, rfl, by decide⟩ o14 (hprep) (by decide) rfl (Nat.le_of_ble_eq_true rfl) rfl rfl (fun r h' hq => ?_)
  obtain ⟨rfl, R', J, rfl, q1, q2, q3⟩ := hq
  exact behind R' J q1 q2 q3
end S88
