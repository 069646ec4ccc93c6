/-! ===== 52: two sides that are read make a RULE ===== -/
theorem NdOK.cg {fr may : Nat} {sg on ot st sg' on' ot' st' : Nat → Int} {i m : Nat} (h : NdOK fr may sg on ot st i) (hi : i < m) (e : ∀ j, j < m → sg' j = sg j ∧ on' j = on j ∧ ot' j = ot j ∧ st' j = st j) : NdOK fr may sg' on' ot' st' i := by
  obtain ⟨e1, e2, e3, e4⟩ := e i hi
  have es : zStage i st' (sg i) (on i) (ot i) = zStage i st (sg i) (on i) (ot i) := by
    unfold zStage tmStageOf
    have hh : ∀ x : Int, (if 0 ≤ x ∧ x < i then st' x.toNat else 0) = if 0 ≤ x ∧ x < i then st x.toNat else 0 := fun x => by
      by_cases z : 0 ≤ x ∧ x < i
      · rw [if_pos z, if_pos z, (e x.toNat (by omega)).2.2.2]
      · rw [if_neg z, if_neg z]
    rw [hh (on i), hh (ot i)]
  unfold NdOK at h ⊢
  rw [e1, e2, e3, e4, es]; exact h
theorem WF_of {m : Nat} {sg on ot st : Nat → Int} (h : ∀ i, i < m → ∃ fr may, NdOK fr may sg on ot st i) : WFN m sg on ot ∧ WFS m sg on ot st := by
  have hn : WFN m sg on ot := by
    intro i hi
    obtain ⟨fr, may, n1, n2, n3, n4, n5, n6, n7, n8⟩ := h i hi
    have key : (-1 ≤ on i ∧ on i < i) ∧ (-1 ≤ ot i ∧ ot i < i) := by
      by_cases c1 : sg i < 4 ∨ 7 ≤ sg i
      · have := n3 c1; omega
      · have a := n4 (by omega) (by omega)
        by_cases c2 : sg i = 6
        · have b := n6 c2; omega
        · have b := n5 (by omega) (by omega); omega
    refine ⟨n1, n2, key.1.1, key.1.2, key.2.1, key.2.2, fun z => n3 (Or.inl z), fun z => n3 (Or.inr z), fun z => ?_, fun z => n5 z.1 z.2, fun z => ?_⟩
    · have := n4 z.1 z.2; omega
    · have := n6 z; omega
  refine ⟨hn, ?_⟩
  have hb : ∀ i, i < m → 0 ≤ st i ∧ st i ≤ 3 := by
    intro i
    induction i using Nat.strongRecOn with
    | ind i ih =>
      intro hi
      obtain ⟨fr, may, n1, n2, n3, n4, n5, n6, n7, n8⟩ := h i hi
      have hs : ∀ x : Int, 0 ≤ tmStageOf i st x ∧ tmStageOf i st x ≤ 3 := fun x => by
        unfold tmStageOf
        by_cases z : 0 ≤ x ∧ x < i
        · rw [if_pos z]; exact ih x.toNat (by omega) (by omega)
        · rw [if_neg z]; omega
      have ha := hs (on i)
      have hb := hs (ot i)
      rw [n8]
      unfold zStage
      split
      · omega
      · split <;> omega
  intro i hi
  obtain ⟨fr, may, n1, n2, n3, n4, n5, n6, n7, n8⟩ := h i hi
  have w := hn i hi
  refine ⟨(hb i hi).1, (hb i hi).2, fun z => by rw [n8]; unfold zStage; rw [if_pos z], fun z => ?_⟩
  have hin : ∀ x : Int, 0 ≤ x → x < i → tmStageOf i st x = st x.toNat := fun x a b => by unfold tmStageOf; rw [if_pos ⟨a, b⟩]
  have hout : ∀ x : Int, ¬ 0 ≤ x → tmStageOf i st x = 0 := fun x a => by unfold tmStageOf; rw [if_neg (by omega)]
  have hst : st i = if tmStageOf i st (on i) < tmStageOf i st (ot i) then tmStageOf i st (ot i) else tmStageOf i st (on i) := by
    rw [n8]; unfold zStage; rw [if_neg (by omega)]
  by_cases a : 0 ≤ on i
  · have ha := hin (on i) a (by omega)
    by_cases b : 0 ≤ ot i
    · have hb' := hin (ot i) b (by omega)
      rw [ha, hb'] at hst
      split at hst
      · exact ⟨fun _ => by omega, fun _ => by omega, Or.inr (Or.inr ⟨b, hst⟩)⟩
      · exact ⟨fun _ => by omega, fun _ => by omega, Or.inr (Or.inl ⟨a, hst⟩)⟩
    · have hb' := hout (ot i) b
      have hon := hb (on i).toNat (by omega)
      rw [ha, hb', if_neg (by omega)] at hst
      exact ⟨fun _ => by omega, fun q => absurd q b, Or.inr (Or.inl ⟨a, hst⟩)⟩
  · have ha := hout (on i) a
    by_cases b : 0 ≤ ot i
    · have hb' := hin (ot i) b (by omega)
      have hon := hb (ot i).toNat (by omega)
      rw [ha, hb'] at hst
      split at hst
      · exact ⟨fun q => absurd q a, fun _ => by omega, Or.inr (Or.inr ⟨b, hst⟩)⟩
      · exact ⟨fun q => absurd q a, fun _ => by omega, Or.inl hst⟩
    · have hb' := hout (ot i) b
      rw [ha, hb', if_neg (by omega)] at hst
      exact ⟨fun q => absurd q a, fun q => absurd q b, Or.inl hst⟩
/-- LEFT and RIGHT as read: the shape of a RULE -/
theorem sides_rule {Z1 Z2 : ZS} {may m : Nat} (h1 : SdI 0 may 0 Z1 (fun j => j + 1 = Z1.1)) (hp1 : 0 < Z1.1) (hk : ZKp Z1 Z2) (h2 : SdI Z1.1 m 0 Z2 (fun j => j + 1 = Z2.1)) (hp2 : Z1.1 < Z2.1) (hm : m = tmLet Z1.2.1 Z1.1 0 0) (hroot : ¬ (Z1.1 = 1 ∧ m ≠ 0)) :
    WFN Z2.1 Z2.2.1 Z2.2.2.1 Z2.2.2.2.1 ∧ WFS Z2.1 Z2.2.1 Z2.2.2.1 Z2.2.2.2.1 Z2.2.2.2.2.1 ∧ Z2.2.1 (Z1.1 - 1) < 7 ∧ (∀ j, j + 1 < Z1.1 → ∃ i, i < Z1.1 ∧ (Z2.2.2.1 i = (j : Int) ∨ Z2.2.2.2.1 i = (j : Int))) ∧ SideOK Z1.1 Z2.1 Z2.2.2.1 Z2.2.2.2.1 ∧ ∀ i, Z1.1 ≤ i → i < Z2.1 → 7 ≤ Z2.2.1 i → ∃ j, j < Z1.1 ∧ Z2.2.1 j = Z2.2.1 i := by
  obtain ⟨a1, a2, a3, a4⟩ := h1
  obtain ⟨b1, b2, b3, b4⟩ := h2
  have hlow : ∀ i, i < Z1.1 → NdOK 0 may Z2.2.1 Z2.2.2.1 Z2.2.2.2.1 Z2.2.2.2.2.1 i := fun i hi => (a2 i (by omega) hi).cg hi hk.2
  have hnd : ∀ i, i < Z2.1 → ∃ fr may, NdOK fr may Z2.2.1 Z2.2.2.1 Z2.2.2.2.1 Z2.2.2.2.2.1 i := fun i hi => by
    by_cases z : i < Z1.1
    · exact ⟨_, _, hlow i z⟩
    · exact ⟨_, _, b2 i (by omega) hi⟩
  obtain ⟨w1, w2⟩ := WF_of hnd
  have hpart : ∀ j, j + 1 < Z1.1 → ∃ i, i < Z1.1 ∧ (Z1.2.2.1 i = (j : Int) ∨ Z1.2.2.2.1 i = (j : Int)) := fun j hj => by
    rcases a4 j (by omega) (by omega) with q | q | ⟨q, q1, _⟩
    · omega
    · exact q
    · omega
  refine ⟨w1, w2, ?_, fun j hj => ?_, fun i i1 i2 => ?_, fun i i1 i2 i3 => ?_⟩
  · by_cases h7 : Z2.2.1 (Z1.1 - 1) < 7
    · exact h7
    · exfalso
      have e1 := (hk.2 (Z1.1 - 1) (by omega)).1
      by_cases hone : Z1.1 = 1
      · refine hroot ⟨hone, fun hm0 => ?_⟩
        have nd := a2 0 (by omega) (by omega)
        have h9 := nd.2.1
        rw [hone] at e1 h7
        simp only [Nat.sub_self] at e1 h7
        have hb := (tmLet_bit (sg := Z1.2.1) (l := (Z1.2.1 0 - 7).toNat) (by omega) Z1.1 0 0 (fun j _ j2 => (a2 j (by omega) (by omega)).2.1)).mpr (Or.inr ⟨0, by omega, by omega, by omega⟩)
        rw [← hm, hm0] at hb
        simp at hb
      · obtain ⟨i, hi, hq⟩ := hpart (Z1.1 - 2) (by omega)
        have nd := a2 i (by omega) hi
        obtain ⟨n1, n2, n3, n4, n5, n6, n7, n8⟩ := nd
        by_cases z : i = Z1.1 - 1
        · subst z
          have := n3 (Or.inr (by omega))
          omega
        · have : (Z1.2.2.1 i < i ∨ Z1.2.2.1 i = -1) ∧ (Z1.2.2.2.1 i < i ∨ Z1.2.2.2.1 i = -1) := by
            by_cases c1 : Z1.2.1 i < 4 ∨ 7 ≤ Z1.2.1 i
            · have := n3 c1; omega
            · have a := n4 (by omega) (by omega)
              by_cases c2 : Z1.2.1 i = 6
              · have b := n6 c2; omega
              · have b := n5 (by omega) (by omega); omega
          omega
  · obtain ⟨i, hi, hq⟩ := hpart j hj
    refine ⟨i, hi, ?_⟩
    obtain ⟨_, e2, e3, _⟩ := hk.2 i hi
    rw [e2, e3]; exact hq
  · obtain ⟨n1, n2, n3, n4, n5, n6, n7, n8⟩ := b2 i i1 i2
    by_cases c1 : Z2.2.1 i < 4 ∨ 7 ≤ Z2.2.1 i
    · have := n3 c1; exact ⟨fun z => by omega, fun z => by omega⟩
    · have a := n4 (by omega) (by omega)
      by_cases c2 : Z2.2.1 i = 6
      · have b := n6 c2; exact ⟨fun z => by omega, fun z => by omega⟩
      · have b := n5 (by omega) (by omega); exact ⟨fun z => by omega, fun z => by omega⟩
  · obtain ⟨n1, n2, n3, n4, n5, n6, n7, n8⟩ := b2 i i1 i2
    have hb := n7 i3
    rw [hm] at hb
    rcases (tmLet_bit (sg := Z1.2.1) (l := (Z2.2.1 i - 7).toNat) (by omega) Z1.1 0 0 (fun j _ j2 => (a2 j (by omega) (by omega)).2.1)).mp hb with q | ⟨j, _, q2, q3⟩
    · simp at q
    · refine ⟨j, by omega, ?_⟩
      rw [(hk.2 j (by omega)).1]; omega
