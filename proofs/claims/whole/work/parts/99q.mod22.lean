/-! ===== 99q: the reference: closes, joins, closes is one closure; stands for does ===== -/
set_option maxRecDepth 20000 in
theorem cl_jn {Y : TS} (hY : HO Y.1 Y.2.2.2.2.2) {t u : Nat} (ht : t < Y.1) (hu : u < Y.1) : TsEq (clX (jnX Y t u)) (clX (jnX (clX Y) t u)) := by
  have hc : IsCl Y.1 Y.2.1 Y.2.2.1 Y.2.2.2.1 Y.2.2.2.2.2 (clH Y) := clH_ok hY
  have hj : HO Y.1 (tmJn Y.1 (clH Y) (clH Y t) (clH Y u)) := tmJn_HO hc.1.1 ht hu
  have hg : IsCl Y.1 Y.2.1 Y.2.2.1 Y.2.2.2.1 (tmJn Y.1 (clH Y) (clH Y t) (clH Y u)) (clH (jnX (clX Y) t u)) := clH_ok (X := jnX (clX Y) t u) hj
  have le1 : HLe Y.1 Y.2.2.2.2.2 (clH (jnX (clX Y) t u)) := (hc.1.2.1.trans tmJn_le).trans hg.1.2.1
  have e1 : clH (jnX (clX Y) t u) t = clH (jnX (clX Y) t u) u := hg.1.2.1 t u ht hu (tmJn_eq ht hu)
  have key : IsCl Y.1 Y.2.1 Y.2.2.1 Y.2.2.2.1 (tmJn Y.1 Y.2.2.2.2.2 (Y.2.2.2.2.2 t) (Y.2.2.2.2.2 u)) (clH (jnX (clX Y) t u)) := by
    refine ⟨⟨hg.1.1, tmJn_least le1 ht hu e1, fun k k1 k2 k3 => ?_⟩, hg.2⟩
    have h2 : HLe Y.1 Y.2.2.2.2.2 k := tmJn_le.trans k2
    have h3 : HLe Y.1 (clH Y) k := hc.1.2.2 k k1 h2 k3
    have h4 : k t = k u := k2 t u ht hu (tmJn_eq ht hu)
    exact hg.1.2.2 k k1 (tmJn_least h3 ht hu h4) k3
  exact (clX_eq (TsEq.refl (jnX Y t u)) (g := clH (jnX (clX Y) t u)) key).1
section S99q
variable {S : tmS} {I : Nat → Nat → Int} {L : Nat → Nat → Int64}
-- LETTERS stand for CLASSES of what was found
set_option maxRecDepth 20000 in
theorem mdoes_st (hL : LX S) {X : TS} (h50 : X.1 ≤ 50) (hho : HO X.1 X.2.2.2.2.2) (hM : MT I X) {r k b : Nat} (hb : b + 5 ≤ 6000) {ch : Nat → Int} (hch : ∀ l, l < 3 → I 186 (b + l) = ch l ∧ -1 ≤ ch l ∧ ch l < X.1) {a4 a5 : Int} (Q : Option tmV → tmH → Prop) : ∀ (i j : Nat) (J : Nat → Nat → Int), j + i = 3 → (∀ a, a ≠ 189 → J a = I a) → (∀ l, l < j → J 189 l = tmHome X.1 X.2.2.2.2.2 (ch l)) →
    (∀ J' : Nat → Nat → Int, (∀ a, a ≠ 189 → J' a = I a) → (∀ l, l < 3 → J' 189 l = tmHome X.1 X.2.2.2.2.2 (ch l)) → tmW kX12_does 6 0 0 77 [some (tR 168), some (tI r), some (tI k), some (tI b), some (tI a4), some (tI a5), some (tI (3 : Nat)), none] [] (S, J', L) Q) →
    tmW kX12_does 6 0 0 29 [some (tR 168), some (tI r), some (tI k), some (tI b), some (tI a4), some (tI a5), some (tI j), none] [] (S, J, L) Q := by
  intro i
  have o168 := oX168 hL
  have r168_0 := rX168_0 hL
  have r168_1 := rX168_1 hL
  have r168_3 := rX168_3 hL
  have r168_4 := rX168_4 hL
  have r168_5 := rX168_5 hL
  have r168_6 := rX168_6 hL
  have r168_7 := rX168_7 hL
  have r168_8 := rX168_8 hL
  have r168_11 := rX168_11 hL
  have r168_13 := rX168_13 hL
  have r168_17 := rX168_17 hL
  have r168_18 := rX168_18 hL
  have r168_19 := rX168_19 hL
  have r168_21 := rX168_21 hL
  have r168_22 := rX168_22 hL
  have r168_23 := rX168_23 hL
  have r168_24 := rX168_24 hL
  have r168_25 := rX168_25 hL
  have r168_26 := rX168_26 hL
  have r168_27 := rX168_27 hL
  have r168_28 := rX168_28 hL
  have r168_29 := rX168_29 hL
  have r168_30 := rX168_30 hL
  have o186 := oX186 hL
  have o189 := oX189 hL
  induction i with
  | zero =>
    intro j J hj hJ hc kk
    obtain rfl : j = 3 := by omega
    have := kk J hJ hc
    refine wa_iload dX12_does_29 rfl ?_
    refine wa_iconst dX12_does_31 ?_
    refine wa_icmp_ge 77 dX12_does_32 (by decide) (by exact ⟨by omega, by omega⟩) (by exact ⟨by omega, by omega⟩) (fun c_32 => ?_) (fun c_32 => ?_)
    · exact this
    · omega
  | succ i ih =>
    intro j J hj hJ hc kk
    obtain ⟨e0, b1, b2⟩ := hch j (by omega)
    have e1 : J 186 (b + j) = ch j := by rw [hJ 186 (by decide)]; exact e0
    have step : ∀ v : Int, v = tmHome X.1 X.2.2.2.2.2 (ch j) → tmW kX12_does 6 0 0 29 [some (tR 168), some (tI r), some (tI k), some (tI b), some (tI a4), some (tI a5), some (tI (j + 1 : Nat)), none] [] (S, va_up J 189 (va_up (J 189) j v), L) Q := fun v hv => by
      refine ih (j + 1) _ (by omega) (fun a ha => by rw [vup_n ha]; exact hJ a ha) (fun l hl => ?_) kk
      rw [vup_s]
      by_cases e : l = j
      · subst e; rw [vup_s]; exact hv
      · rw [vup_n e]; exact hc l (by omega)
    by_cases z : ch j < 0
    · have nx := step (-1) (by unfold tmHome; rw [if_neg (by omega)])
      refine wa_iload dX12_does_29 rfl ?_
      refine wa_iconst dX12_does_31 ?_
      refine wa_icmp_ge 77 dX12_does_32 (by decide) (by exact ⟨by omega, by omega⟩) (by exact ⟨by omega, by omega⟩) (fun c_32 => ?_) (fun c_32 => ?_)
      · omega
      · refine wa_aload_n dX12_does_35 rfl ?_
        refine wt_getR dX12_does_36 FX12_70 (by assumption) (by assumption) ?_
        refine wa_iload dX12_does_39 rfl ?_
        refine wa_aload_n dX12_does_41 rfl ?_
        refine wt_getR dX12_does_42 FX12_61 (by assumption) (by assumption) ?_
        refine wa_iload_n dX12_does_45 rfl ?_
        refine wa_iload dX12_does_46 rfl ?_
        refine wa_iadd dX12_does_48 ?_
        refine wt_iald (b + j) dX12_does_49 (by assumption) (by omega) (by omega) ?_
        try first | rw [e1] | skip
        refine wa_if_ge 57 dX12_does_50 (by decide) (by exact ⟨by omega, by omega⟩) (fun c_50 => ?_) (fun c_50 => ?_)
        · omega
        · refine wa_iconst dX12_does_53 ?_
          refine wa_goto 70 dX12_does_54 (by decide) ?_
          refine wt_iast j dX12_does_70 (by assumption) rfl (by omega) (by exact ⟨by omega, by omega⟩) ?_
          refine wa_iinc dX12_does_71 rfl (by decide) ?_
          refine wa_goto 29 dX12_does_74 (by decide) ?_
          exact nx
    · obtain ⟨p, hp⟩ : ∃ p : Nat, ch j = (p : Int) := ⟨(ch j).toNat, by omega⟩
      have bp := hho p (by omega)
      have nx := step (X.2.2.2.2.2 p) (by rw [hp, tmHome_in ⟨by omega, by omega⟩, Int.toNat_natCast])
      have kc := c_mclassOf (I := J) (L := L) hL p (by omega)
      rw [show J 169 (202 + p) = X.2.2.2.2.2 p by rw [hJ 169 (by decide)]; exact (hM.2 p (by omega)).2.2.2.2] at kc
      refine wa_iload dX12_does_29 rfl ?_
      refine wa_iconst dX12_does_31 ?_
      refine wa_icmp_ge 77 dX12_does_32 (by decide) (by exact ⟨by omega, by omega⟩) (by exact ⟨by omega, by omega⟩) (fun c_32 => ?_) (fun c_32 => ?_)
      · omega
      · refine wa_aload_n dX12_does_35 rfl ?_
        refine wt_getR dX12_does_36 FX12_70 (by assumption) (by assumption) ?_
        refine wa_iload dX12_does_39 rfl ?_
        refine wa_aload_n dX12_does_41 rfl ?_
        refine wt_getR dX12_does_42 FX12_61 (by assumption) (by assumption) ?_
        refine wa_iload_n dX12_does_45 rfl ?_
        refine wa_iload dX12_does_46 rfl ?_
        refine wa_iadd dX12_does_48 ?_
        refine wt_iald (b + j) dX12_does_49 (by assumption) (by omega) (by omega) ?_
        try first | rw [e1, hp] | skip
        refine wa_if_ge 57 dX12_does_50 (by decide) (by exact ⟨by omega, by omega⟩) (fun c_50 => ?_) (fun c_50 => ?_)
        · refine wa_aload_n dX12_does_57 rfl ?_
          refine wa_aload_n dX12_does_58 rfl ?_
          refine wt_getR dX12_does_59 FX12_61 (by assumption) (by assumption) ?_
          refine wa_iload_n dX12_does_62 rfl ?_
          refine wa_iload dX12_does_63 rfl ?_
          refine wa_iadd dX12_does_65 ?_
          refine wt_iald (b + j) dX12_does_66 (by assumption) (by omega) (by omega) ?_
          try first | rw [e1, hp] | skip
          refine wa_callVf (ci := 12) dX12_does_67 KX12_classOf LX12_95 ⟨_, _, rfl, by decide⟩ o168 (kc) (by decide) rfl rfl (Nat.le_of_ble_eq_true rfl) rfl rfl ?_
          refine wt_iast j dX12_does_70 (by assumption) rfl (by omega) (by exact ⟨by omega, by omega⟩) ?_
          refine wa_iinc dX12_does_71 rfl (by decide) ?_
          refine wa_goto 29 dX12_does_74 (by decide) ?_
          exact nx
        · omega
end S99q
