/-! ===== 35: Round.keyOf, arrange ===== -/
/-- the ORDER's key of a FINDING -/
def kf (od : Int) (e : E6) : Int := if od = 1 then e.2.2.2.2.2 else if od = 2 then 5 - e.1 else if od = 3 then e.2.2.2.2.1 else e.1
def EGood (n nr : Nat) (e : E6) : Prop := (0 ≤ e.1 ∧ e.1 < nr) ∧ (0 ≤ e.2.2.2.2.1 ∧ e.2.2.2.2.1 < n) ∧ (0 ≤ e.2.2.2.2.2 ∧ e.2.2.2.2.2 ≤ 9)
theorem kf_rng {n nr : Nat} (hn : n ≤ 50) (hr : nr ≤ 6) {e : E6} (h : EGood n nr e) (od : Int) : 0 ≤ kf od e ∧ kf od e ≤ 49 := by
  obtain ⟨⟨h1, h2⟩, ⟨h3, h4⟩, h5, h6⟩ := h
  unfold kf
  split
  · omega
  · split
    · omega
    · split <;> omega
def kyOf (od : Int) (T : List E6) (i : Nat) : Nat := match T[i]? with | some e => (kf od e).toNat | none => 0
theorem kyOf_eq {od : Int} {T : List E6} {i : Nat} {e : E6} (h : T[i]? = some e) : kyOf od T i = (kf od e).toNat := by unfold kyOf; rw [h]
/-- the indexes in ORDER -/
def SQK (ky : Nat → Nat) (m K : Nat) : List Nat := (List.range K).flatMap fun k => (List.range m).filter (fun i => ky i == k)
theorem SQK_s (ky : Nat → Nat) (m K : Nat) : SQK ky m (K + 1) = SQK ky m K ++ (List.range m).filter (fun i => ky i == K) := by
  unfold SQK; rw [List.range_succ, List.flatMap_append]; simp
theorem SQK_len (ky : Nat → Nat) (m : Nat) : ∀ K, (SQK ky m K).length = (List.range m).countP (fun i => decide (ky i < K)) := by
  intro K
  induction K with
  | zero => simp [SQK]
  | succ K ih =>
    rw [SQK_s, List.length_append, ih, ← List.countP_eq_length_filter]
    induction List.range m with
    | nil => rfl
    | cons a l ih2 =>
      simp only [List.countP_cons]
      by_cases h1 : ky a < K
      · have : ¬ ky a = K := by omega
        have : ky a < K + 1 := by omega
        simp [*]; omega
      · by_cases h2 : ky a = K
        · simp [h2]; omega
        · have : ¬ ky a < K + 1 := by omega
          simp [*]
theorem SQK_all (ky : Nat → Nat) (m : Nat) (h : ∀ i, i < m → ky i < 50) : (SQK ky m 50).length = m := by
  rw [SQK_len]
  conv => rhs; rw [← List.length_range (n := m)]
  exact List.countP_eq_length.mpr (fun a ha => by simpa using h a (List.mem_range.mp ha))
theorem SQK_nodup (ky : Nat → Nat) (m K : Nat) : (SQK ky m K).Nodup := by
  unfold SQK
  refine List.pairwise_flatMap.mpr ⟨fun a _ => List.Pairwise.filter _ List.nodup_range, ?_⟩
  refine List.Pairwise.imp ?_ (List.nodup_range (n := K))
  intro a b hab x hx y hy
  simp only [List.mem_filter, beq_iff_eq] at hx hy
  intro e; subst e; exact hab (hx.2.symm.trans hy.2)
theorem SQK_pre (ky : Nat → Nat) (m K : Nat) : ∀ d p, p < (SQK ky m K).length → (SQK ky m (K + d))[p]? = (SQK ky m K)[p]? := by
  intro d
  induction d with
  | zero => intro p _; rfl
  | succ d ih =>
    intro p hp
    have hlt : p < (SQK ky m (K + d)).length := by
      have := ih p hp
      rw [List.getElem?_eq_getElem hp] at this
      exact (List.getElem?_eq_some_iff.mp this).1
    rw [← Nat.add_assoc, SQK_s, List.getElem?_append_left hlt, ih p hp]
theorem filt_at (P : Nat → Bool) (j : Nat) (hj : P j = true) : ∀ m, j < m → ((List.range m).filter P)[(List.range j).countP P]? = some j := by
  intro m
  induction m with
  | zero => intro h; omega
  | succ m ih =>
    intro h
    rw [List.range_succ, List.filter_append]
    by_cases hm : j = m
    · subst hm
      rw [List.getElem?_append_right (by rw [← List.countP_eq_length_filter]; omega), ← List.countP_eq_length_filter]
      simp [hj]
    · have := ih (by omega)
      rw [List.getElem?_append_left (List.getElem?_eq_some_iff.mp this).1]; exact this
def rk (ky : Nat → Nat) (m j : Nat) : Nat := (List.range m).countP (fun i => decide (ky i < ky j)) + (List.range j).countP (fun i => ky i == ky j)
theorem SQK_rk (ky : Nat → Nat) (m j : Nat) (hj : j < m) (h : ky j < 50) : (SQK ky m 50)[rk ky m j]? = some j := by
  have h1 := filt_at (fun i => ky i == ky j) j (by simp) m hj
  have h2 : (SQK ky m (ky j + 1))[rk ky m j]? = some j := by
    rw [SQK_s, List.getElem?_append_right (by rw [SQK_len]; unfold rk; omega), SQK_len]
    rw [show rk ky m j - (List.range m).countP (fun i => decide (ky i < ky j)) = (List.range j).countP (fun i => ky i == ky j) by unfold rk; omega]
    exact h1
  have h3 := SQK_pre ky m (ky j + 1) (50 - (ky j + 1)) (rk ky m j) (List.getElem?_eq_some_iff.mp h2).1
  rw [show ky j + 1 + (50 - (ky j + 1)) = 50 by omega] at h3
  rw [h3, h2]
theorem SQK_uniq (ky : Nat → Nat) (m : Nat) {p q j : Nat} (h1 : (SQK ky m 50)[p]? = some j) (h2 : (SQK ky m 50)[q]? = some j) : p = q :=
  (List.getElem?_inj (List.getElem?_eq_some_iff.mp h1).1 (SQK_nodup ky m 50)).mp (h1.trans h2.symm)
theorem cnt_s (P : Nat → Bool) (i : Nat) : (List.range (i + 1)).countP P = (List.range i).countP P + (if P i then 1 else 0) := by
  rw [List.range_succ, List.countP_append]; simp [List.countP_cons]
theorem cnt_le (P : Nat → Bool) (i : Nat) : (List.range i).countP P ≤ i := by
  have := List.countP_le_length (p := P) (l := List.range i)
  rw [List.length_range] at this; exact this
theorem below_s (ky : Nat → Nat) (m K : Nat) : (List.range m).countP (fun i => decide (ky i < K + 1)) = (List.range m).countP (fun i => decide (ky i < K)) + (List.range m).countP (fun i => ky i == K) := by
  rw [← SQK_len, ← SQK_len, SQK_s, List.length_append, ← List.countP_eq_length_filter]
section S35
variable {S : tmS} {I : Nat → Nat → Int} {L : Nat → Nat → Int64}
set_option maxRecDepth 20000 in
theorem c_Rkey (hL : LX S) {n nr : Nat} (hn : n ≤ 50) (hnr : nr ≤ 6) {T : List E6} (hT : TdOK (I 150 1) (L 151) T) (od : Int) (hod : inR od) {k : Nat} {e : E6} (hk : T[k]? = some e) (he : EGood n nr e) :
    tmC yX3_keyOf kX3_keyOf 2 0 0 [tR 149, tI od, tI k] (S, I, L) (tmF (some (tI (kf od e))) (S, I, L)) := by
  refine tmC.mk (lv := [some (tR 149), some (tI od), some (tI k), none]) 1 ⟨rfl, by decide +kernel, by decide⟩ rfl rfl ?_
  have o149 := oX149 hL
  have r149_0 := rX149_0 hL
  have r149_1 := rX149_1 hL
  have r149_2 := rX149_2 hL
  have r149_3 := rX149_3 hL
  have r149_4 := rX149_4 hL
  have r149_5 := rX149_5 hL
  have r149_6 := rX149_6 hL
  have r149_7 := rX149_7 hL
  have o150 := oX150 hL
  have r150_0 := rX150_0 hL
  have o151 := oX151 hL
  have hfin : LFin S 150 1200 := ⟨o150, r150_0, o151⟩
  obtain ⟨t1, t2, t3⟩ := hT
  obtain ⟨g0, g1, g2, g3, g4, g5, g6⟩ := t3 k e hk
  have hkl := (List.getElem?_eq_some_iff.mp hk).1
  have hkr := kf_rng hn hnr he od
  have hTl : ∀ w, w < 6 → tmC yX1_tell kX1_tell 1 0 0 [tR 150, tI k, tI (w : Nat)] (S, I, L) (tmF (some (tI (tmPart e.1 e.2.1 e.2.2.1 e.2.2.2.1 e.2.2.2.2.1 e.2.2.2.2.2 w))) (S, I, L)) := fun w hw => c_tell hfin t1 t2 k w hkl hw g1 g2 g3 g4 g5 g6 g0
  have p4 := hTl 4 (by decide)
  have p5 := hTl 5 (by decide)
  have p3 := hTl 3 (by decide)
  have tail : ∀ (w : Int), w = kf od e → tmW kX3_keyOf 2 0 0 79 [some (tR 149), some (tI od), some (tI k), some (tI w)] [] (S, I, L) (tmF (some (tI (kf od e))) (S, I, L)) := by
    intro w hw
    refine wa_iconst dX3_keyOf_79 ?_
    refine wa_bipush dX3_keyOf_80 rfl ?_
    refine wa_iload_n dX3_keyOf_82 rfl ?_
    refine wa_min dX3_keyOf_83 LX3_95 (by decide) (Nat.le_of_ble_eq_true rfl) (by exact ⟨by omega, by omega⟩) (by exact ⟨by omega, by omega⟩) ?_
    refine wa_max dX3_keyOf_86 LX3_100 (by decide) (Nat.le_of_ble_eq_true rfl) (by (try split) <;> exact ⟨by omega, by omega⟩) (by (try split) <;> exact ⟨by omega, by omega⟩) ?_
    refine wa_ireturn dX3_keyOf_89 rfl ?_
    refine ⟨?_, rfl⟩
    subst hw
    congr 2
    split <;> split at * <;> omega
  refine wa_iload_n dX3_keyOf_0 rfl ?_
  by_cases h1 : od = 1
  · refine wa_tableIn 28 dX3_keyOf_1 hod (by omega) (by omega) (off := 27) (by subst h1; rfl) (by decide) ?_
    refine wa_aload_n dX3_keyOf_28 rfl ?_
    refine wt_getR dX3_keyOf_29 FX3_16 (by assumption) (by assumption) ?_
    refine wa_iload_n dX3_keyOf_32 rfl ?_
    refine wa_iconst dX3_keyOf_33 ?_
    refine wa_callVf (ci := 1) dX3_keyOf_34 KX1_tell LX3_92 ⟨_, _, rfl, by decide⟩ o150 (p4) (by decide) rfl rfl (Nat.le_of_ble_eq_true rfl) rfl rfl ?_
    refine wa_istore_n dX3_keyOf_37 (by decide) ?_
    refine wa_goto 79 dX3_keyOf_38 (by decide) ?_
    refine tail _ ?_
    unfold kf
    simp only [*, if_true, if_false, tmPart]
    try rfl
  · by_cases h2 : od = 2
    · refine wa_tableIn 41 dX3_keyOf_1 hod (by omega) (by omega) (off := 40) (by subst h2; rfl) (by decide) ?_
      refine wa_iconst dX3_keyOf_41 ?_
      refine wa_aload_n dX3_keyOf_42 rfl ?_
      refine wt_getR dX3_keyOf_43 FX3_16 (by assumption) (by assumption) ?_
      refine wa_iload_n dX3_keyOf_46 rfl ?_
      refine wa_iconst dX3_keyOf_47 ?_
      refine wa_callVf (ci := 1) dX3_keyOf_48 KX1_tell LX3_92 ⟨_, _, rfl, by decide⟩ o150 (p5) (by decide) rfl rfl (Nat.le_of_ble_eq_true rfl) rfl rfl ?_
      refine wa_isub dX3_keyOf_51 ?_
      refine wa_istore_n dX3_keyOf_52 (by decide) ?_
      refine wa_goto 79 dX3_keyOf_53 (by decide) ?_
      refine tail _ ?_
      unfold kf
      simp only [*, if_true, if_false, tmPart]
      try rfl
    · by_cases h3 : od = 3
      · refine wa_tableIn 56 dX3_keyOf_1 hod (by omega) (by omega) (off := 55) (by subst h3; rfl) (by decide) ?_
        refine wa_aload_n dX3_keyOf_56 rfl ?_
        refine wt_getR dX3_keyOf_57 FX3_16 (by assumption) (by assumption) ?_
        refine wa_iload_n dX3_keyOf_60 rfl ?_
        refine wa_iconst dX3_keyOf_61 ?_
        refine wa_callVf (ci := 1) dX3_keyOf_62 KX1_tell LX3_92 ⟨_, _, rfl, by decide⟩ o150 (p3) (by decide) rfl rfl (Nat.le_of_ble_eq_true rfl) rfl rfl ?_
        refine wa_istore_n dX3_keyOf_65 (by decide) ?_
        refine wa_goto 79 dX3_keyOf_66 (by decide) ?_
        refine tail _ ?_
        unfold kf
        simp only [*, if_true, if_false, tmPart]
        try rfl
      · refine wa_tableOut 69 dX3_keyOf_1 hod (by omega) (by decide) ?_
        refine wa_aload_n dX3_keyOf_69 rfl ?_
        refine wt_getR dX3_keyOf_70 FX3_16 (by assumption) (by assumption) ?_
        refine wa_iload_n dX3_keyOf_73 rfl ?_
        refine wa_iconst dX3_keyOf_74 ?_
        refine wa_callVf (ci := 1) dX3_keyOf_75 KX1_tell LX3_92 ⟨_, _, rfl, by decide⟩ o150 (p5) (by decide) rfl rfl (Nat.le_of_ble_eq_true rfl) rfl rfl ?_
        refine wa_istore_n dX3_keyOf_78 (by decide) ?_
        refine tail _ ?_
        unfold kf
        simp only [*, if_true, if_false, tmPart]
        try rfl
set_option maxRecDepth 20000 in
theorem arrange_1 (hL : LX S) {n nr : Nat} (hn : n ≤ 50) (hnr : nr ≤ 6) {T : List E6} (od : Int) (hod : inR od) (hg : ∀ e ∈ T, EGood n nr e) (hT : TdOK (I 150 1) (L 151) T) (Q : Option tmV → tmH → Prop)
    (kk : ∀ (B : Nat → Int) (x : Option tmV), B 0 = 0 → (∀ k, k < 50 → B (k + 1) = (((List.range T.length).countP (fun i => kyOf od T i == k) : Nat) : Int)) → tmW kX3_arrange 3 0 0 44 [some (tR 149), some (tI od), x, none, none] [] (S, va_up I 153 B, L) Q) :
    ∀ (m i : Nat) (B : Nat → Int), i + m = T.length → B 0 = 0 → (∀ k, k < 50 → B (k + 1) = (((List.range i).countP (fun i => kyOf od T i == k) : Nat) : Int)) →
    tmW kX3_arrange 3 0 0 10 [some (tR 149), some (tI od), some (tI i), none, none] [] (S, va_up I 153 B, L) Q := by
  intro m
  have o149 := oX149 hL
  have r149_0 := rX149_0 hL
  have r149_1 := rX149_1 hL
  have r149_2 := rX149_2 hL
  have r149_3 := rX149_3 hL
  have r149_4 := rX149_4 hL
  have r149_5 := rX149_5 hL
  have r149_6 := rX149_6 hL
  have r149_7 := rX149_7 hL
  have o150 := oX150 hL
  have r150_0 := rX150_0 hL
  have o151 := oX151 hL
  have o152 := oX152 hL
  have o153 := oX153 hL
  have e150 : ∀ B : Nat → Int, va_up I 153 B 150 = I 150 := fun B => vup_n (by decide)
  obtain ⟨t1, t2, t3⟩ := id hT
  induction m with
  | zero =>
    intro i B him hB0 hB
    have : i = T.length := by omega
    subst this
    refine wa_iload_n dX3_arrange_10 rfl ?_
    refine wa_aload_n dX3_arrange_11 rfl ?_
    refine wt_getR dX3_arrange_12 FX3_16 (by assumption) (by assumption) ?_
    refine wt_getI dX3_arrange_15 FX3_58 (by assumption) ?_
    try rw [e150, t1]
    refine wa_icmp_ge 44 dX3_arrange_18 (by decide) (by exact ⟨by omega, by omega⟩) (by exact ⟨by omega, by omega⟩) (fun c_18 => ?_) (fun c_18 => ?_)
    · exact kk B _ hB0 hB
    · omega
  | succ m ih =>
    intro i B him hB0 hB
    obtain ⟨e, he⟩ : ∃ e, T[i]? = some e := ⟨_, List.getElem?_eq_getElem (by omega)⟩
    have hge := hg e (List.mem_of_getElem? he)
    have hr := kf_rng hn hnr hge od
    have hky := kyOf_eq (od := od) he
    have hT' : TdOK (va_up I 153 B 150 1) (L 151) T := by rw [e150]; exact hT
    have ck := c_Rkey (I := va_up I 153 B) (L := L) hL hn hnr hT' od hod he hge
    have hkf : kf od e = ((kyOf od T i : Nat) : Int) := by omega
    have hBk := hB (kyOf od T i) (by omega)
    have hcl := cnt_le (fun j => kyOf od T j == kyOf od T i) i
    have nx := ih (i + 1) (va_up B (kyOf od T i + 1) (B (kyOf od T i + 1) + 1)) (by omega) (by rw [vup_n (by omega)]; exact hB0) (fun k hk => by
      rw [cnt_s]
      by_cases z : kyOf od T i = k
      · subst z; rw [vup_s, hBk]; simp
      · rw [vup_n (by omega), hB k hk]; simp [z])
    rw [hkf] at ck
    refine wa_iload_n dX3_arrange_10 rfl ?_
    refine wa_aload_n dX3_arrange_11 rfl ?_
    refine wt_getR dX3_arrange_12 FX3_16 (by assumption) (by assumption) ?_
    refine wt_getI dX3_arrange_15 FX3_58 (by assumption) ?_
    try try rw [e150, t1]
    refine wa_icmp_ge 44 dX3_arrange_18 (by decide) (by exact ⟨by omega, by omega⟩) (by exact ⟨by omega, by omega⟩) (fun c_18 => ?_) (fun c_18 => ?_)
    · omega
    · refine wa_aload_n dX3_arrange_21 rfl ?_
      refine wt_getR dX3_arrange_22 FX3_24 (by assumption) (by assumption) ?_
      refine wa_aload_n dX3_arrange_25 rfl ?_
      refine wa_iload_n dX3_arrange_26 rfl ?_
      refine wa_iload_n dX3_arrange_27 rfl ?_
      refine wa_callVf (ci := 3) dX3_arrange_28 KX3_keyOf LX3_88 ⟨_, _, rfl, by decide⟩ (by assumption) (ck) (by decide) rfl rfl (Nat.le_of_ble_eq_true rfl) rfl rfl ?_
      refine wa_iconst dX3_arrange_31 ?_
      refine wa_iadd dX3_arrange_32 ?_
      refine wa_dup2 dX3_arrange_33 rfl rfl ?_
      refine wt_iald (kyOf od T i + 1) dX3_arrange_34 (by assumption) (by omega) (by omega) ?_
      try try rw [e150, t1]
      refine wa_iconst dX3_arrange_35 ?_
      refine wa_iadd dX3_arrange_36 ?_
      refine wt_iast (kyOf od T i + 1) dX3_arrange_37 (by assumption) (by omega) (by omega) (by rw [vup_s, hBk]; exact ⟨by omega, by omega⟩) ?_
      refine wa_iinc dX3_arrange_38 rfl (by decide) ?_
      refine wa_goto 10 dX3_arrange_41 (by decide) ?_
      rw [vup_s, vup_vup]
      exact nx
end S35
