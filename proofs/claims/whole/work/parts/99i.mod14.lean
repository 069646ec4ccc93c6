/-! ===== 99i: the reference: rule, finding ===== -/
/-- RULES are spelled by trees -/
def RlT (rl : RuL) : Prop := ∀ w ∈ rl, TreeW w.1 ∧ TreeW w.2
set_option maxRecDepth 20000 in
theorem rep_tree {I : Nat → Nat → Int} {p sz lf : Nat} {wl wr : List Int} (h : RepP I p sz lf wl wr) : TreeW wl ∧ TreeW wr := by
  obtain ⟨a1, a2, a3, a4, a5, a6, a7, a8, a9, a10⟩ := h
  exact ⟨⟨0, lf, _, _, _, lf - 1, a1, a2, by omega, by omega, a5⟩, ⟨lf, sz, _, _, _, sz - 1, a3, a4, by omega, by omega, a7⟩⟩
set_option maxRecDepth 20000 in
theorem RulesAt.tree {S : tmS} {I : Nat → Nat → Int} {A : Nat} {rl : RuL} (h : RulesAt S I A rl) : RlT rl := fun w hw => by
  obtain ⟨r, hr, rfl⟩ := List.getElem_of_mem hw
  obtain ⟨p, _, sz, lf, a, b, c⟩ := h.2.2 r _ (List.getElem?_eq_getElem hr)
  exact rep_tree c
set_option maxRecDepth 20000 in
theorem CR.tree {S : tmS} {I : Nat → Nat → Int} {L : Nat → Nat → Int64} {m : Nat} {A : AS} (h : CR S I L m A) : RlT A.1.2 := by
  obtain ⟨c1, c2, _⟩ := h
  exact c2.2.2.2.2.1.tree
set_option maxRecDepth 20000 in
theorem RlT.at {rl : RuL} (h : RlT rl) {r : Nat} (hr : r < rl.length) : TreeW (rlL rl r) ∧ TreeW (rlR rl r) := h _ (List.mem_of_getElem? (getRl hr))
set_option maxRecDepth 20000 in
theorem lt_a : ∀ m, m < 8 → Int32.ofInt ((m : Nat) : Int) &&& Int32.ofInt 1 = Int32.ofInt ((m % 2 : Nat) : Int) := by decide
set_option maxRecDepth 20000 in
theorem lt_s1 : ∀ m, m < 8 → Int32.ofInt ((m : Nat) : Int) >>> (Int32.ofInt 1 &&& 31) = Int32.ofInt ((m / 2 : Nat) : Int) := by decide
set_option maxRecDepth 20000 in
theorem lt_a1 : ∀ m, m < 8 → Int32.ofInt ((m / 2 : Nat) : Int) &&& Int32.ofInt 1 = Int32.ofInt ((m / 2 % 2 : Nat) : Int) := by decide
set_option maxRecDepth 20000 in
theorem lt_s2 : ∀ m, m < 8 → Int32.ofInt ((m : Nat) : Int) >>> (Int32.ofInt 2 &&& 31) = Int32.ofInt ((m / 4 : Nat) : Int) := by decide
set_option maxRecDepth 20000 in
theorem lt_sum : ∀ m, m < 8 → ((m % 2 : Nat) : Int) + ((m / 2 % 2 : Nat) : Int) + ((m / 4 : Nat) : Int) = bcN m := by decide
section S99i
variable {S : tmS} {I : Nat → Nat → Int} {L : Nat → Nat → Int64}
/-- scratch rows alone have changed -/
def ScF (I I' : Nat → Nat → Int) : Prop := ∀ a, (a < 177 ∨ 192 ≤ a) → I' a = I a
set_option maxRecDepth 20000 in
theorem ScF.cf {J : Nat → Nat → Int} (h : ScF I J) : CFr I J := fun a ha => h a (by omega)
set_option maxRecDepth 20000 in
theorem ScF.trans' {J K : Nat → Nat → Int} (h : ScF I J) (g : ScF J K) : ScF I K := fun a ha => (g a ha).trans (h a ha)
set_option maxRecDepth 20000 in
theorem MR.sc {A : AS} {J : Nat → Nat → Int} (h : MR I A) (f : ScF I J) : MR J A := by
  obtain ⟨h1, h2, h3, h4, h5, h6, h7, h8⟩ := h
  exact ⟨by rw [f 169 (by omega)]; exact h1, by rw [f 168 (by omega)]; exact h2, fun i s hs => by rw [f 170 (by omega)]; exact h3 i s hs, by rw [f 172 (by omega)]; exact h4, fun j hj => by rw [f 175 (by omega)]; exact h5 j hj, fun j hj => by rw [f 173 (by omega)]; exact h6 j hj, by rw [f 168 (by omega)]; exact h7, fun i hi => by rw [f 176 (by omega)]; exact h8 i hi⟩
set_option maxRecDepth 20000 in
theorem MR.scp {A : AS} {J : Nat → Nat → Int} (h : MR I A) (f : ScF I J) {v w : Int} (hv : v = w) : MPost S I L (tI w) A (some (tI v)) (S, J, L) := by
  subst hv
  exact ⟨rfl, J, rfl, h.sc f, f.cf⟩
-- table, then finds
set_option maxRecDepth 20000 in
theorem mlook {m : Nat} {A : AS} (hL : LX S) (ha : AOK m A) (h : MR I A) (ht : RlT A.1.2) {r : Nat} (hr : r < A.1.2.length) {J : Nat → Nat → Int} (f1 : ∀ a, a ≠ 182 → a ≠ 183 → a ≠ 184 → a ≠ 185 → J a = I a) (f2 : ∀ K, K < 2604 → plM J K = plT A.1.1 K) (f3 : ∀ c, c < A.1.1.1 → A.1.1.2.2.2.2.2 c = (c : Int) → J 185 c = lsX A.1.1 c) : tmC yX12_finds kX12_finds 4 0 0 [tR 168, tI r] (S, J, L) (fun q h' => q = none ∧ ∃ I', h' = (S, I', L) ∧ FS J I' r (fndA A r)) := by
  have e9 := f1 169 (by decide) (by decide) (by decide) (by decide)
  exact c_mfinds hL ha.1.1 (by unfold MT; rw [e9]; exact h.1.1) ((h.1.2.mw ha.1.2.1 ha.1.2.2 hr).row e9) (ht.at hr).1 f2 f3
set_option maxRecDepth 20000 in
theorem FS.sc {J K : Nat → Nat → Int} {r : Nat} {T : List E6} (f1 : ∀ a, a ≠ 182 → a ≠ 183 → a ≠ 184 → a ≠ 185 → J a = I a) (h : FS J K r T) : ScF I K := fun a ha => by rw [h.1 a (by omega) (by omega) (by omega) (by omega)]; exact f1 a (by omega) (by omega) (by omega) (by omega)
set_option maxRecDepth 20000 in
theorem c_mfinding {m : Nat} {A : AS} (hL : LX S) (ha : AOK m A) (hm : m ≤ 1000) (h : MR I A) (ht : RlT A.1.2) (t k w : Int) (ht2 : inR t) (hk2 : inR k) (hw2 : inR w) : tmC yX12_finding kX12_finding 5 0 0 [tR 168, tI t, tI k, tI w] (S, I, L) (MPost S I L (tI (spFinding A t k w).1) (spFinding A t k w).2) := by
  refine tmC.mk (lv := [some (tR 168), some (tI t), some (tI k), some (tI w)]) 0 ⟨rfl, by decide +kernel, by decide⟩ rfl rfl ?_
  have o168 := oX168 hL
  have r168_0 := rX168_0 hL
  have r168_1 := rX168_1 hL
  have r168_3 := rX168_3 hL
  have r168_4 := rX168_4 hL
  have r168_5 := rX168_5 hL
  have r168_6 := rX168_6 hL
  have r168_7 := rX168_7 hL
  have r168_8 := rX168_8 hL
  have r168_11 := rX168_11 hL
  have r168_13 := rX168_13 hL
  have r168_17 := rX168_17 hL
  have r168_18 := rX168_18 hL
  have r168_19 := rX168_19 hL
  have r168_21 := rX168_21 hL
  have r168_22 := rX168_22 hL
  have r168_23 := rX168_23 hL
  have r168_24 := rX168_24 hL
  have r168_25 := rX168_25 hL
  have r168_26 := rX168_26 hL
  have r168_27 := rX168_27 hL
  have r168_28 := rX168_28 hL
  have r168_29 := rX168_29 hL
  have r168_30 := rX168_30 hL
  have o186 := oX186 hL
  have o187 := oX187 hL
  have hrf := c_mrf0 (L := L) hL ha hm h
  have h6 := ha.1.2.1
  have k1 := c_misRule (I := I) (L := L) hL h.1.2.1 h6 t ht2
  have k2 := c_min (h := (S, I, L)) w 0 4 hw2 ⟨by decide, by decide⟩ ⟨by decide, by decide⟩
  have kt := c_mtable (L := L) hL ha.1.1 h.1.1
  by_cases c1 : 0 ≤ t ∧ t < A.1.2.length
  · rw [if_pos c1] at k1
    by_cases c2 : k < 0
    · have e : spFinding A t k w = (-2, aRf A 0) := by unfold spFinding; rw [if_neg (fun z => by omega)]
      rw [e]
      refine wa_aload_n dX12_finding_0 rfl ?_
      refine wa_iload_n dX12_finding_1 rfl ?_
      refine wa_callVf (ci := 12) dX12_finding_2 KX12_isRule LX12_154 ⟨_, _, rfl, by decide⟩ o168 (k1) (by decide) rfl rfl (Nat.le_of_ble_eq_true rfl) rfl rfl ?_
      refine wa_if_eq 21 dX12_finding_5 (by decide) (by first | exact hk2 | exact ⟨by omega, by omega⟩) (fun c_5 => ?_) (fun c_5 => ?_)
      · omega
      · refine wa_iload_n dX12_finding_8 rfl ?_
        refine wa_if_lt 21 dX12_finding_9 (by decide) (by first | exact hk2 | exact ⟨by omega, by omega⟩) (fun c_9 => ?_) (fun c_9 => ?_)
        · refine wa_aload_n dX12_finding_21 rfl ?_
          refine wa_bipush dX12_finding_22 rfl ?_
          refine wa_callV (ci := 12) dX12_finding_24 KX12_refuses LX12_113 ⟨_, _, rfl, by decide⟩ o168 (hrf) (by decide) rfl (Nat.le_of_ble_eq_true rfl) rfl rfl (fun r h' hq => ?_)
          obtain ⟨rfl, hq⟩ := hq
          refine wa_ireturn dX12_finding_27 rfl ?_
          exact ⟨rfl, hq⟩
        · omega
    · by_cases c3 : 0 ≤ w ∧ w ≤ 4
      · rw [if_pos c3] at k2
        have e : spFinding A t k w = (findX A t.toNat k.toNat w.toNat, A) := by unfold spFinding; rw [if_pos ⟨c1, by omega, c3⟩]
        rw [e]
        obtain ⟨r, rfl⟩ : ∃ r : Nat, t = (r : Int) := ⟨t.toNat, by omega⟩
        obtain ⟨k, rfl⟩ : ∃ k' : Nat, k = (k' : Int) := ⟨k.toNat, by omega⟩
        obtain ⟨w, rfl⟩ : ∃ w' : Nat, w = (w' : Int) := ⟨w.toNat, by omega⟩
        simp only [Int.toNat_natCast]
        have rest : ∀ J K : Nat → Nat → Int, (∀ a, a ≠ 182 → a ≠ 183 → a ≠ 184 → a ≠ 185 → J a = I a) → FS J K r (fndA A r) → tmW kX12_finding 5 0 0 37 [some (tR 168), some (tI r), some (tI k), some (tI w)] [] (S, K, L) (MPost S I L (tI (findX A r k w)) A) := fun J K f1 hK => by
          obtain ⟨t1, t2, t3⟩ := hK.2.2.2
          have sc := FS.sc f1 hK
          unfold findX
          generalize fndA A r = T at *
          by_cases ck : k < T.length
          · have ex := List.getElem?_eq_getElem ck
            have t4 := t3 k _ ex
            rw [ex]
            have ev : K 186 (1000 * r + 5 * k + w) = e6At T[k] w := by
              unfold e6At
              rcases (by omega : w = 0 ∨ w = 1 ∨ w = 2 ∨ w = 3 ∨ w = 4) with rfl | rfl | rfl | rfl | rfl
              · exact t4.1
              · exact t4.2.1
              · exact t4.2.2.1
              · exact t4.2.2.2.1
              · exact t4.2.2.2.2
            refine wa_iload_n dX12_finding_37 rfl ?_
            refine wa_aload_n dX12_finding_38 rfl ?_
            refine wt_getR dX12_finding_39 FX12_64 (by assumption) (by assumption) ?_
            refine wa_iload_n dX12_finding_42 rfl ?_
            refine wt_iald r dX12_finding_43 (by assumption) rfl (by omega) ?_
            try first | rw [t1] | skip
            refine wa_icmp_ge 66 dX12_finding_44 (by decide) (by exact ⟨by omega, by omega⟩) (by exact ⟨by omega, by omega⟩) (fun c_44 => ?_) (fun c_44 => ?_)
            · omega
            · refine wa_aload_n dX12_finding_47 rfl ?_
              refine wt_getR dX12_finding_48 FX12_61 (by assumption) (by assumption) ?_
              refine wa_sipush dX12_finding_51 rfl ?_
              refine wa_iload_n dX12_finding_54 rfl ?_
              refine wa_imul dX12_finding_55 ?_
              refine wa_iconst dX12_finding_56 ?_
              refine wa_iload_n dX12_finding_57 rfl ?_
              refine wa_imul dX12_finding_58 ?_
              refine wa_iadd dX12_finding_59 ?_
              refine wa_iload_n dX12_finding_60 rfl ?_
              refine wa_iadd dX12_finding_61 ?_
              refine wt_iald (1000 * r + 5 * k + w) dX12_finding_62 (by assumption) (by omega) (by omega) ?_
              try first | rw [t1] | skip
              refine wa_goto 67 dX12_finding_63 (by decide) ?_
              refine wa_ireturn dX12_finding_67 rfl ?_
              exact h.scp sc ev
          · rw [List.getElem?_eq_none (by omega)]
            refine wa_iload_n dX12_finding_37 rfl ?_
            refine wa_aload_n dX12_finding_38 rfl ?_
            refine wt_getR dX12_finding_39 FX12_64 (by assumption) (by assumption) ?_
            refine wa_iload_n dX12_finding_42 rfl ?_
            refine wt_iald r dX12_finding_43 (by assumption) rfl (by omega) ?_
            try first | rw [t1] | skip
            refine wa_icmp_ge 66 dX12_finding_44 (by decide) (by first | exact hk2 | exact ⟨by omega, by omega⟩) (by first | exact hk2 | exact ⟨by omega, by omega⟩) (fun c_44 => ?_) (fun c_44 => ?_)
            · refine wa_iconst dX12_finding_66 ?_
              refine wa_ireturn dX12_finding_67 rfl ?_
              exact h.scp sc rfl
            · omega
        have mid : ∀ J : Nat → Nat → Int, (∀ a, a ≠ 182 → a ≠ 183 → a ≠ 184 → a ≠ 185 → J a = I a) → (∀ K, K < 2604 → plM J K = plT A.1.1 K) → (∀ c, c < A.1.1.1 → A.1.1.2.2.2.2.2 c = (c : Int) → J 185 c = lsX A.1.1 c) → tmW kX12_finding 5 0 0 32 [some (tR 168), some (tI r), some (tI k), some (tI w)] [] (S, J, L) (MPost S I L (tI (findX A r k w)) A) := fun J f1 f2 f3 => by
          have kf := mlook (L := L) hL ha h ht (r := r) (by omega) f1 f2 f3
          refine wa_aload_n dX12_finding_32 rfl ?_
          refine wa_iload_n dX12_finding_33 rfl ?_
          refine wa_callV (ci := 12) dX12_finding_34 KX12_finds LX12_163 ⟨_, _, rfl, by decide⟩ o168 (kf) (by decide) rfl (Nat.le_of_ble_eq_true rfl) rfl rfl (fun r h' hq => ?_)
          obtain ⟨rfl, K, rfl, hK⟩ := hq
          exact rest J K f1 hK
        refine wa_aload_n dX12_finding_0 rfl ?_
        refine wa_iload_n dX12_finding_1 rfl ?_
        refine wa_callVf (ci := 12) dX12_finding_2 KX12_isRule LX12_154 ⟨_, _, rfl, by decide⟩ o168 (k1) (by decide) rfl rfl (Nat.le_of_ble_eq_true rfl) rfl rfl ?_
        refine wa_if_eq 21 dX12_finding_5 (by decide) (by first | exact hk2 | exact ⟨by omega, by omega⟩) (fun c_5 => ?_) (fun c_5 => ?_)
        · omega
        · refine wa_iload_n dX12_finding_8 rfl ?_
          refine wa_if_lt 21 dX12_finding_9 (by decide) (by first | exact hk2 | exact ⟨by omega, by omega⟩) (fun c_9 => ?_) (fun c_9 => ?_)
          · omega
          · refine wa_iload_n dX12_finding_12 rfl ?_
            refine wa_iconst dX12_finding_13 ?_
            refine wa_iconst dX12_finding_14 ?_
            refine wa_callSf dX12_finding_15 KX12_in LX12_79 (k2) (by decide) rfl rfl (Nat.le_of_ble_eq_true rfl) rfl rfl ?_
            refine wa_if_ne 28 dX12_finding_18 (by decide) (by first | exact hk2 | exact ⟨by omega, by omega⟩) (fun c_18 => ?_) (fun c_18 => ?_)
            · refine wa_aload_n dX12_finding_28 rfl ?_
              refine wa_callV (ci := 12) dX12_finding_29 KX12_table LX12_160 ⟨_, _, rfl, by decide⟩ o168 (kt) (by decide) rfl (Nat.le_of_ble_eq_true rfl) rfl rfl (fun r h' hq => ?_)
              obtain ⟨rfl, J, rfl, f1, f2, f3⟩ := hq
              exact mid J f1 f2 f3
            · omega
      · rw [if_neg c3] at k2
        have e : spFinding A t k w = (-2, aRf A 0) := by unfold spFinding; rw [if_neg (fun z => c3 z.2.2)]
        rw [e]
        refine wa_aload_n dX12_finding_0 rfl ?_
        refine wa_iload_n dX12_finding_1 rfl ?_
        refine wa_callVf (ci := 12) dX12_finding_2 KX12_isRule LX12_154 ⟨_, _, rfl, by decide⟩ o168 (k1) (by decide) rfl rfl (Nat.le_of_ble_eq_true rfl) rfl rfl ?_
        refine wa_if_eq 21 dX12_finding_5 (by decide) (by first | exact hk2 | exact ⟨by omega, by omega⟩) (fun c_5 => ?_) (fun c_5 => ?_)
        · omega
        · refine wa_iload_n dX12_finding_8 rfl ?_
          refine wa_if_lt 21 dX12_finding_9 (by decide) (by first | exact hk2 | exact ⟨by omega, by omega⟩) (fun c_9 => ?_) (fun c_9 => ?_)
          · omega
          · refine wa_iload_n dX12_finding_12 rfl ?_
            refine wa_iconst dX12_finding_13 ?_
            refine wa_iconst dX12_finding_14 ?_
            refine wa_callSf dX12_finding_15 KX12_in LX12_79 (k2) (by decide) rfl rfl (Nat.le_of_ble_eq_true rfl) rfl rfl ?_
            refine wa_if_ne 28 dX12_finding_18 (by decide) (by first | exact hk2 | exact ⟨by omega, by omega⟩) (fun c_18 => ?_) (fun c_18 => ?_)
            · omega
            · refine wa_aload_n dX12_finding_21 rfl ?_
              refine wa_bipush dX12_finding_22 rfl ?_
              refine wa_callV (ci := 12) dX12_finding_24 KX12_refuses LX12_113 ⟨_, _, rfl, by decide⟩ o168 (hrf) (by decide) rfl (Nat.le_of_ble_eq_true rfl) rfl rfl (fun r h' hq => ?_)
              obtain ⟨rfl, hq⟩ := hq
              refine wa_ireturn dX12_finding_27 rfl ?_
              exact ⟨rfl, hq⟩
  · rw [if_neg c1] at k1
    have e : spFinding A t k w = (-2, aRf A 0) := by unfold spFinding; rw [if_neg (fun z => c1 z.1)]
    rw [e]
    refine wa_aload_n dX12_finding_0 rfl ?_
    refine wa_iload_n dX12_finding_1 rfl ?_
    refine wa_callVf (ci := 12) dX12_finding_2 KX12_isRule LX12_154 ⟨_, _, rfl, by decide⟩ o168 (k1) (by decide) rfl rfl (Nat.le_of_ble_eq_true rfl) rfl rfl ?_
    refine wa_if_eq 21 dX12_finding_5 (by decide) (by first | exact hk2 | exact ⟨by omega, by omega⟩) (fun c_5 => ?_) (fun c_5 => ?_)
    · refine wa_aload_n dX12_finding_21 rfl ?_
      refine wa_bipush dX12_finding_22 rfl ?_
      refine wa_callV (ci := 12) dX12_finding_24 KX12_refuses LX12_113 ⟨_, _, rfl, by decide⟩ o168 (hrf) (by decide) rfl (Nat.le_of_ble_eq_true rfl) rfl rfl (fun r h' hq => ?_)
      obtain ⟨rfl, hq⟩ := hq
      refine wa_ireturn dX12_finding_27 rfl ?_
      exact ⟨rfl, hq⟩
    · omega
end S99i
