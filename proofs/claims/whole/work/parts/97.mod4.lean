/-! ===== 97: the reference's cells against the pure state; keeps ===== -/
def MTf (f : Nat → Int) (X : TS) : Prop := f 0 = (X.1 : Int) ∧ ∀ t, t < X.1 → f (2 + t) = X.2.1 t ∧ f (52 + t) = X.2.2.1 t ∧ f (102 + t) = X.2.2.2.1 t ∧ f (152 + t) = X.2.2.2.2.1 t ∧ f (202 + t) = X.2.2.2.2.2 t
def MRl (f : Nat → Int) (rl : RuL) : Prop := f 1 = (rl.length : Int) ∧ ∀ (r : Nat) (w : List Int × List Int), rl[r]? = some w → f (252 + r) = (w.1.length : Int) ∧ f (258 + r) = (w.2.length : Int) ∧ (∀ k, k < w.1.length → f (264 + 120 * r + k) = w.1.getD k 0) ∧ ∀ k, k < w.2.length → f (264 + 120 * r + w.1.length + k) = w.2.getD k 0
def MRow (f : Nat → Int) (st : TS × RuL) : Prop := MTf f st.1 ∧ MRl f st.2
def StV (st : TS × RuL) : Prop := XOK st.1 ∧ st.2.length ≤ 6 ∧ RlOK st.2
theorem MRl.cg {f g : Nat → Int} {rl : RuL} (h : MRl f rl) (h6 : rl.length ≤ 6) (hok : RlOK rl) (e : ∀ k, (k = 1 ∨ 252 ≤ k) → k < 984 → g k = f k) : MRl g rl := by
  refine ⟨by rw [e 1 (by omega) (by omega)]; exact h.1, fun r w hw => ?_⟩
  have hr : r < rl.length := by
    by_cases z : r < rl.length
    · exact z
    · rw [List.getElem?_eq_none (by omega)] at hw; cases hw
  obtain ⟨a, b, c, d⟩ := h.2 r w hw
  obtain ⟨_, _, _, _, o5, _, _⟩ := hok w (List.mem_of_getElem? hw)
  exact ⟨by rw [e _ (by omega) (by omega)]; exact a, by rw [e _ (by omega) (by omega)]; exact b, fun k hk => by rw [e _ (by omega) (by omega)]; exact c k hk, fun k hk => by rw [e _ (by omega) (by omega)]; exact d k hk⟩
theorem MRow.cg {f g : Nat → Int} {st : TS × RuL} (h : MRow f st) (hv : StV st) (e : ∀ k, k < 984 → g k = f k) : MRow g st := by
  have h50 := hv.1.1.1
  refine ⟨⟨by rw [e 0 (by omega)]; exact h.1.1, fun t ht => ?_⟩, h.2.cg hv.2.1 hv.2.2 (fun k _ hk => e k hk)⟩
  rw [e _ (by omega), e _ (by omega), e _ (by omega), e _ (by omega), e _ (by omega)]
  exact h.1.2 t ht
/-- what the pure state is like -/
def AOK (m : Nat) (A : AS) : Prop := StV A.1 ∧ (∀ st ∈ A.2.1, StV st) ∧ A.2.1.length ≤ 8 ∧ (0 ≤ A.2.2.1.1 ∧ A.2.2.1.1 ≤ 3) ∧ (0 ≤ A.2.2.1.2 ∧ A.2.2.1.2 ≤ 9) ∧ (∀ j, j < 3 → 0 ≤ A.2.2.2.1 j ∧ A.2.2.2.1 j ≤ m) ∧ A.2.2.2.2.2.1 ≤ 120 ∧ ∀ i, i < A.2.2.2.2.2.1 → 0 ≤ A.2.2.2.2.2.2 i ∧ A.2.2.2.2.2.2 i ≤ 127
theorem RulesAt.ok {S : tmS} {I : Nat → Nat → Int} {A : Nat} {rl : RuL} (h : RulesAt S I A rl) : RlOK rl := fun w hw => by
  obtain ⟨r, hr, rfl⟩ := List.getElem_of_mem hw
  obtain ⟨p, _, sz, lf, a, b, c⟩ := h.2.2 r _ (List.getElem?_eq_getElem hr)
  exact rep_RuOK a b c
theorem CR.aok {S : tmS} {I : Nat → Nat → Int} {L : Nat → Nat → Int64} {m : Nat} {A : AS} (h : CR S I L m A) : AOK m A := by
  obtain ⟨c1, c2, ⟨k, p1, p2, p3, p4, p5⟩, c4, k1, k2, k3, k4, k5, k6⟩ := h
  refine ⟨⟨c2.2.1, c2.2.2.2.2.1.2.1, c2.2.2.2.2.1.ok⟩, fun st hst => ?_, p4, k1.2, k2.2, fun j hj => (k3 j hj).2, k5.2.1, fun i hi => (k5.2.2 i hi).2⟩
  obtain ⟨i, hi, rfl⟩ := List.getElem_of_mem hst
  obtain ⟨a, b⟩ := p5 i _ (List.getElem?_eq_getElem hi)
  exact ⟨b, a.2.2.1, a.2.ok⟩
def MR (I : Nat → Nat → Int) (A : AS) : Prop := MRow (I 169) A.1 ∧ I 168 2 = (A.2.1.length : Int) ∧ (∀ (i : Nat) (st : TS × RuL), A.2.1[i]? = some st → MRow (fun k => I 170 (984 * i + k)) st) ∧ (I 172 0 = A.2.2.1.1 ∧ I 172 1 = A.2.2.1.2) ∧ (∀ j, j < 3 → I 175 j = A.2.2.2.1 j) ∧ (∀ j, j < 5 → I 173 j = A.2.2.2.2.1 j) ∧ I 168 9 = (A.2.2.2.2.2.1 : Int) ∧ ∀ i, i < A.2.2.2.2.2.1 → I 176 i = A.2.2.2.2.2.2 i
/-- the class's cells, which the reference leaves as they are -/
def CFr (I I' : Nat → Nat → Int) : Prop := ∀ a, (a < 168 ∨ 192 ≤ a) → I' a = I a
theorem CFr.rfl' {I : Nat → Nat → Int} : CFr I I := fun _ _ => rfl
theorem CFr.trans' {I J K : Nat → Nat → Int} (h : CFr I J) (g : CFr J K) : CFr I K := fun a ha => (g a ha).trans (h a ha)
theorem MFx.cf {I J : Nat → Nat → Int} (h : MFx I J) : CFr I J := fun a ha => h.1 a (by omega)
/-- TERMS and RULES have changed, the rest not -/
theorem MR.now {I I' : Nat → Nat → Int} {A : AS} (h : MR I A) {st : TS × RuL} (hr : MRow (I' 169) st) (e : ∀ a, a = 170 ∨ a = 172 ∨ a = 173 ∨ a = 175 ∨ a = 176 → I' a = I a) (e2 : I' 168 2 = I 168 2) (e9 : I' 168 9 = I 168 9) : MR I' (aNow A st) := by
  obtain ⟨h1, h2, h3, h4, h5, h6, h7, h8⟩ := h
  exact ⟨hr, by rw [e2]; exact h2, fun i s hs => by rw [e 170 (by omega)]; exact h3 i s hs, by rw [e 172 (by omega)]; exact h4, fun j hj => by rw [e 175 (by omega)]; exact h5 j hj, fun j hj => by rw [e 173 (by omega)]; exact h6 j hj, by rw [e9]; exact h7, fun i hi => by rw [e 176 (by omega)]; exact h8 i hi⟩
/-- the same, where TERMS alone have changed -/
theorem MR.fx {I I' : Nat → Nat → Int} {A : AS} (h : MR I A) (hv : StV A.1) {X : TS} (hm : MT I' X) (f : MFx I I') : MR I' (aNow A (X, A.1.2)) := h.now ⟨hm, h.1.2.cg hv.2.1 hv.2.2 (fun k hk _ => f.2 k hk)⟩ (fun a ha => f.1 a (by omega)) (by rw [f.1 168 (by decide)]) (by rw [f.1 168 (by decide)])
abbrev MPost (S : tmS) (I : Nat → Nat → Int) (L : Nat → Nat → Int64) (v : tmV) (A : AS) : Option tmV → tmH → Prop := fun r h' => r = some v ∧ ∃ I', h' = (S, I', L) ∧ MR I' A ∧ CFr I I'
section S97
variable {S : tmS} {I : Nat → Nat → Int} {L : Nat → Nat → Int64}
theorem MR.stay {A B : AS} (h : MR I A) {v w : Int} (hv : v = w) (hB : B = A) : MPost S I L (tI w) B (some (tI v)) (S, I, L) := by
  subst hv; subst hB
  exact ⟨rfl, I, rfl, h, CFr.rfl'⟩
theorem c_mrf {m : Nat} {A : AS} (hL : LX S) (ha : AOK m A) (hm : m ≤ 1000) (h : MR I A) {j : Nat} (hj : j < 3) : tmC yX12_refuses kX12_refuses 1 0 0 [tR 168, tI (-2 - (j : Int))] (S, I, L) (MPost S I L (tI (-2 - (j : Int))) (aRf A j)) := by
  obtain ⟨h1, h2, h3, h4, h5, h6, h7, h8⟩ := h
  have hb := ha.2.2.2.2.2.1 j hj
  have e5 := h5 j hj
  refine (c_mrefuses (I := I) (L := L) hL hj (by omega)).weaken (fun q h' hq => ?_)
  obtain ⟨rfl, rfl⟩ := hq
  refine ⟨rfl, _, rfl, ⟨by rw [vup_n (by decide)]; exact h1, by rw [vup_n (by decide)]; exact h2, fun i s hs => by rw [vup_n (by decide)]; exact h3 i s hs, by rw [vup_n (by decide)]; exact h4, fun i hi => ?_, fun i hi => by rw [vup_n (by decide)]; exact h6 i hi, by rw [vup_n (by decide)]; exact h7, fun i hi => by rw [vup_n (by decide)]; exact h8 i hi⟩, fun a h => vup_n (by omega)⟩
  rw [vup_s]
  show va_up (I 175) j (I 175 j + 1) i = va_up A.2.2.2.1 j (A.2.2.2.1 j + 1) i
  by_cases e : i = j
  · subst e; rw [vup_s, vup_s, e5]
  · rw [vup_n e, vup_n e]; exact h5 i hi
theorem c_mrf0 {m : Nat} {A : AS} (hL : LX S) (ha : AOK m A) (hm : m ≤ 1000) (h : MR I A) : tmC yX12_refuses kX12_refuses 1 0 0 [tR 168, tI (-2)] (S, I, L) (MPost S I L (tI (-2)) (aRf A 0)) := c_mrf hL ha hm h (j := 0) (by decide)
theorem c_mrf1 {m : Nat} {A : AS} (hL : LX S) (ha : AOK m A) (hm : m ≤ 1000) (h : MR I A) : tmC yX12_refuses kX12_refuses 1 0 0 [tR 168, tI (-3)] (S, I, L) (MPost S I L (tI (-3)) (aRf A 1)) := c_mrf hL ha hm h (j := 1) (by decide)
theorem c_mrf2 {m : Nat} {A : AS} (hL : LX S) (ha : AOK m A) (hm : m ≤ 1000) (h : MR I A) : tmC yX12_refuses kX12_refuses 1 0 0 [tR 168, tI (-4)] (S, I, L) (MPost S I L (tI (-4)) (aRf A 2)) := c_mrf hL ha hm h (j := 2) (by decide)
/-- past, moved up to k; a row copied up to k -/
def fSh (f : Nat → Int) (k : Nat) : Nat → Int := fun j => if j < k then f (j + 984) else f j
def fCp (f g : Nat → Int) (b k : Nat) : Nat → Int := fun j => if b ≤ j ∧ j < b + k then g (j - b) else f j
theorem fSh_0 {f : Nat → Int} : fSh f 0 = f := by funext j; unfold fSh; rw [if_neg (by omega)]
theorem fSh_s {f : Nat → Int} {k : Nat} : va_up (fSh f k) k (f (k + 984)) = fSh f (k + 1) := by
  funext j; unfold fSh
  by_cases e : j = k
  · subst e; rw [vup_s, if_pos (by omega)]
  · rw [vup_n e]
    by_cases z : j < k
    · rw [if_pos z, if_pos (by omega)]
    · rw [if_neg z, if_neg (by omega)]
theorem fSh_at {f : Nat → Int} {k : Nat} : fSh f k (k + 984) = f (k + 984) := by unfold fSh; rw [if_neg (by omega)]
theorem fCp_0 {f g : Nat → Int} {b : Nat} : fCp f g b 0 = f := by funext j; unfold fCp; rw [if_neg (by omega)]
theorem fCp_s {f g : Nat → Int} {b k : Nat} : va_up (fCp f g b k) (b + k) (g k) = fCp f g b (k + 1) := by
  funext j; unfold fCp
  by_cases e : j = b + k
  · subst e; rw [vup_s, if_pos (by omega)]; congr 1; omega
  · rw [vup_n e]
    by_cases z : b ≤ j ∧ j < b + k
    · rw [if_pos z, if_pos (by omega)]
    · rw [if_neg z, if_neg (by omega)]
set_option maxRecDepth 20000 in
theorem keeps_sh (hL : LX S) (hI0 : tmIR I) (Q : Option tmV → tmH → Prop) (kk : tmW kX12_keeps 1 0 0 40 [some (tR 168), some (tI (6888 : Nat))] [] (S, va_up I 170 (fSh (I 170) 6888), L) Q) : ∀ (j k : Nat), k + j = 6888 → tmW kX12_keeps 1 0 0 11 [some (tR 168), some (tI k)] [] (S, va_up I 170 (fSh (I 170) k), L) Q := by
  intro j
  have o168 := oX168 hL
  have r168_0 := rX168_0 hL
  have r168_1 := rX168_1 hL
  have r168_3 := rX168_3 hL
  have r168_4 := rX168_4 hL
  have r168_5 := rX168_5 hL
  have r168_6 := rX168_6 hL
  have r168_7 := rX168_7 hL
  have r168_8 := rX168_8 hL
  have r168_11 := rX168_11 hL
  have r168_13 := rX168_13 hL
  have r168_17 := rX168_17 hL
  have r168_18 := rX168_18 hL
  have r168_19 := rX168_19 hL
  have r168_21 := rX168_21 hL
  have r168_22 := rX168_22 hL
  have r168_23 := rX168_23 hL
  have r168_24 := rX168_24 hL
  have r168_25 := rX168_25 hL
  have r168_26 := rX168_26 hL
  have r168_27 := rX168_27 hL
  have r168_28 := rX168_28 hL
  have r168_29 := rX168_29 hL
  have r168_30 := rX168_30 hL
  have o170 := oX170 hL
  induction j with
  | zero =>
    intro k hk
    obtain rfl : k = 6888 := by omega
    refine wa_iload_n dX12_keeps_11 rfl ?_
    refine wa_sipush dX12_keeps_12 rfl ?_
    refine wa_icmp_ge 40 dX12_keeps_15 (by decide) (by exact ⟨by omega, by omega⟩) (by exact ⟨by omega, by omega⟩) (fun c_15 => ?_) (fun c_15 => ?_)
    · exact kk
    · omega
  | succ j ih =>
    intro k hk
    have nx := ih (k + 1) (by omega)
    rw [← fSh_s] at nx
    refine wa_iload_n dX12_keeps_11 rfl ?_
    refine wa_sipush dX12_keeps_12 rfl ?_
    refine wa_icmp_ge 40 dX12_keeps_15 (by decide) (by first | exact hI0 _ _ | exact ⟨by omega, by omega⟩) (by first | exact hI0 _ _ | exact ⟨by omega, by omega⟩) (fun c_15 => ?_) (fun c_15 => ?_)
    · omega
    · refine wa_aload_n dX12_keeps_18 rfl ?_
      refine wt_getR dX12_keeps_19 FX12_13 (by assumption) (by assumption) ?_
      refine wa_iload_n dX12_keeps_22 rfl ?_
      refine wa_aload_n dX12_keeps_23 rfl ?_
      refine wt_getR dX12_keeps_24 FX12_13 (by assumption) (by assumption) ?_
      refine wa_iload_n dX12_keeps_27 rfl ?_
      refine wa_sipush dX12_keeps_28 rfl ?_
      refine wa_iadd dX12_keeps_31 ?_
      refine wt_iald (k + 984) dX12_keeps_32 (by assumption) (by omega) (by omega) ?_
      rw [vup_s, fSh_at]
      refine wt_iast k dX12_keeps_33 (by assumption) rfl (by omega) (by first | exact hI0 _ _ | exact ⟨by omega, by omega⟩) ?_
      rw [vup_s, vup_vup]
      refine wa_iinc dX12_keeps_34 rfl (by decide) ?_
      refine wa_goto 11 dX12_keeps_37 (by decide) ?_
      exact nx
set_option maxRecDepth 20000 in
theorem keeps_cp (hL : LX S) (hI0 : tmIR I) {z : Nat} (hz : I 168 2 = (z : Int)) (hz8 : z < 8) (Q : Option tmV → tmH → Prop) (kk : tmW kX12_keeps 1 0 0 86 [some (tR 168), some (tI (984 : Nat))] [] (S, va_up I 170 (fCp (I 170) (I 169) (984 * z) 984), L) Q) : ∀ (j k : Nat), k + j = 984 → tmW kX12_keeps 1 0 0 52 [some (tR 168), some (tI k)] [] (S, va_up I 170 (fCp (I 170) (I 169) (984 * z) k), L) Q := by
  intro j
  have o168 := oX168 hL
  have r168_0 := rX168_0 hL
  have r168_1 := rX168_1 hL
  have r168_3 := rX168_3 hL
  have r168_4 := rX168_4 hL
  have r168_5 := rX168_5 hL
  have r168_6 := rX168_6 hL
  have r168_7 := rX168_7 hL
  have r168_8 := rX168_8 hL
  have r168_11 := rX168_11 hL
  have r168_13 := rX168_13 hL
  have r168_17 := rX168_17 hL
  have r168_18 := rX168_18 hL
  have r168_19 := rX168_19 hL
  have r168_21 := rX168_21 hL
  have r168_22 := rX168_22 hL
  have r168_23 := rX168_23 hL
  have r168_24 := rX168_24 hL
  have r168_25 := rX168_25 hL
  have r168_26 := rX168_26 hL
  have r168_27 := rX168_27 hL
  have r168_28 := rX168_28 hL
  have r168_29 := rX168_29 hL
  have r168_30 := rX168_30 hL
  have o169 := oX169 hL
  have o170 := oX170 hL
  have e168 : ∀ f : Nat → Int, va_up I 170 f 168 = I 168 := fun f => vup_n (by decide)
  have e169 : ∀ f : Nat → Int, va_up I 170 f 169 = I 169 := fun f => vup_n (by decide)
  induction j with
  | zero =>
    intro k hk
    obtain rfl : k = 984 := by omega
    refine wa_iload_n dX12_keeps_52 rfl ?_
    refine wa_sipush dX12_keeps_53 rfl ?_
    refine wa_icmp_ge 86 dX12_keeps_56 (by decide) (by exact ⟨by omega, by omega⟩) (by exact ⟨by omega, by omega⟩) (fun c_56 => ?_) (fun c_56 => ?_)
    · exact kk
    · omega
  | succ j ih =>
    intro k hk
    have nx := ih (k + 1) (by omega)
    rw [← fCp_s] at nx
    refine wa_iload_n dX12_keeps_52 rfl ?_
    refine wa_sipush dX12_keeps_53 rfl ?_
    refine wa_icmp_ge 86 dX12_keeps_56 (by decide) (by first | exact hI0 _ _ | exact ⟨by omega, by omega⟩) (by first | exact hI0 _ _ | exact ⟨by omega, by omega⟩) (fun c_56 => ?_) (fun c_56 => ?_)
    · omega
    · refine wa_aload_n dX12_keeps_59 rfl ?_
      refine wt_getR dX12_keeps_60 FX12_13 (by assumption) (by assumption) ?_
      refine wa_sipush dX12_keeps_63 rfl ?_
      refine wa_aload_n dX12_keeps_66 rfl ?_
      refine wt_getI dX12_keeps_67 FX12_83 (by assumption) ?_
      try first | rw [e168, hz] | rw [e169] | skip
      refine wa_imul dX12_keeps_70 ?_
      refine wa_iload_n dX12_keeps_71 rfl ?_
      refine wa_iadd dX12_keeps_72 ?_
      refine wa_aload_n dX12_keeps_73 rfl ?_
      refine wt_getR dX12_keeps_74 FX12_7 (by assumption) (by assumption) ?_
      refine wa_iload_n dX12_keeps_77 rfl ?_
      refine wt_iald k dX12_keeps_78 (by assumption) rfl (by omega) ?_
      try first | rw [e168, hz] | rw [e169] | skip
      refine wt_iast (984 * z + k) dX12_keeps_79 (by assumption) (by omega) (by omega) (by first | exact hI0 _ _ | exact ⟨by omega, by omega⟩) ?_
      rw [vup_s, vup_vup]
      refine wa_iinc dX12_keeps_80 rfl (by decide) ?_
      refine wa_goto 52 dX12_keeps_83 (by decide) ?_
      exact nx
set_option maxRecDepth 20000 in
theorem c_mkeeps {m : Nat} {A : AS} (hL : LX S) (ha : AOK m A) (h : MR I A) : tmC yX12_keeps kX12_keeps 1 0 0 [tR 168] (S, I, L) (fun r h' => r = none ∧ ∃ I', h' = (S, I', L) ∧ MR I' (aKeep A) ∧ CFr I I' ∧ (∀ a, a ≠ 168 → a ≠ 170 → I' a = I a)) := by
  refine tmC.mk (lv := [some (tR 168), none]) 1 ⟨rfl, by decide +kernel, by decide⟩ rfl rfl ?_
  refine wt_ir (fun hI => ?_)
  have o168 := oX168 hL
  have r168_0 := rX168_0 hL
  have r168_1 := rX168_1 hL
  have r168_3 := rX168_3 hL
  have r168_4 := rX168_4 hL
  have r168_5 := rX168_5 hL
  have r168_6 := rX168_6 hL
  have r168_7 := rX168_7 hL
  have r168_8 := rX168_8 hL
  have r168_11 := rX168_11 hL
  have r168_13 := rX168_13 hL
  have r168_17 := rX168_17 hL
  have r168_18 := rX168_18 hL
  have r168_19 := rX168_19 hL
  have r168_21 := rX168_21 hL
  have r168_22 := rX168_22 hL
  have r168_23 := rX168_23 hL
  have r168_24 := rX168_24 hL
  have r168_25 := rX168_25 hL
  have r168_26 := rX168_26 hL
  have r168_27 := rX168_27 hL
  have r168_28 := rX168_28 hL
  have r168_29 := rX168_29 hL
  have r168_30 := rX168_30 hL
  have o169 := oX169 hL
  have o170 := oX170 hL
  obtain ⟨h1, h2, h3, h4, h5, h6, h7, h8⟩ := id h
  obtain ⟨a1, a2, a3, a4⟩ := ha
  -- from the copying on
  have cp : ∀ (J : Nat → Nat → Int) (z : Nat) (pl : List (TS × RuL)), tmIR J → J 168 2 = (z : Int) → z < 8 → pl.length = z → (∀ a, a ≠ 168 → a ≠ 170 → J a = I a) → (∀ k, k ≠ 2 → J 168 k = I 168 k) → (∀ (i : Nat) (st : TS × RuL), pl[i]? = some st → MRow (fun k => J 170 (984 * i + k)) st ∧ StV st) → (keepL A.2.1 A.1 = pl ++ [A.1]) → tmW kX12_keeps 1 0 0 50 [some (tR 168), none] [] (S, J, L) (fun r h' => r = none ∧ ∃ I', h' = (S, I', L) ∧ MR I' (aKeep A) ∧ CFr I I' ∧ (∀ a, a ≠ 168 → a ≠ 170 → I' a = I a)) ∧ ∀ x : Option tmV, tmW kX12_keeps 1 0 0 50 [some (tR 168), x] [] (S, J, L) (fun r h' => r = none ∧ ∃ I', h' = (S, I', L) ∧ MR I' (aKeep A) ∧ CFr I I' ∧ (∀ a, a ≠ 168 → a ≠ 170 → I' a = I a)) := by
    intro J z pl hJ hz hz8 hpl e1 e2 hp hkl
    have all : ∀ x : Option tmV, tmW kX12_keeps 1 0 0 50 [some (tR 168), x] [] (S, J, L) (fun r h' => r = none ∧ ∃ I', h' = (S, I', L) ∧ MR I' (aKeep A) ∧ CFr I I' ∧ (∀ a, a ≠ 168 → a ≠ 170 → I' a = I a)) := by
      intro x
      generalize hV : va_up J 170 (fCp (J 170) (J 169) (984 * z) 984) = V
      have gV : ∀ a, a ≠ 170 → V a = J a := fun a ha => by rw [← hV]; exact vup_n ha
      have v170 : V 170 = fCp (J 170) (J 169) (984 * z) 984 := by rw [← hV, vup_s]
      generalize hU : va_up V 168 (va_up (V 168) 2 ((z + 1 : Nat) : Int)) = U
      have gU : ∀ a, a ≠ 168 → U a = V a := fun a ha => by rw [← hU]; exact vup_n ha
      have u168 : ∀ k, k ≠ 2 → U 168 k = V 168 k := fun k hk => by rw [← hU, vup_s, vup_n hk]
      have toI : ∀ a, a ≠ 168 → a ≠ 170 → U a = I a := fun a b1 b2 => by rw [gU a b1, gV a b2, e1 a b1 b2]
      have fin : MR U (aKeep A) := by
        refine ⟨by rw [toI 169 (by decide) (by decide)]; exact h1, ?_, fun i st hi => ?_, by rw [toI 172 (by decide) (by decide)]; exact h4, fun j hj => by rw [toI 175 (by decide) (by decide)]; exact h5 j hj, fun j hj => by rw [toI 173 (by decide) (by decide)]; exact h6 j hj, by rw [u168 9 (by decide), gV 168 (by decide), e2 9 (by decide)]; exact h7, fun i hi => by rw [toI 176 (by decide) (by decide)]; exact h8 i hi⟩
        · show U 168 2 = ((keepL A.2.1 A.1).length : Int)
          rw [← hU, vup_s, vup_s, hkl]; simp [hpl]
        · have hi : (keepL A.2.1 A.1)[i]? = some st := hi
          rw [hkl] at hi
          rw [gU 170 (by decide), v170]
          by_cases ci : i < z
          · rw [List.getElem?_append_left (by omega)] at hi
            obtain ⟨b1, b2⟩ := hp i st hi
            refine b1.cg b2 (fun k hk => ?_)
            show fCp (J 170) (J 169) (984 * z) 984 (984 * i + k) = J 170 (984 * i + k)
            unfold fCp; rw [if_neg (by omega)]
          · rw [List.getElem?_append_right (by omega)] at hi
            have e0 : i - pl.length = 0 := by
              by_cases y : i - pl.length = 0
              · exact y
              · rw [List.getElem?_eq_none (by simp; omega)] at hi; cases hi
            rw [e0] at hi
            simp only [List.getElem?_cons_zero, Option.some.injEq] at hi
            subst hi
            refine h1.cg a1 (fun k hk => ?_)
            show fCp (J 170) (J 169) (984 * z) 984 (984 * i + k) = I 169 k
            unfold fCp; rw [if_pos (by omega), e1 169 (by decide) (by decide)]; congr 1; omega
      have v2 : V 168 2 = (z : Int) := by rw [gV 168 (by decide)]; exact hz
      have tail : tmW kX12_keeps 1 0 0 86 [some (tR 168), some (tI (984 : Nat))] [] (S, V, L) (fun r h' => r = none ∧ ∃ I', h' = (S, I', L) ∧ MR I' (aKeep A) ∧ CFr I I' ∧ (∀ a, a ≠ 168 → a ≠ 170 → I' a = I a)) := by
        refine wa_aload_n dX12_keeps_86 rfl ?_
        refine wa_dup dX12_keeps_87 rfl ?_
        refine wt_getI dX12_keeps_88 FX12_83 (by assumption) ?_
        try rw [v2]
        refine wa_iconst dX12_keeps_91 ?_
        refine wa_iadd dX12_keeps_92 ?_
        refine wt_putI dX12_keeps_93 FX12_83 (WX12_2 _ _) (by assumption) (by exact ⟨by omega, by omega⟩) ?_
        rw [show ((z : Int) + 1) = ((z + 1 : Nat) : Int) by omega, hU]
        refine wa_return dX12_keeps_96 rfl ?_
        exact ⟨rfl, U, rfl, fin, fun a b => toI a (by omega) (by omega), toI⟩
      have lp := keeps_cp (I := J) (L := L) hL hJ hz hz8 _ (by rw [hV]; exact tail) 984 0 (by omega)
      rw [fCp_0, vup_self] at lp
      refine wa_iconst dX12_keeps_50 ?_
      refine wa_istore_n dX12_keeps_51 (by decide) ?_
      exact lp
    exact ⟨all none, all⟩
  by_cases c : A.2.1.length = 8
  · have hkl : keepL A.2.1 A.1 = A.2.1.drop 1 ++ [A.1] := by unfold keepL; rw [if_neg (by omega)]
    generalize hV : va_up I 170 (fSh (I 170) 6888) = V
    have gV : ∀ a, a ≠ 170 → V a = I a := fun a ha => by rw [← hV]; exact vup_n ha
    have v170 : V 170 = fSh (I 170) 6888 := by rw [← hV, vup_s]
    have v2 : V 168 2 = 8 := by rw [gV 168 (by decide), h2, c]; rfl
    generalize hU : va_up V 168 (va_up (V 168) 2 ((7 : Nat) : Int)) = U
    have gU : ∀ a, a ≠ 168 → U a = V a := fun a ha => by rw [← hU]; exact vup_n ha
    have irV : tmIR V := by rw [← hV]; exact hI.row (fun k => by unfold fSh; split; (exact hI _ _); exact hI _ _)
    have irU : tmIR U := by rw [← hU]; exact irV.up ⟨by omega, by omega⟩
    have fin := (cp U 7 (A.2.1.drop 1) irU (by rw [← hU, vup_s, vup_s]) (by omega) (by simp; omega) (fun a b1 b2 => by rw [gU a b1, gV a b2]) (fun k hk => by rw [← hU, vup_s, vup_n hk, gV 168 (by decide)]) (fun i st hi => by
      rw [List.getElem?_drop] at hi
      have hm := h3 (1 + i) st hi
      have hv := a2 st (List.mem_of_getElem? hi)
      have hi8 : 1 + i < 8 := by
        by_cases y : 1 + i < A.2.1.length
        · omega
        · rw [List.getElem?_eq_none (by omega)] at hi; cases hi
      refine ⟨hm.cg hv (fun k hk => ?_), hv⟩
      show U 170 (984 * i + k) = I 170 (984 * (1 + i) + k)
      rw [gU 170 (by decide), v170]
      unfold fSh; rw [if_pos (by omega)]; congr 1; omega) hkl).2
    have tail : tmW kX12_keeps 1 0 0 40 [some (tR 168), some (tI (6888 : Nat))] [] (S, V, L) (fun r h' => r = none ∧ ∃ I', h' = (S, I', L) ∧ MR I' (aKeep A) ∧ CFr I I' ∧ (∀ a, a ≠ 168 → a ≠ 170 → I' a = I a)) := by
      have f2 := fin (some (tI (6888 : Nat)))
      refine wa_aload_n dX12_keeps_40 rfl ?_
      refine wa_dup dX12_keeps_41 rfl ?_
      refine wt_getI dX12_keeps_42 FX12_83 (by assumption) ?_
      try rw [v2]
      refine wa_iconst dX12_keeps_45 ?_
      refine wa_isub dX12_keeps_46 ?_
      refine wt_putI dX12_keeps_47 FX12_83 (WX12_2 _ _) (by assumption) (by exact ⟨by omega, by omega⟩) ?_
      rw [show ((8 : Int) - 1) = ((7 : Nat) : Int) by decide, hU]; exact f2
    have lp := keeps_sh (I := I) (L := L) hL hI _ (by rw [hV]; exact tail) 6888 0 (by omega)
    rw [fSh_0, vup_self] at lp
    refine wa_aload_n dX12_keeps_0 rfl ?_
    refine wt_getI dX12_keeps_1 FX12_83 (by assumption) ?_
    try rw [h2]
    refine wa_bipush dX12_keeps_4 rfl ?_
    refine wa_icmp_ne 50 dX12_keeps_6 (by decide) (by exact ⟨by omega, by omega⟩) (by exact ⟨by omega, by omega⟩) (fun c_6 => ?_) (fun c_6 => ?_)
    · omega
    · refine wa_iconst dX12_keeps_9 ?_
      refine wa_istore_n dX12_keeps_10 (by decide) ?_
      exact lp
  · have hkl : keepL A.2.1 A.1 = A.2.1 ++ [A.1] := by unfold keepL; rw [if_pos (by omega)]
    have fin := (cp I A.2.1.length A.2.1 hI h2 (by omega) rfl (fun _ _ _ => rfl) (fun _ _ => rfl) (fun i st hi => ⟨h3 i st hi, a2 st (List.mem_of_getElem? hi)⟩) hkl).1
    refine wa_aload_n dX12_keeps_0 rfl ?_
    refine wt_getI dX12_keeps_1 FX12_83 (by assumption) ?_
    try rw [h2]
    refine wa_bipush dX12_keeps_4 rfl ?_
    refine wa_icmp_ne 50 dX12_keeps_6 (by decide) (by exact ⟨by omega, by omega⟩) (by exact ⟨by omega, by omega⟩) (fun c_6 => ?_) (fun c_6 => ?_)
    · exact fin
    · omega
end S97
