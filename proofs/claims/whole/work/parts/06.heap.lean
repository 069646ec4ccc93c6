/-! ===== 06: rows of fields and arrays ===== -/
def tmObj (S : tmS) (i ci : Nat) : Prop := i < S.1 ∧ S.2.1 i = ci
/-- an array of kind kd (13 int, 14 long, 15 Pattern, 16 State) with nn places -/
def tmArr (S : tmS) (i kd nn : Nat) : Prop := i < S.1 ∧ S.2.1 i = kd ∧ S.2.2.1 i = nn ∧ nn < 2147483648
def tmTy (ty : Nat) (ft : FieldType) : Bool := match ty, ft with
  | 0, .int => true
  | 1, .object _ => true
  | 1, .array _ => true
  | 2, .long => true
  | 3, .boolean => true
  | _, _ => false
def tmOKv (ty : Nat) (v : tmV) : Prop := match ty, v with
  | 0, .inl a => inR a
  | 1, .inr (.inr _) => True
  | 2, .inr (.inl _) => True
  | 3, .inl a => a = 0 ∨ a = 1
  | _, _ => False
theorem tmOKv.fits {b0 ty : Nat} {ft : FieldType} {v : tmV} (h1 : tmTy ty ft = true) (h2 : tmOKv ty v) : narrow ft (tmt b0 v) = tmt b0 v ∧ fits ft (tmt b0 v) = true := by
  match ty, ft, v, h1, h2 with
  | 0, .int, .inl _, _, _ => exact ⟨rfl, rfl⟩
  | 1, .object _, .inr (.inr _), _, _ => exact ⟨rfl, rfl⟩
  | 1, .array _, .inr (.inr _), _, _ => exact ⟨rfl, rfl⟩
  | 2, .long, .inr (.inl _), _, _ => exact ⟨rfl, rfl⟩
  | 3, .boolean, .inl a, _, h => rcases h with rfl | rfl <;> exact ⟨rfl, rfl⟩
/-- what is fixed of a class: its row of vwCl, its words, its fields' kinds -/
def tmCl (ci : Nat) (C : String) (T : u_T) (N : Nat) (t0 : Nat → FieldType) : Prop :=
  vwCl[ci]? = some (C, T, N) ∧ (∀ w ∈ u_ws C T N, w ∈ tmT) ∧ (∀ k, k < N → parseFieldDescriptor (T k).2.2.1 = some (t0 k)) ∧ (∀ a, a < N → ∀ b, b < N → a ≠ b → (T a).2.1 ≠ (T b).2.1) ∧ (∀ k, k < N → ∃ ty, (tmft ci)[k]? = some ty ∧ tmTy ty (t0 k) = true) ∧ (tmft ci).length = N ∧ ci < 13
def tmFL (own : String) (idx ci k ty : Nat) : Prop := ∃ (C : String) (T : u_T) (N : Nat) (t0 : Nat → FieldType), tmCl ci C T N t0 ∧ k < N ∧ Cond.fieldLink own idx (T k).1 (T k).2.1 (T k).2.2.1 ∈ tmT ∧ (tmft ci)[k]? = some ty
/-- it may be written: it isn't final, or we are in the class's own constructor -/
def tmFP (own : String) (ini : Bool) (ci k : Nat) : Prop := ∀ (C : String) (T : u_T) (N : Nat), vwCl[ci]? = some (C, T, N) → (T k).2.2.2 = false ∨ ((T k).2.2.2 = true ∧ ini = true ∧ (T k).1 = own)
def tmPut (h : tmH) (i k : Nat) : tmV → tmH
  | .inl a => (h.1, va_up h.2.1 i (va_up (h.2.1 i) k a), h.2.2)
  | .inr (.inl x) => (h.1, h.2.1, va_up h.2.2 i (va_up (h.2.2 i) k x))
  | .inr (.inr r) => ((h.1.1, h.1.2.1, h.1.2.2.1, va_up h.1.2.2.2 i (va_up (h.1.2.2.2 i) k (some r))), h.2.1, h.2.2)
theorem tmfs_get {b0 : Nat} {h : tmH} {i : Nat} (tys : List Nat) : ∀ (k0 k ty : Nat), tys[k]? = some ty → (tmfs b0 h i tys k0)[k]? = some (tmfv b0 h i ty (k0 + k)) := by
  induction tys with
  | nil => intro k0 k ty h; simp at h
  | cons a r ih =>
    intro k0 k ty hk
    cases k with
    | zero => simp at hk; subst hk; rfl
    | succ k => have := ih (k0 + 1) k ty (by simpa using hk); simp only [tmfs, List.getElem?_cons_succ]; rw [this]; congr 2; omega
theorem tmfs_len {b0 : Nat} {h : tmH} {i : Nat} (tys : List Nat) : ∀ (k0 : Nat), (tmfs b0 h i tys k0).length = tys.length := by
  induction tys with
  | nil => intro k0; rfl
  | cons a r ih => intro k0; simp [tmfs, ih]
theorem tmfs_ext {b0 : Nat} {h h' : tmH} {i i' : Nat} (tys : List Nat) : ∀ (k0 : Nat), (∀ k ty, tys[k]? = some ty → tmfv b0 h' i' ty (k0 + k) = tmfv b0 h i ty (k0 + k)) → tmfs b0 h' i' tys k0 = tmfs b0 h i tys k0 := by
  induction tys with
  | nil => intro k0 _; rfl
  | cons a r ih =>
    intro k0 hk
    simp only [tmfs]
    rw [ih (k0 + 1) (fun k ty h => by have := hk (k + 1) ty (by simpa using h); rw [show k0 + 1 + k = k0 + (k + 1) by omega]; exact this)]
    have := hk 0 a rfl
    rw [Nat.add_zero] at this
    rw [this]
theorem tmc_ext {b0 : Nat} {G : tmG} {h h' : tmH} {i : Nat} (e1 : h'.1.2.1 i = h.1.2.1 i) (e2 : h'.1.2.2.1 i = h.1.2.2.1 i) (e3 : h'.1.2.2.2 i = h.1.2.2.2 i) (e4 : h'.2.1 i = h.2.1 i) (e5 : h'.2.2 i = h.2.2 i) : tmc b0 G h' i = tmc b0 G h i := by
  simp only [tmc, e1, e2, e3, e4, e5]
  rw [tmfs_ext (h := h) (h' := h') (i := i) (i' := i) _ 0 (fun k ty _ => by simp only [tmfv, e3, e4, e5])]
theorem tmc_obj {b0 : Nat} {G : tmG} {h : tmH} {i ci : Nat} (hc : h.1.2.1 i = ci) (hl : ci < 13) : tmc b0 G h i = .inr (ci, tmfs b0 h i (tmft ci) 0) := by
  have h1 : ¬ ci = 13 := by omega
  have h2 : ¬ ci = 14 := by omega
  have h3 : ¬ ci = 15 := by omega
  have h4 : ¬ ci = 16 := by omega
  simp only [tmc, hc, h1, h2, h3, h4, if_false]
theorem tmc_i {b0 : Nat} {G : tmG} {h : tmH} {i : Nat} (hc : h.1.2.1 i = 13) : tmc b0 G h i = .inl (G.2.1, h.1.2.2.1 i, .inl (fun j => Int32.ofInt (h.2.1 i j))) := by simp [tmc, hc]
theorem tmc_l {b0 : Nat} {G : tmG} {h : tmH} {i : Nat} (hc : h.1.2.1 i = 14) : tmc b0 G h i = .inl (G.2.2.1, h.1.2.2.1 i, .inr (.inl (h.2.2 i))) := by simp [tmc, hc]
theorem tmc_p {b0 : Nat} {G : tmG} {h : tmH} {i : Nat} (hc : h.1.2.1 i = 15) : tmc b0 G h i = .inl (G.2.2.2.1, h.1.2.2.1 i, .inr (.inr (.inr (.inr (fun j => (h.1.2.2.2 i j).map (b0 + ·)))))) := by simp [tmc, hc]
theorem tmc_s {b0 : Nat} {G : tmG} {h : tmH} {i : Nat} (hc : h.1.2.1 i = 16) : tmc b0 G h i = .inl (G.2.2.2.2, h.1.2.2.1 i, .inr (.inr (.inr (.inr (fun j => (h.1.2.2.2 i j).map (b0 + ·)))))) := by simp [tmc, hc]
theorem tmw_get {b0 : Nat} {G : tmG} {h : tmH} {i : Nat} {x : va_E} (hi : i < h.1.1) (hx : tmc b0 G h i = x) : (tmw b0 G h)[i]? = some (b0 + i, x) := by
  subst hx
  simp [tmw, List.getElem?_map, List.getElem?_range hi]
theorem tmw_D {b0 : Nat} {G : tmG} {h : tmH} : va_D (tmA b0) (tmw b0 G h) := by
  have key : ∀ (k : Nat) (q : Nat × va_E), (tmw b0 G h)[k]? = some q → q.1 = b0 + k := by
    intro k q hk
    simp only [tmw, List.getElem?_map, Option.map_eq_some_iff] at hk
    obtain ⟨a, h1, rfl⟩ := hk
    have := List.getElem?_eq_some_iff.mp h1
    obtain ⟨h2, h3⟩ := this
    simp at h3
    simp [h3]
  refine ⟨fun i j p q hi hj hpq => ?_, fun k q hk => ?_⟩
  · have := key i p hi; have := key j q hj; omega
  · have := key k q hk; show b0 ≤ q.1; omega
theorem tmw_set {b0 : Nat} {G : tmG} {h h' : tmH} {i : Nat} {x : va_E} (hn : h'.1.1 = h.1.1) (hx : tmc b0 G h' i = x) (ho : ∀ j, j ≠ i → tmc b0 G h' j = tmc b0 G h j) : (tmw b0 G h).set i (b0 + i, x) = tmw b0 G h' := by
  subst hx
  apply List.ext_getElem?
  intro k
  simp only [tmw, hn, List.getElem?_set, List.getElem?_map, List.length_map, List.length_range]
  by_cases hk : i = k
  · subst hk
    by_cases hl : i < h.1.1
    · simp [hl, List.getElem?_range hl]
    · simp [hl]
  · simp only [hk, if_false]
    by_cases hl : k < h.1.1
    · simp [List.getElem?_range hl, ho k (fun e => hk e.symm)]
    · simp [hl]
theorem tmR.put {b0 : Nat} {G : tmG} {h h' : tmH} {H H1 : Heap} {i : Nat} {x : va_E} (hR : tmR b0 G h H) (hz : H1.size = H.size) (hP : va_P G.1 vwCl ((tmw b0 G h).set i (b0 + i, x)) H1) (hn : h'.1.1 = h.1.1) (hx : tmc b0 G h' i = x) (ho : ∀ j, j ≠ i → tmc b0 G h' j = tmc b0 G h j) (hir : tmIR h'.2.1) : tmR b0 G h' H1 := by
  rw [tmw_set hn hx ho] at hP
  exact ⟨by rw [hz, hR.1, hn], hP, hir⟩
theorem vup_s {α : Type} {f : Nat → α} {k : Nat} {v : α} : va_up f k v k = v := by simp [va_up]
theorem vup_n {α : Type} {f : Nat → α} {k j : Nat} {v : α} (h : j ≠ k) : va_up f k v j = f j := by simp [va_up, h]
theorem tmPut_n {h : tmH} {i k : Nat} {v : tmV} : (tmPut h i k v).1.1 = h.1.1 ∧ (tmPut h i k v).1.2.1 = h.1.2.1 ∧ (tmPut h i k v).1.2.2.1 = h.1.2.2.1 := by rcases v with v | v | v <;> exact ⟨rfl, rfl, rfl⟩
theorem tmPut_o {b0 : Nat} {G : tmG} {h : tmH} {i k j : Nat} {v : tmV} (hj : j ≠ i) : tmc b0 G (tmPut h i k v) j = tmc b0 G h j := by
  rcases v with v | v | v
  · exact tmc_ext rfl rfl rfl (vup_n hj) rfl
  · exact tmc_ext rfl rfl rfl rfl (vup_n hj)
  · exact tmc_ext rfl rfl (vup_n hj) rfl rfl
theorem tmPut_v {b0 : Nat} {h : tmH} {i k ty ty' j : Nat} {v : tmV} (hv : tmOKv ty v) (ht : k = j → ty' = ty) : tmfv b0 (tmPut h i k v) i ty' j = if k = j then tmt b0 v else tmfv b0 h i ty' j := by
  by_cases hk : k = j
  · subst hk
    have e := ht rfl
    subst e
    simp only [if_true]
    match ty', v, hv with
    | 0, .inl _, _ => simp [tmfv, tmPut, va_up, tmt]
    | 1, .inr (.inr _), _ => simp [tmfv, tmPut, va_up, tmt, va_rf]
    | 2, .inr (.inl _), _ => simp [tmfv, tmPut, va_up, tmt]
    | 3, .inl a, _ => simp [tmfv, tmPut, va_up, tmt]
  · have hk' : ¬ j = k := fun e => hk e.symm
    simp only [hk, if_false]
    rcases v with v | v | v <;> simp [tmfv, tmPut, va_up, hk']
theorem tmfs_set {b0 : Nat} {h : tmH} {i k ty : Nat} {v : tmV} (hv : tmOKv ty v) (tys : List Nat) : ∀ (k0 j : Nat), k = k0 + j → tys[j]? = some ty → (tmfs b0 h i tys k0).set j (tmt b0 v) = tmfs b0 (tmPut h i k v) i tys k0 := by
  induction tys with
  | nil => intro k0 j _ h; simp at h
  | cons a r ih =>
    intro k0 j hk hj
    cases j with
    | zero =>
      simp at hj
      subst hj
      simp only [tmfs, List.set_cons_zero]
      rw [tmPut_v hv (fun _ => rfl), if_pos (by omega)]
      congr 1
      refine (tmfs_ext r (k0 + 1) (fun k' ty' _ => ?_)).symm
      rw [tmPut_v hv (fun e => by omega), if_neg (by omega)]
    | succ j =>
      simp only [tmfs, List.set_cons_succ]
      rw [ih (k0 + 1) j (by omega) (by simpa using hj)]
      congr 1
      rw [tmPut_v hv (fun e => by omega), if_neg (by omega)]
theorem tmPut_ir {h : tmH} {i k ty : Nat} {v : tmV} (hv : tmOKv ty v) (hi : tmIR h.2.1) : tmIR (tmPut h i k v).2.1 := by
  match ty, v, hv with
  | 0, .inl _, hv => exact hi.up hv
  | 1, .inr (.inr _), _ => exact hi
  | 2, .inr (.inl _), _ => exact hi
  | 3, .inl a, hv => exact hi.up (by rcases hv with rfl | rfl <;> exact ⟨by decide, by decide⟩)
theorem tmPut_i {b0 : Nat} {G : tmG} {h : tmH} {i k ci ty : Nat} {v : tmV} (hc : h.1.2.1 i = ci) (hl : ci < 13) (hv : tmOKv ty v) (ht : (tmft ci)[k]? = some ty) : tmc b0 G (tmPut h i k v) i = .inr (ci, (tmfs b0 h i (tmft ci) 0).set k (tmt b0 v)) := by
  rw [tmc_obj (ci := ci) (by rw [tmPut_n.2.1]; exact hc) hl, tmfs_set (k := k) hv (tmft ci) 0 k (by omega) ht]
theorem va_S.size_le {A : Nat → Prop} {H0 H : Heap} {locs : List Loc} (h : va_S A H0 H locs) : H0.size ≤ H.size := h.1
section WH
variable {M : tmMS} {d bc bs pc : Nat} {lv : List (Option tmV)} {st : List tmV} {h : tmH} {Q : Option tmV → tmH → Prop}
theorem wa_get {idx ci k ty i : Nat} {v : tmV} (hd : decode M.2.1 pc = .ok (.getfield idx, 3)) (hf : tmFL M.1 idx ci k ty) (ho : tmObj h.1 i ci) (hv : ∀ b0, tmfv b0 h i ty k = tmt b0 v) (kk : tmW M d bc bs (pc + 3) lv (v :: st) h Q) : tmW M d bc bs pc lv (tR i :: st) h Q := by
  intro p l e R s m args below meth c H locs cells slots b0 G ls X hc hs hl hR hS
  obtain ⟨C, T, N, t0, ⟨c1, c2, c3, c4, c5, c6, c7⟩, f1, f2, f3⟩ := hf
  have hts := X.2.2.2.2.2.2.1
  refine va_get X.1 X.2.1 hts c2 X.2.2.2.2.2.1 X.2.2.2.2.2.2.2.1.1 hR.2.1 i (tmw_get ho.1 (tmc_obj ho.2 c7)) c1 k f1 (hts _ f2) (fun _ z => z) (v := tmt b0 v) ?_ hd (kk p l e R s m args below meth c H locs cells slots b0 G ls X hc hs hl hR hS)
  rw [tmfs_get _ 0 k ty f3, Nat.zero_add, hv b0]
theorem wa_getI {idx ci k i : Nat} (hd : decode M.2.1 pc = .ok (.getfield idx, 3)) (hf : tmFL M.1 idx ci k 0) (ho : tmObj h.1 i ci) (kk : tmW M d bc bs (pc + 3) lv (tI (h.2.1 i k) :: st) h Q) : tmW M d bc bs pc lv (tR i :: st) h Q := wa_get hd hf ho (fun _ => rfl) kk
theorem wa_getZ {idx ci k i : Nat} (hd : decode M.2.1 pc = .ok (.getfield idx, 3)) (hf : tmFL M.1 idx ci k 3) (ho : tmObj h.1 i ci) (kk : tmW M d bc bs (pc + 3) lv (tI (h.2.1 i k) :: st) h Q) : tmW M d bc bs pc lv (tR i :: st) h Q := wa_get hd hf ho (fun _ => rfl) kk
theorem wa_getL {idx ci k i : Nat} (hd : decode M.2.1 pc = .ok (.getfield idx, 3)) (hf : tmFL M.1 idx ci k 2) (ho : tmObj h.1 i ci) (kk : tmW M d bc bs (pc + 3) lv (tL (h.2.2 i k) :: st) h Q) : tmW M d bc bs pc lv (tR i :: st) h Q := wa_get hd hf ho (fun _ => rfl) kk
theorem wa_getR {idx ci k i a : Nat} (hd : decode M.2.1 pc = .ok (.getfield idx, 3)) (hf : tmFL M.1 idx ci k 1) (ho : tmObj h.1 i ci) (hr : h.1.2.2.2 i k = some a) (kk : tmW M d bc bs (pc + 3) lv (tR a :: st) h Q) : tmW M d bc bs pc lv (tR i :: st) h Q := wa_get hd hf ho (fun b0 => by simp [tmfv, hr, tmt, va_rf]) kk
theorem tmR.upd {b0 : Nat} {G : tmG} {h' : tmH} {H H1 : Heap} {i : Nat} (hR : tmR b0 G h H) (hi : i < h.1.1) (hz : H1.size = H.size) (oq : ∀ q : Nat, q ≠ b0 + i → H1[q]? = H[q]?) (hn : h'.1.1 = h.1.1) (hx : va_at G.1 vwCl (b0 + i, tmc b0 G h' i) H1) (ho : ∀ j, j ≠ i → tmc b0 G h' j = tmc b0 G h j) (hir : tmIR h'.2.1) : tmR b0 G h' H1 :=
  hR.put hz (hR.2.1.set tmw_D (tmw_get hi rfl) hx oq) hn rfl ho hir
/-- a put into a field, of whatever kind -/
theorem wa_put {idx ci k ty i : Nat} {v : tmV} (hd : decode M.2.1 pc = .ok (.putfield idx, 3)) (hf : tmFL M.1 idx ci k ty) (hp : tmFP M.1 M.2.2.2.2 ci k) (ho : tmObj h.1 i ci) (hv : tmOKv ty v) (kk : tmW M d bc bs (pc + 3) lv st (tmPut h i k v) Q) : tmW M d bc bs pc lv (v :: tR i :: st) h Q := by
  intro p l e R s m args below meth c H locs cells slots b0 G ls X hc hs hl hR hS
  obtain ⟨C, T, N, t0, ⟨c1, c2, c3, c4, c5, c6, c7⟩, f1, f2, f3⟩ := hf
  have hts := X.2.2.2.2.2.2.1
  have hK := X.2.2.2.2.2.2.2.1.1
  obtain ⟨ty', g1, g2⟩ := c5 k f1
  obtain rfl : ty' = ty := Option.some.inj (g1.symm.trans f3)
  have hfit := hv.fits (b0 := b0) g2
  have he := tmw_get (b0 := b0) (G := G) ho.1 (tmc_obj ho.2 c7)
  have hap := va_apart (own := M.1) hts c2 t0 c3 c4 hK c1
  obtain ⟨r, q0, cell, q1, q2, q3, q4⟩ := hR.2.1 i _ he
  obtain rfl : r = (C, T, N) := Option.some.inj (q0.symm.trans c1)
  obtain ⟨hSl, hfc, kC, hkC, hkind⟩ := hK.1 ci _ c1
  obtain ⟨cf, kf, fi, f, hi, hsl⟩ := hSl k f1
  have hlay := hts _ (c2 _ (u_in_lay f1))
  have hst := (u_facts hfc hkC (u_lays hts c2 f1) hi).1
  have fin : ∀ (H' : Heap), H'[b0 + i]? = some (cell.setSlot f.slot (tmt b0 v)) → H'.size = H.size → (∀ q, q ≠ b0 + i → H'[q]? = H[q]?) → W p l e R s m args below meth c H' (locs ++ [⟨b0 + i, f.slot⟩]) cells slots (MQ below (tmQ b0 G Q) args s R.cells R.slots (tmA b0)) (F0 m (pc + 3) ls (st.map (tmt b0))) := by
    intro H' e1 e2 e3
    rw [hsl] at e1
    refine kk p l e R s m args below meth c H' _ cells slots b0 G ls X hc hs hl (hR.upd ho.1 e2 e3 tmPut_n.1 ?_ (fun j hj => tmPut_o hj) (tmPut_ir hv hR.2.2)) (hS.put e2 e3 (show b0 ≤ b0 + i by omega))
    rw [tmPut_i ho.2 c7 hv f3]
    exact ⟨_, c1, t_OB.to (V := updV (vp_V (tmfs b0 h i (tmft ci) 0)) k (tmt b0 v)) ⟨_, e1, q2, q3, t_set q4 hap f1 (tmt b0 v)⟩ (fun j _ => vp_updV_set (by rw [tmfs_len, c6]; exact f1) (tmt b0 v) j)⟩
  have hlt : f.slot < cell.slots.size := by rw [hsl]; exact k2_hasslot (q4 k f1)
  unfold u_lay at hlay
  rcases hp C T N c1 with hfin | ⟨hfin, hini, hdecl⟩
  · rw [if_neg (by rw [hfin]; decide)] at hlay
    exact W.putK X.1 X.2.1 (f := f) ⟨X.2.2.2.2.2.1, hts _ f2, ⟨_, _, _, hi⟩, hst⟩ (by rw [q2]; exact u_store hfc hkC hkind hlay hi (c3 k f1) hfit.1 hfit.2) q1 q3 hlt rfl rfl hd fin
  · rw [if_pos hfin] at hlay
    have hcf : m.cls = cf := by
      obtain ⟨_, _, c', _, _, _, -, -, hf', -, -, -, hown2, -⟩ := Cond.laysFinal_spec hlay
      have e1 : c' = cf := by have := hi.symm.trans hf'; simp at this; exact this.1.symm
      rw [hdecl] at hown2
      rw [← e1]; exact Option.some.inj (X.2.2.2.2.2.1.symm.trans hown2)
    exact W.putFinK X.1 X.2.1 X.2.2.2.2.2.1 (hts _ f2) hi hst hcf (X.2.2.2.2.2.2.2.2.2.2.2 hini) (by rw [q2]; exact u_fits hfc hkC hkind (Or.inr hlay) hi (c3 k f1) hfit.1 hfit.2) q1 q3 hlt rfl rfl hd fin
theorem wa_putI {idx ci k i : Nat} {a : Int} (hd : decode M.2.1 pc = .ok (.putfield idx, 3)) (hf : tmFL M.1 idx ci k 0) (hp : tmFP M.1 M.2.2.2.2 ci k) (ho : tmObj h.1 i ci) (hx : inR a) (kk : tmW M d bc bs (pc + 3) lv st (h.1, va_up h.2.1 i (va_up (h.2.1 i) k a), h.2.2) Q) : tmW M d bc bs pc lv (tI a :: tR i :: st) h Q := wa_put hd hf hp ho hx kk
theorem wa_putZ {idx ci k i : Nat} {a : Int} (hd : decode M.2.1 pc = .ok (.putfield idx, 3)) (hf : tmFL M.1 idx ci k 3) (hp : tmFP M.1 M.2.2.2.2 ci k) (ho : tmObj h.1 i ci) (ha : a = 0 ∨ a = 1) (kk : tmW M d bc bs (pc + 3) lv st (h.1, va_up h.2.1 i (va_up (h.2.1 i) k a), h.2.2) Q) : tmW M d bc bs pc lv (tI a :: tR i :: st) h Q := wa_put hd hf hp ho ha kk
theorem wa_putL {idx ci k i : Nat} {a : Int64} (hd : decode M.2.1 pc = .ok (.putfield idx, 3)) (hf : tmFL M.1 idx ci k 2) (hp : tmFP M.1 M.2.2.2.2 ci k) (ho : tmObj h.1 i ci) (kk : tmW M d bc bs (pc + 3) lv st (h.1, h.2.1, va_up h.2.2 i (va_up (h.2.2 i) k a)) Q) : tmW M d bc bs pc lv (tL a :: tR i :: st) h Q := wa_put hd hf hp ho trivial kk
theorem wa_putR {idx ci k i a : Nat} (hd : decode M.2.1 pc = .ok (.putfield idx, 3)) (hf : tmFL M.1 idx ci k 1) (hp : tmFP M.1 M.2.2.2.2 ci k) (ho : tmObj h.1 i ci) (kk : tmW M d bc bs (pc + 3) lv st ((h.1.1, h.1.2.1, h.1.2.2.1, va_up h.1.2.2.2 i (va_up (h.1.2.2.2 i) k (some a))), h.2.1, h.2.2) Q) : tmW M d bc bs pc lv (tR a :: tR i :: st) h Q := wa_put hd hf hp ho trivial kk
-- arrays
theorem tm_in {a : Int} {j nn : Nat} (ha : a = (j : Int)) (hj : j < nn) (hn : nn < 2147483648) : vp_in (Int32.ofInt a) nn ∧ (Int32.ofInt a).toNatClampNeg = j := by
  subst ha
  have e : Int32.ofInt (j : Int) = nI j := rfl
  rw [e]
  exact ⟨vp_in_nI hj hn, nI_clamp (by omega)⟩
theorem wa_iald {i nn : Nat} {a : Int} (j : Nat) (hd : decode M.2.1 pc = .ok (.iaload, 1)) (ho : tmArr h.1 i 13 nn) (ha : a = (j : Int)) (hj : j < nn) (kk : tmW M d bc bs (pc + 1) lv (tI (h.2.1 i j) :: st) h Q) : tmW M d bc bs pc lv (tI a :: tR i :: st) h Q := by
  intro p l e R s m args below meth c H locs cells slots b0 G ls X hc hs hl hR hS
  obtain ⟨o1, o2, o3, o4⟩ := ho
  obtain ⟨a1, a2⟩ := tm_in ha hj o4
  refine va_iald X.1 X.2.1 X.2.2.2.2.2.2.2.1.1 hR.2.1 i 0 (tmw_get o1 (tmc_i o2)) rfl (by rw [o3]; exact a1) hd ?_
  rw [a2]
  exact kk p l e R s m args below meth c H locs cells slots b0 G ls X hc hs hl hR hS
theorem wa_lald {i nn : Nat} {a : Int} (j : Nat) (hd : decode M.2.1 pc = .ok (.laload, 1)) (ho : tmArr h.1 i 14 nn) (ha : a = (j : Int)) (hj : j < nn) (kk : tmW M d bc bs (pc + 1) lv (tL (h.2.2 i j) :: st) h Q) : tmW M d bc bs pc lv (tI a :: tR i :: st) h Q := by
  intro p l e R s m args below meth c H locs cells slots b0 G ls X hc hs hl hR hS
  obtain ⟨o1, o2, o3, o4⟩ := ho
  obtain ⟨a1, a2⟩ := tm_in ha hj o4
  refine va_lald X.1 X.2.1 X.2.2.2.2.2.2.2.1.1 hR.2.1 i 1 (tmw_get o1 (tmc_l o2)) rfl (by rw [o3]; exact a1) hd ?_
  rw [a2]
  exact kk p l e R s m args below meth c H locs cells slots b0 G ls X hc hs hl hR hS
theorem wa_aaldP {i nn x : Nat} {a : Int} (j : Nat) (hd : decode M.2.1 pc = .ok (.aaload, 1)) (ho : tmArr h.1 i 15 nn) (ha : a = (j : Int)) (hj : j < nn) (hr : h.1.2.2.2 i j = some x) (kk : tmW M d bc bs (pc + 1) lv (tR x :: st) h Q) : tmW M d bc bs pc lv (tI a :: tR i :: st) h Q := by
  intro p l e R s m args below meth c H locs cells slots b0 G ls X hc hs hl hR hS
  obtain ⟨o1, o2, o3, o4⟩ := ho
  obtain ⟨a1, a2⟩ := tm_in ha hj o4
  refine va_aldq X.1 X.2.1 X.2.2.2.2.2.2.2.1.1 hR.2.1 i 2 (tmw_get o1 (tmc_p o2)) rfl (by rw [o3]; exact a1) hd ?_
  rw [a2, hr]
  exact kk p l e R s m args below meth c H locs cells slots b0 G ls X hc hs hl hR hS
theorem wa_aaldS {i nn x : Nat} {a : Int} (j : Nat) (hd : decode M.2.1 pc = .ok (.aaload, 1)) (ho : tmArr h.1 i 16 nn) (ha : a = (j : Int)) (hj : j < nn) (hr : h.1.2.2.2 i j = some x) (kk : tmW M d bc bs (pc + 1) lv (tR x :: st) h Q) : tmW M d bc bs pc lv (tI a :: tR i :: st) h Q := by
  intro p l e R s m args below meth c H locs cells slots b0 G ls X hc hs hl hR hS
  obtain ⟨o1, o2, o3, o4⟩ := ho
  obtain ⟨a1, a2⟩ := tm_in ha hj o4
  refine va_aldq X.1 X.2.1 X.2.2.2.2.2.2.2.1.1 hR.2.1 i 3 (tmw_get o1 (tmc_s o2)) rfl (by rw [o3]; exact a1) hd ?_
  rw [a2, hr]
  exact kk p l e R s m args below meth c H locs cells slots b0 G ls X hc hs hl hR hS
theorem wa_alen {i kd nn : Nat} (hd : decode M.2.1 pc = .ok (.arraylength, 1)) (ho : tmArr h.1 i kd nn) (hk : kd = 13 ∨ kd = 14) (kk : tmW M d bc bs (pc + 1) lv (tI (nn : Int) :: st) h Q) : tmW M d bc bs pc lv (tR i :: st) h Q := by
  intro p l e R s m args below meth c H locs cells slots b0 G ls X hc hs hl hR hS
  obtain ⟨o1, o2, o3, o4⟩ := ho
  have k2 := kk p l e R s m args below meth c H locs cells slots b0 G ls X hc hs hl hR hS
  rcases hk with rfl | rfl
  · exact va_alen X.1 X.2.1 X.2.2.2.2.2.2.2.1.1 hR.2.1 i 0 (tmw_get o1 (tmc_i o2)) rfl (v := Int32.ofInt (nn : Int)) (by rw [← o3]; rfl) hd k2
  · exact va_alen X.1 X.2.1 X.2.2.2.2.2.2.2.1.1 hR.2.1 i 1 (tmw_get o1 (tmc_l o2)) rfl (v := Int32.ofInt (nn : Int)) (by rw [← o3]; rfl) hd k2
theorem wa_iast {i nn : Nat} {a x : Int} (j : Nat) (hd : decode M.2.1 pc = .ok (.iastore, 1)) (ho : tmArr h.1 i 13 nn) (ha : a = (j : Int)) (hj : j < nn) (hx : inR x) (kk : tmW M d bc bs (pc + 1) lv st (h.1, va_up h.2.1 i (va_up (h.2.1 i) j x), h.2.2) Q) : tmW M d bc bs pc lv (tI x :: tI a :: tR i :: st) h Q := by
  intro p l e R s m args below meth c H locs cells slots b0 G ls X hc hs hl hR hS
  obtain ⟨o1, o2, o3, o4⟩ := ho
  obtain ⟨a1, a2⟩ := tm_in ha hj o4
  have hcell := hR.2.1 i _ (tmw_get o1 (tmc_i o2))
  have harr := X.2.2.2.2.2.2.2.1.1.2 0 _ rfl
  refine W.iast X.1 X.2.1 hcell (harr.1 _ (fun j => .int (Int32.ofInt (h.2.1 i j)))) (fun q => by cases q) (by show ¬ (_ ∨ (arrV _ _ _).slots.size ≤ _); rw [arrV_size, o3]; exact a1) rfl rfl hd fun H1 e z oq => ?_
  refine kk p l _ R s m args below meth c H1 _ cells slots b0 G ls X hc hs hl (hR.upd o1 z oq rfl ?_ (fun q hq => tmc_ext rfl rfl rfl (vup_n hq) rfl) (hR.2.2.up hx)) (hS.put z oq (show b0 ≤ b0 + i by omega))
  rw [tmc_i (h := (h.1, va_up h.2.1 i (va_up (h.2.1 i) j x), h.2.2)) o2]
  show H1[b0 + i]? = some (vp_cell _ _)
  rw [e, a2]
  show some ((vp_cell _ (_, Sum.inl _)).setSlot _ _) = _
  rw [vp_cell_i, vp_cell_i, arrV_store]
  congr 2
  funext q
  by_cases hq : q = j
  · subst hq; simp [updV, va_up]
  · simp [updV, va_up, hq]
theorem wa_last {i nn : Nat} {a : Int} {x : Int64} (j : Nat) (hd : decode M.2.1 pc = .ok (.lastore, 1)) (ho : tmArr h.1 i 14 nn) (ha : a = (j : Int)) (hj : j < nn) (kk : tmW M d bc bs (pc + 1) lv st (h.1, h.2.1, va_up h.2.2 i (va_up (h.2.2 i) j x)) Q) : tmW M d bc bs pc lv (tL x :: tI a :: tR i :: st) h Q := by
  intro p l e R s m args below meth c H locs cells slots b0 G ls X hc hs hl hR hS
  obtain ⟨o1, o2, o3, o4⟩ := ho
  obtain ⟨a1, a2⟩ := tm_in ha hj o4
  have hcell := hR.2.1 i _ (tmw_get o1 (tmc_l o2))
  have harr := X.2.2.2.2.2.2.2.1.1.2 1 _ rfl
  refine W.last X.1 X.2.1 hcell (harr.1 _ (fun j => .long (h.2.2 i j))) (fun q => by cases q) (by show ¬ (_ ∨ (arrV _ _ _).slots.size ≤ _); rw [arrV_size, o3]; exact a1) rfl rfl hd fun H1 e z oq => ?_
  refine kk p l _ R s m args below meth c H1 _ cells slots b0 G ls X hc hs hl (hR.upd o1 z oq rfl ?_ (fun q hq => tmc_ext rfl rfl rfl rfl (vup_n hq)) hR.2.2) (hS.put z oq (show b0 ≤ b0 + i by omega))
  rw [tmc_l (h := (h.1, h.2.1, va_up h.2.2 i (va_up (h.2.2 i) j x))) o2]
  show H1[b0 + i]? = some (vp_cell _ _)
  rw [e, a2]
  show some ((vp_cell _ (_, Sum.inr (Sum.inl _))).setSlot _ _) = _
  rw [vp_cell_l, vp_cell_l, arrV_store]
  congr 2
  funext q
  by_cases hq : q = j
  · subst hq; simp [updV, va_up]
  · simp [updV, va_up, hq]
end WH
