/-! ===== 07: stores of references, new cells, calls ===== -/
def tmNew (h : tmH) (kd len : Nat) : tmH := ((h.1.1 + 1, va_up h.1.2.1 h.1.1 kd, va_up h.1.2.2.1 h.1.1 len, va_up h.1.2.2.2 h.1.1 (fun _ => none)), va_up h.2.1 h.1.1 (fun _ => 0), va_up h.2.2 h.1.1 (fun _ => 0))
theorem tmNew_o {b0 : Nat} {G : tmG} {h : tmH} {kd len j : Nat} (hj : j ≠ h.1.1) : tmc b0 G (tmNew h kd len) j = tmc b0 G h j := tmc_ext (vup_n hj) (vup_n hj) (vup_n hj) (vup_n hj) (vup_n hj)
theorem tmw_new {b0 : Nat} {G : tmG} {h : tmH} {kd len : Nat} : tmw b0 G (tmNew h kd len) = tmw b0 G h ++ [(b0 + h.1.1, tmc b0 G (tmNew h kd len) h.1.1)] := by
  have e : (tmNew h kd len).1.1 = h.1.1 + 1 := rfl
  simp only [tmw, e, List.range_succ, List.map_append, List.map_cons, List.map_nil]
  congr 1
  apply List.map_congr_left
  intro j hj
  have := List.mem_range.mp hj
  rw [tmNew_o (by omega)]
theorem tmR.new {b0 : Nat} {G : tmG} {h : tmH} {H H1 : Heap} {kd len : Nat} (hR : tmR b0 G h H) (hz : H1.size = H.size + 1) (oq : ∀ q : Nat, q < H.size → H1[q]? = H[q]?) (hx : va_at G.1 vwCl (b0 + h.1.1, tmc b0 G (tmNew h kd len) h.1.1) H1) : tmR b0 G (tmNew h kd len) H1 := by
  refine ⟨by rw [hz, hR.1]; rfl, ?_, hR.2.2.row (fun _ => ⟨by decide, by decide⟩)⟩
  rw [tmw_new]
  refine (hR.2.1.kept (fun k x hk => oq x.1 ((hR.2.1 k x hk).lt))).app (fun k x hk => ?_)
  have hz : k < 1 := (List.getElem?_eq_some_iff.mp hk).1
  rw [show k = 0 by omega] at hk
  cases hk
  exact hx
theorem va_S.grow {A : Nat → Prop} {H0 H H1 : Heap} {locs : List Loc} (h : va_S A H0 H locs) (z : H1.size = H.size + 1) (o : ∀ q : Nat, q < H.size → H1[q]? = H[q]?) : va_S A H0 H1 locs :=
  ⟨Nat.le_trans h.1 (by omega), fun x h1 h2 => (o x (Nat.lt_of_lt_of_le h1 h.1)).trans (h.2.1 x h1 h2), h.2.2⟩
theorem tm_dflt {b0 ty : Nat} {ft : FieldType} {h : tmH} {kd len k : Nat} (ht : tmTy ty ft = true) : defaultValue ft = tmfv b0 (tmNew h kd len) h.1.1 ty k := by
  match ty, ft, ht with
  | 0, .int, _ => simp [tmfv, tmNew, va_up, defaultValue]
  | 1, .object _, _ => simp [tmfv, tmNew, va_up, defaultValue, va_rf]
  | 1, .array _, _ => simp [tmfv, tmNew, va_up, defaultValue, va_rf]
  | 2, .long, _ => simp [tmfv, tmNew, va_up, defaultValue]
  | 3, .boolean, _ => simp [tmfv, tmNew, va_up, defaultValue]
section WC
variable {M : tmMS} {d bc bs pc : Nat} {lv : List (Option tmV)} {st : List tmV} {h : tmH} {Q : Option tmV → tmH → Prop}
theorem wa_new {idx ci N bc' bs' : Nat} {C : String} {T : u_T} {t0 : Nat → FieldType} (hd : decode M.2.1 pc = .ok (.new idx, 3)) (hcl : tmCl ci C T N t0) (hlk : Cond.classLink M.1 idx C ∈ tmT) (hins : Cond.instantiable C N ∈ tmT) (hini : Cond.initialized C ∈ tmT) (h1 : bc' + 1 = bc) (h2 : bs' + N = bs)
    (kk : tmW M d bc' bs' (pc + 3) lv (tR h.1.1 :: st) (tmNew h ci 0) Q) : tmW M d bc bs pc lv st h Q := by
  intro p l e R s m args below meth c H locs cells slots b0 G ls X hc hs hl hR hS
  obtain ⟨c1, c2, c3, c4, c5, c6, c7⟩ := hcl
  have hts := X.2.2.2.2.2.2.1
  have hKn := X.2.2.2.2.2.2.2.1.1.1 ci _ c1
  refine W.newcK X.1 X.2.1 X.2.2.2.2.2.1 (hts _ hlk) (hts _ hins) (hts _ hini) rfl hd (by omega) (by omega) hKn.2.1 (h := b0 + h.1.1) hR.1 fun H1 kC hkC e1 z1 o1 => ?_
  have z1' : H1.size = H.size + 1 := by rw [z1, hR.1]
  have o1' : ∀ q : Nat, q < H.size → H1[q]? = H[q]? := fun q hq => o1 q (by rw [← hR.1]; exact hq)
  refine kk p l e R s m args below meth c H1 locs (cells + 1) (slots + N) b0 G ls X (by omega) (by omega) hl (hR.new z1' o1' ?_) (hS.grow z1' o1')
  rw [tmc_obj (ci := ci) (by simp [tmNew, va_up]) c7]
  refine ⟨_, c1, (u_born t0 hts c2 hKn hkC e1 c3).to (fun k hk => ?_)⟩
  obtain ⟨ty, g1, g2⟩ := c5 k hk
  rw [tm_dflt (b0 := b0) (h := h) (kd := ci) (len := 0) (k := k) g2]
  have := tmfs_get (b0 := b0) (h := tmNew h ci 0) (i := h.1.1) (tmft ci) 0 k ty g1
  rw [Nat.zero_add] at this
  simp [vp_V, List.getD_eq_getElem?_getD, this]
theorem wa_newaI {bc' bs' nn : Nat} {a : Int} (hd : decode M.2.1 pc = .ok (.newarray .int, 2)) (hw : Cond.arrayClass (newarray.typeOf .int) ∈ tmT) (ha : a = (nn : Int)) (hn : nn < 100000000) (h1 : bc' + 1 = bc) (h2 : bs' + nn = bs)
    (kk : tmW M d bc' bs' (pc + 2) lv (tR h.1.1 :: st) (tmNew h 13 nn) Q) : tmW M d bc bs pc lv (tI a :: st) h Q := by
  intro p l e R s m args below meth c H locs cells slots b0 G ls X hc hs hl hR hS
  subst ha
  have hts := X.2.2.2.2.2.2.1
  have hnI : Int32.ofInt (nn : Int) = nI nn := rfl
  refine va_newaK X.1 X.2.1 (atype := .int) (hts _ hw) rfl hd (n := Int32.ofInt (nn : Int)) (N := nn) rfl (by rw [hnI]; exact nI_pos (by omega)) (by rw [hnI]; exact nI_clamp (by omega)) (by show nn * 4 ≤ _; omega) (by omega) (by omega) (h := b0 + h.1.1) hR.1 fun H1 cA e1 z1 o1 hAr hNm => ?_
  have z1' : H1.size = H.size + 1 := by rw [z1, hR.1]
  have o1' : ∀ q : Nat, q < H.size → H1[q]? = H[q]? := fun q hq => o1 q (by rw [← hR.1]; exact hq)
  have hcA : cA = G.2.1 := Option.some.inj (hNm.symm.trans (X.2.2.2.2.2.2.2.1.1.2 0 _ rfl).2)
  refine kk p l e R s m args below meth c H1 locs (cells + 1) (slots + nn) b0 G ls X (by omega) (by omega) hl (hR.new z1' o1' ?_) (hS.grow z1' o1')
  rw [tmc_i (by simp [tmNew, va_up])]
  show H1[b0 + h.1.1]? = some (vp_cell _ _)
  rw [e1, vp_cell_i, hcA]
  simp [tmNew, va_up]
  rfl
theorem wa_newaL {bc' bs' nn : Nat} {a : Int} (hd : decode M.2.1 pc = .ok (.newarray .long, 2)) (hw : Cond.arrayClass (newarray.typeOf .long) ∈ tmT) (ha : a = (nn : Int)) (hn : nn < 50000000) (h1 : bc' + 1 = bc) (h2 : bs' + nn = bs)
    (kk : tmW M d bc' bs' (pc + 2) lv (tR h.1.1 :: st) (tmNew h 14 nn) Q) : tmW M d bc bs pc lv (tI a :: st) h Q := by
  intro p l e R s m args below meth c H locs cells slots b0 G ls X hc hs hl hR hS
  subst ha
  have hts := X.2.2.2.2.2.2.1
  have hnI : Int32.ofInt (nn : Int) = nI nn := rfl
  refine va_newaK X.1 X.2.1 (atype := .long) (hts _ hw) rfl hd (n := Int32.ofInt (nn : Int)) (N := nn) rfl (by rw [hnI]; exact nI_pos (by omega)) (by rw [hnI]; exact nI_clamp (by omega)) (by show nn * 8 ≤ _; omega) (by omega) (by omega) (h := b0 + h.1.1) hR.1 fun H1 cA e1 z1 o1 hAr hNm => ?_
  have z1' : H1.size = H.size + 1 := by rw [z1, hR.1]
  have o1' : ∀ q : Nat, q < H.size → H1[q]? = H[q]? := fun q hq => o1 q (by rw [← hR.1]; exact hq)
  have hcA : cA = G.2.2.1 := Option.some.inj (hNm.symm.trans (X.2.2.2.2.2.2.2.1.1.2 1 _ rfl).2)
  refine kk p l e R s m args below meth c H1 locs (cells + 1) (slots + nn) b0 G ls X (by omega) (by omega) hl (hR.new z1' o1' ?_) (hS.grow z1' o1')
  rw [tmc_l (by simp [tmNew, va_up])]
  show H1[b0 + h.1.1]? = some (vp_cell _ _)
  rw [e1, vp_cell_l, hcA]
  simp [tmNew, va_up]
  rfl
theorem wa_anewP {idx bc' bs' nn : Nat} {a : Int} (hd : decode M.2.1 pc = .ok (.anewarray idx, 3)) (hw : Cond.classLink M.1 idx RX2 ∈ tmT) (ha : a = (nn : Int)) (hn : nn < 100000000) (h1 : bc' + 1 = bc) (h2 : bs' + nn = bs)
    (kk : tmW M d bc' bs' (pc + 3) lv (tR h.1.1 :: st) (tmNew h 15 nn) Q) : tmW M d bc bs pc lv (tI a :: st) h Q := by
  intro p l e R s m args below meth c H locs cells slots b0 G ls X hc hs hl hR hS
  subst ha
  have hts := X.2.2.2.2.2.2.1
  have hnI : Int32.ofInt (nn : Int) = nI nn := rfl
  have hcl : (Int32.ofInt (nn : Int)).toNatClampNeg = nn := by rw [hnI]; exact nI_clamp (by omega)
  refine W.anew X.1 X.2.1 X.2.2.2.2.2.1 (hts _ hw) (va_AO.use X.2.2.2.2.2.2.2.1.2.1) rfl hd (n := Int32.ofInt (nn : Int)) rfl (by rw [hnI]; exact nI_pos (by omega)) (by rw [hcl]; omega) (by omega) (by rw [hcl]; omega) fun cA kA comp f1 f2 f3 f4 => ?_
  rw [hcl, hR.1]
  generalize hH1 : H.push ({ cls := cA, slots := Array.replicate nn .null, vm := .none } : Cell) = H1
  have z1' : H1.size = H.size + 1 := by rw [← hH1, Array.size_push]
  have o1' : ∀ q : Nat, q < H.size → H1[q]? = H[q]? := fun q hq => by rw [← hH1, Array.getElem?_push, if_neg (Nat.ne_of_lt hq)]
  obtain ⟨_, _, _, _, _, k4⟩ := (X.2.2.2.2.2.2.2.1.1.2 2 _ rfl).2
  have hcA : cA = G.2.2.2.1 := Option.some.inj (f1.symm.trans k4)
  refine kk p l e R s m args below meth c H1 locs (cells + 1) (slots + nn) b0 G ls X (by omega) (by omega) hl (hR.new z1' o1' ?_) (hS.grow z1' o1')
  rw [tmc_p (by simp [tmNew, va_up])]
  show H1[b0 + h.1.1]? = some (vp_cell _ _)
  rw [← hH1, ← hR.1, Array.getElem?_push_size, vp_cell_q, hcA, arrV_new]
  simp [tmNew, va_up, va_rf]
theorem wa_anewS {idx bc' bs' nn : Nat} {a : Int} (hd : decode M.2.1 pc = .ok (.anewarray idx, 3)) (hw : Cond.classLink M.1 idx RX6 ∈ tmT) (ha : a = (nn : Int)) (hn : nn < 100000000) (h1 : bc' + 1 = bc) (h2 : bs' + nn = bs)
    (kk : tmW M d bc' bs' (pc + 3) lv (tR h.1.1 :: st) (tmNew h 16 nn) Q) : tmW M d bc bs pc lv (tI a :: st) h Q := by
  intro p l e R s m args below meth c H locs cells slots b0 G ls X hc hs hl hR hS
  subst ha
  have hts := X.2.2.2.2.2.2.1
  have hnI : Int32.ofInt (nn : Int) = nI nn := rfl
  have hcl : (Int32.ofInt (nn : Int)).toNatClampNeg = nn := by rw [hnI]; exact nI_clamp (by omega)
  refine W.anew X.1 X.2.1 X.2.2.2.2.2.1 (hts _ hw) (va_AO.use X.2.2.2.2.2.2.2.1.2.2.1) rfl hd (n := Int32.ofInt (nn : Int)) rfl (by rw [hnI]; exact nI_pos (by omega)) (by rw [hcl]; omega) (by omega) (by rw [hcl]; omega) fun cA kA comp f1 f2 f3 f4 => ?_
  rw [hcl, hR.1]
  generalize hH1 : H.push ({ cls := cA, slots := Array.replicate nn .null, vm := .none } : Cell) = H1
  have z1' : H1.size = H.size + 1 := by rw [← hH1, Array.size_push]
  have o1' : ∀ q : Nat, q < H.size → H1[q]? = H[q]? := fun q hq => by rw [← hH1, Array.getElem?_push, if_neg (Nat.ne_of_lt hq)]
  obtain ⟨_, _, _, _, _, k4⟩ := (X.2.2.2.2.2.2.2.1.1.2 3 _ rfl).2
  have hcA : cA = G.2.2.2.2 := Option.some.inj (f1.symm.trans k4)
  refine kk p l e R s m args below meth c H1 locs (cells + 1) (slots + nn) b0 G ls X (by omega) (by omega) hl (hR.new z1' o1' ?_) (hS.grow z1' o1')
  rw [tmc_s (by simp [tmNew, va_up])]
  show H1[b0 + h.1.1]? = some (vp_cell _ _)
  rw [← hH1, ← hR.1, Array.getElem?_push_size, vp_cell_q, hcA, arrV_new]
  simp [tmNew, va_up, va_rf]
/-- a reference into an array: of Patterns (15, 2), of States (16, 6) -/
theorem wa_aast {i nn v kd ci : Nat} {a : Int} (j : Nat) (hd : decode M.2.1 pc = .ok (.aastore, 1)) (hkd : (kd = 15 ∧ ci = 2) ∨ (kd = 16 ∧ ci = 6)) (ho : tmArr h.1 i kd nn) (hv : tmObj h.1 v ci) (ha : a = (j : Int)) (hj : j < nn)
    (kk : tmW M d bc bs (pc + 1) lv st ((h.1.1, h.1.2.1, h.1.2.2.1, va_up h.1.2.2.2 i (va_up (h.1.2.2.2 i) j (some v))), h.2.1, h.2.2) Q) : tmW M d bc bs pc lv (tR v :: tI a :: tR i :: st) h Q := by
  intro p l e R s m args below meth c H locs cells slots b0 G ls X hc hs hl hR hS
  obtain ⟨o1, o2, o3, o4⟩ := ho
  obtain ⟨a1, a2⟩ := tm_in ha hj o4
  have hK := X.2.2.2.2.2.2.2.1.1
  have hlt : (Int32.ofInt a).toNatClampNeg < nn := Nat.not_le.mp fun q => a1 (Or.inr q)
  have h0 : ¬ Int32.ofInt a < 0 := fun q => a1 (Or.inl q)
  have go : ∀ (cA : ClassId) (r : vw_C), vwCl[ci]? = some r → ci < 13 → tmc b0 G h i = .inl (cA, h.1.2.2.1 i, .inr (.inr (.inr (.inr (fun j => (h.1.2.2.2 i j).map (b0 + ·)))))) →
      tmc b0 G ((h.1.1, h.1.2.1, h.1.2.2.1, va_up h.1.2.2.2 i (va_up (h.1.2.2.2 i) j (some v))), h.2.1, h.2.2) i = .inl (cA, h.1.2.2.1 i, .inr (.inr (.inr (.inr (fun j' => (va_up (h.1.2.2.2 i) j (some v) j').map (b0 + ·)))))) → va_RA s cA (.object r.1) →
      W p l e R s m args below meth c H locs cells slots (MQ below (tmQ b0 G Q) args s R.cells R.slots (tmA b0)) (F0 m pc ls ((tR v :: tI a :: tR i :: st).map (tmt b0))) := by
    intro cA r hr hci t1 t2 hra
    obtain ⟨r', hr', cellV, g1, g2, g3, -⟩ := hR.2.1 v _ (tmw_get hv.1 (tmc_obj hv.2 hci))
    have hcls := (hK.1 ci r hr).2
    obtain ⟨kA, comp, k1, k2, k3, -⟩ := hra
    have hcomp : comp = G.1.1 ci := Option.some.inj (k3.symm.trans hcls.1)
    subst hcomp
    obtain ⟨kC, hkC, -⟩ := hcls.2
    have hcell := hR.2.1 i _ (tmw_get o1 t1)
    refine W.aast X.1 X.2.1 hcell (fun q h => by cases h) (fun h => by cases h) k1 k2 rfl hkC ⟨h0, by show _ < (arrV _ _ _).slots.size; rw [arrV_size, o3]; exact hlt⟩ g1 (fun q h => by rw [g3] at h; cases h) (by rw [g2]; exact hkC) (by rw [g2]; exact va_assign hcls) rfl rfl hd fun H1 e z oq => ?_
    refine kk p l _ R s m args below meth c H1 _ cells slots b0 G ls X hc hs hl (hR.upd o1 z oq rfl ?_ (fun q hq => tmc_ext rfl rfl (vup_n hq) rfl rfl) hR.2.2) (hS.put z oq (show b0 ≤ b0 + i by omega))
    rw [t2]
    show H1[b0 + i]? = some (vp_cell _ _)
    rw [e, a2]
    show some ((vp_cell _ (_, Sum.inr (Sum.inr (Sum.inr (Sum.inr _))))).setSlot _ _) = _
    rw [vp_cell_q, vp_cell_q, arrV_store]
    congr 2
    funext q
    by_cases hq : q = j
    · subst hq; simp [updV, va_up, va_rf]
    · simp [updV, va_up, hq]
  rcases hkd with ⟨rfl, rfl⟩ | ⟨rfl, rfl⟩
  · exact go G.2.2.2.1 (RX2, TX2, 6) rfl (by omega) (tmc_p o2) (by rw [tmc_p (h := ((h.1.1, h.1.2.1, h.1.2.2.1, va_up h.1.2.2.2 i (va_up (h.1.2.2.2 i) j (some v))), h.2.1, h.2.2)) o2]; simp [va_up]) (hK.2 2 _ rfl).2
  · exact go G.2.2.2.2 (RX6, TX6, 4) rfl (by omega) (tmc_s o2) (by rw [tmc_s (h := ((h.1.1, h.1.2.1, h.1.2.2.1, va_up h.1.2.2.2 i (va_up (h.1.2.2.2 i) j (some v))), h.2.1, h.2.2)) o2]; simp [va_up]) (hK.2 3 _ rfl).2
theorem wa_objInit {idx i : Nat} (hd : decode M.2.1 pc = .ok (.invokespecial idx, 3)) (hl : Cond.methodLink M.1 idx Lib.objectInit ∈ tmT) (h1 : Cond.instanceMethod Lib.objectInit ∈ tmT) (h2 : Cond.code Lib.objectInit ⟨#[0xb1]⟩ 1 none ∈ tmT) (hdp : 1 ≤ d) (hcat : (st.map fun v => if tmIsL (some v) then 2 else 1).sum ≤ 8)
    (kk : tmW M d bc bs (pc + 3) lv st h Q) : tmW M d bc bs pc lv (tR i :: st) h Q := by
  intro p l e R s m args below meth c H locs cells slots b0 G ls X hc hs hl' hR hS
  have hts := X.2.2.2.2.2.2.1
  have hcat' : ((st.map (tmt b0)).map fun v => v.category).sum ≤ 8 := by
    rw [List.map_map]
    have e : (fun v => v.category) ∘ tmt b0 = fun v => if tmIsL (some v) then 2 else 1 := by funext v; exact tmt_cat b0 v
    rw [e]; exact hcat
  refine W.objInit X.1 X.2.1 X.2.2.2.2.2.1 (hts _ hl) (hts _ h1) (hts _ h2) rfl (by rw [X.2.2.1]; exact hl'.1) rfl hd (by have := X.2.2.2.2.2.2.2.2.1; omega) ?_ (kk p l e R s m args below meth c H locs cells slots b0 G ls X hc hs hl' hR hS)
  have := X.2.2.2.2.2.2.2.2.2.1
  have hr := lv_room (m := m) (pc := pc) (ls := ls) (rest := (st.map (tmt b0))) hcat'
  show 2 * (F0 m pc ls _).monitorRoom + _ + 12 ≤ _
  have e : (F0 m pc ls (List.map (tmt b0) (tR i :: st))).monitorRoom = (F0 m pc ls (st.map (tmt b0))).monitorRoom := rfl
  rw [e]
  omega
end WC
