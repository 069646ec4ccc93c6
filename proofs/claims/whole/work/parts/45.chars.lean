/-! ===== 45: String.charAt of the one String constant ===== -/
def sgB : List Int32 := [97, 98, 99, 100, 102, 103, 104]
/-- the String and its bytes -/
def tmXS (b0 aK aV : Nat) (U : State) : Prop := va_O "java/lang/String" aK (tmA b0) U U.heap ∧ va_OF "java/lang/String" "coder" "B" (.int 0) aK (tmA b0) U U.heap ∧ va_OF "java/lang/String" "value" "[B" (.ref aV) aK (tmA b0) U U.heap ∧ va_T .byte aV 7 (fun j => .int (sgB.getD j 0)) (tmA b0) U U.heap
theorem tmXS.go {b0 aK aV : Nat} {s U : State} {H : Heap} {locs : List Loc} (h : tmXS b0 aK aV s) (hW : s.WarmedH U.vm) (hU : U.heap = H) (hS : va_S (tmA b0) s.heap H locs) : tmXS b0 aK aV U := by
  obtain ⟨h1, h2, h3, h4⟩ := h
  have hq : ∀ a : Nat, a < s.heap.size → ¬ tmA b0 a → U.heap[a]? = s.heap[a]? := fun a h1 h2 => by rw [hU]; exact hS.2.1 a h1 h2
  exact ⟨(va_O.moved hW.alike h1).kept hq, (va_OF.moved hW.alike h2).kept hq, (va_OF.moved hW.alike h3).kept hq, (va_T.moved hW.alike h4).kept hq⟩
theorem tmXS.blind {b0 aK aV : Nat} {U : State} (g : JFrame) (mk : MethodId) (a : Array Value) (h : tmXS b0 aK aV U) : tmXS b0 aK aV (U.calling g mk a) := by
  obtain ⟨h1, h2, h3, h4⟩ := h
  exact ⟨va_O.moved (u := U) (U := U.calling g mk a) (Vm.Alike.refl U.vm) h1, va_OF.moved (u := U) (U := U.calling g mk a) (Vm.Alike.refl U.vm) h2, va_OF.moved (u := U) (U := U.calling g mk a) (Vm.Alike.refl U.vm) h3, va_T.moved (u := U) (U := U.calling g mk a) (Vm.Alike.refl U.vm) h4⟩
def xP (b0 : Nat) (G : tmG) (aK aV : Nat) (vs : List Value) (h : tmH) : Array Value → State → Prop := va_Pc vs (fun U => (tmE b0 G U ∧ tmXS b0 aK aV U) ∧ tmR b0 G h U.heap)
theorem x_blind {b0 aK aV : Nat} {G : tmG} {vs : List Value} {h : tmH} : FrameBlind (xP b0 G aK aV vs h) := fun a U g mk q => ⟨q.1, ⟨tmE.blind g mk a q.2.1.1, tmXS.blind g mk a q.2.1.2⟩, q.2.2⟩
/-- a contract over plain values -/
def xC (y : MethodName) (M : tmMS) (d aK aV : Nat) (vs : List Value) (h : tmH) (Q : Option tmV → tmH → Prop) : Prop :=
  ∀ (l : Launch) (b0 : Nat) (G : tmG), Met l y (tmWs y M) (tmRm d 0 0) (xP b0 G aK aV vs h) (tmQ b0 G Q) 0 0 (tmA b0)
/-- a walk over plain values; no local is ever stored -/
def xW (M : tmMS) (d aK aV pc : Nat) (lv st : List Value) (h : tmH) (Q : Option tmV → tmH → Prop) : Prop :=
  ∀ (p : Program) (l : Launch) (e : Env) (R : Room) (s : State) (m : MethodId) (args : Array Value) (below : List Frame) (meth : Method) (c : Code) (H : Heap) (locs : List Loc) (cells slots b0 : Nat) (G : tmG) (ls : Array Slot),
    tmX M d p R s m args meth c b0 G → tmXS b0 aK aV s → cells ≤ R.cells → slots ≤ R.slots → (ls.size = M.2.2.1 ∧ ∀ (i : Nat) (v : Value), lv[i]? = some v → ls[i]? = some (Slot.val v)) → tmR b0 G h H → va_S (tmA b0) s.heap H locs →
    W p l e R s m args below meth c H locs cells slots (MQ below (tmQ b0 G Q) args s R.cells R.slots (tmA b0)) (F0 m pc ls st)
theorem x_sl : ∀ (vs : List Value), (∀ v ∈ vs, v.category = 1) → lg_sl vs = vs.map Slot.val := by
  intro vs
  induction vs with
  | nil => intro _; rfl
  | cons a r ih =>
    intro h
    have h1 := h a (by simp)
    have h2 := ih (fun v hv => h v (by simp [hv]))
    have e : lg_sl (a :: r) = lg_sl [a] ++ lg_sl r := by simp [lg_sl]
    rw [e, h2]
    simp [lg_sl, h1]
theorem xC.mk {y : MethodName} {M : tmMS} {d aK aV : Nat} {vs : List Value} {h : tmH} {Q : Option tmV → tmH → Prop} (hy : y.cls = M.1 ∧ plainName y.cls = true ∧ M.2.2.2.2 = false) (hcat : ∀ v ∈ vs, v.category = 1) (hn : vs.length = M.2.2.1) (k : xW M d aK aV 0 vs [] h Q) : xC y M d aK aV vs h Q := by
  intro l b0 G
  refine Met.ofW (cc := M.2.1) (maxL := M.2.2.1) (ret := M.2.2.2.1) hy.2.1 rfl ?_
  intro p e s m args below meth c s₁ B hml hv
  obtain ⟨rfl, ⟨hE, hXS⟩, hR⟩ := hv
  have hts := atoms_spec (ws := tmWs y M) B.pre
  have hsl := x_sl vs hcat
  rw [lg_entry_eq, hsl]
  generalize hls : (vs.map Slot.val ++ List.replicate (M.2.2.1 - (vs.map Slot.val).length) Slot.unset).toArray = ls
  have hh : ls.size = M.2.2.1 ∧ ∀ (i : Nat) (v : Value), vs[i]? = some v → ls[i]? = some (Slot.val v) := by
    refine ⟨by rw [← hls]; simp; omega, fun i v hi => ?_⟩
    have hlt := (List.getElem?_eq_some_iff.mp hi).1
    rw [← hls, List.getElem?_toArray, List.getElem?_append_left (by simpa using hlt), List.getElem?_map, hi]; rfl
  exact k p l e _ s m _ below meth c s.heap [] 0 0 b0 G ls ⟨B.exec, B.bytes, hml, B.returns, B.notSynchronized, by rw [← hy.1]; exact findClass_of_methodNamed B.named, fun w hw => hts w (List.mem_cons_of_mem _ hw), hE, Nat.le_refl _, Nat.le_refl _, by rw [hR.1]; omega, fun hi => by rw [hy.2.2] at hi; cases hi⟩ hXS (Nat.zero_le _) (Nat.zero_le _) hh hR va_S.rf
section XW
variable {M : tmMS} {d aK aV pc : Nat} {lv st : List Value} {h : tmH} {Q : Option tmV → tmH → Prop}
theorem x_iload_n {i : Fin 4} {x : Int32} (hd : decode M.2.1 pc = .ok (.iload_n i, 1)) (hk : lv[(i : Nat)]? = some (.int x)) (k : xW M d aK aV (pc + 1) lv (.int x :: st) h Q) : xW M d aK aV pc lv st h Q :=
  fun p l e R s m args below meth c H locs cells slots b0 G ls X hx hc hs hl hR hS => lv_iload_n X.1 X.2.1 hd rfl (hl.2 _ _ hk) (k p l e R s m args below meth c H locs cells slots b0 G ls X hx hc hs hl hR hS)
theorem x_aload_n {i : Fin 4} {x : Nat} (hd : decode M.2.1 pc = .ok (.aload_n i, 1)) (hk : lv[(i : Nat)]? = some (.ref x)) (k : xW M d aK aV (pc + 1) lv (.ref x :: st) h Q) : xW M d aK aV pc lv st h Q :=
  fun p l e R s m args below meth c H locs cells slots b0 G ls X hx hc hs hl hR hS => lv_aload_n X.1 X.2.1 hd rfl (hl.2 _ _ hk) (k p l e R s m args below meth c H locs cells slots b0 G ls X hx hc hs hl hR hS)
theorem x_callS {y : MethodName} {My : tmMS} {n idx d' : Nat} {av : List Value} {v : Option tmV} {w : List Value} (hd : decode M.2.1 pc = .ok (.invokestatic idx, 3)) (hk : tmKS y My n) (hl : Cond.methodLink M.1 idx y ∈ tmT) (hC : xC y My d' aK aV av h (tmF v h)) (hdp : d' < d) (hn : av.length = n) (hcat : (st.map fun v => v.category).sum ≤ 8) (hw : ∀ b0, (v.map (tmt b0)).toList = w)
    (kk : xW M d aK aV (pc + 3) lv (w ++ st) h Q) : xW M d aK aV pc lv (av.reverse ++ st) h Q := by
  intro p l e R s m args below meth c H locs cells slots b0 G ls X hx hc hs hl' hR hS
  have hts := X.2.2.2.2.2.2.1
  have hd1 := X.2.2.2.2.2.2.2.2.1
  have hd2 := X.2.2.2.2.2.2.2.2.2.1
  have hmx := hk.1.2.2.2
  have cw : CallB R s args M.1 idx y My.2.1 My.2.2.1 My.2.2.2.1 (tmWs y My) (tmRm d' 0 0) 0 0 n ∧ (Cond.static y).before args s = true :=
    ⟨callB_of n hts (tm_goodC hk.1) rfl rfl rfl (hts _ hk.1.2.1) (hts _ hl) hk.1.2.2.1 ⟨by show d' + 1 ≤ _; omega, by show 8 + (My.2.2.1 + 11) + 64 * d' ≤ _; omega⟩, hts _ hk.2⟩
  have hrun := va_runS (As := av) (rest := st) (g := F0 m pc ls (av.reverse ++ st)) (cells := cells) (slots := slots) (locs := locs) (below := below) (e := e) (meth := meth) (H := H) ⟨X.1, X.2.1, X.2.2.1, X.2.2.2.2.2.1, hts⟩ (hC l b0 G) cw
    ⟨x_blind, fun U hU hW => ⟨rfl, ⟨X.2.2.2.2.2.2.2.1.go hW hU hS, hx.go hW hU hS⟩, by rw [hU]; exact hR⟩⟩ rfl hn hl'.1 rfl (lv_room (m := m) (pc := pc) (ls := ls) (rest := []) hcat) hd ⟨by omega, by omega⟩
  intro T hT XX
  obtain ⟨v', st₀, t, T', L', h0, X', hL, e1, e2, ⟨⟨r, h', hv, hq, hR1⟩, hz, hkq⟩, stp⟩ := hrun T hT XX
  rw [h0] at hz hkq
  obtain ⟨rfl, rfl⟩ := hq
  have hv' : v' = r.map (tmt b0) := by cases hv; rfl
  subst hv'
  obtain ⟨t2, a1, b1⟩ := kk p l e R s m args below meth c T'.heap (locs ++ L') (cells + 0) (slots + 0) b0 G ls X hx (by omega) (by omega) hl' (by rw [e1]; exact hR1) ⟨Nat.le_trans hS.1 (by rw [e1]; exact hz), fun q h1 h2 => by rw [e1, hkq q (Nat.lt_of_lt_of_le h1 hS.1) h2]; exact hS.2.1 q h1 h2, fun q hq => by
      rcases List.mem_append.mp hq with h | h
      · exact hS.2.2 q h
      · exact hL q h⟩ T' rfl X'
  rw [← hw b0] at a1
  exact ⟨t2, stp t2 a1, b1⟩
theorem x_callV {y : MethodName} {My : tmMS} {n idx d' : Nat} {av : List Value} {v : Option tmV} {w : List Value} (hd : decode M.2.1 pc = .ok (.invokevirtual idx, 3)) (hk : tmKV y My n) (hl : Cond.methodLink M.1 idx y ∈ tmT) (hcl : y.cls = "java/lang/String") (hC : xC y My d' aK aV (.ref aK :: av) h (tmF v h)) (hdp : d' < d) (hn : av.length = n) (hcat : (st.map fun v => v.category).sum ≤ 8) (hw : ∀ b0, (v.map (tmt b0)).toList = w)
    (kk : xW M d aK aV (pc + 3) lv (w ++ st) h Q) : xW M d aK aV pc lv (av.reverse ++ .ref aK :: st) h Q := by
  intro p l e R s m args below meth c H locs cells slots b0 G ls X hx hc hs hl' hR hS
  have hts := X.2.2.2.2.2.2.1
  have hd1 := X.2.2.2.2.2.2.2.2.1
  have hd2 := X.2.2.2.2.2.2.2.2.2.1
  have hmx := hk.1.2.2.2
  have cw : CallW R s args M.1 y.cls idx y My.2.1 My.2.2.1 My.2.2.2.1 (tmWs y My) (tmRm d' 0 0) 0 0 n :=
    ⟨callB_of n hts (tm_goodC hk.1) rfl rfl rfl (hts _ hk.1.2.1) (hts _ hl) hk.1.2.2.1 ⟨by show d' + 1 ≤ _; omega, by show 8 + (My.2.2.1 + 11) + 64 * d' ≤ _; omega⟩, hts _ hk.2.1, hts _ hk.2.2⟩
  have hrecv : ∃ cell : Cell, H[aK]? = some cell ∧ cell.vm.isStatics = false ∧ s.vm.findClass y.cls = some cell.cls := by
    obtain ⟨cell, h1, h2, h3, -⟩ := hx.1.kept hS.2.1
    exact ⟨cell, h1, h2, by rw [hcl]; exact h3⟩
  have hrun := va_runV (b := aK) (As := av) (rest := st) (g := F0 m pc ls (av.reverse ++ .ref aK :: st)) (cells := cells) (slots := slots) (locs := locs) (below := below) (e := e) (meth := meth) (H := H) ⟨X.1, X.2.1, X.2.2.1, X.2.2.2.2.2.1, hts⟩ (hC l b0 G) cw
    ⟨x_blind, hrecv, fun U hU hW => ⟨rfl, ⟨X.2.2.2.2.2.2.2.1.go hW hU hS, hx.go hW hU hS⟩, by rw [hU]; exact hR⟩⟩ rfl hn hl'.1 rfl (lv_room (m := m) (pc := pc) (ls := ls) (rest := []) hcat) hd ⟨by omega, by omega⟩
  intro T hT XX
  obtain ⟨v', st₀, t, T', L', h0, X', hL, e1, e2, ⟨⟨r, h', hv, hq, hR1⟩, hz, hkq⟩, stp⟩ := hrun T hT XX
  rw [h0] at hz hkq
  obtain ⟨rfl, rfl⟩ := hq
  have hv' : v' = r.map (tmt b0) := by cases hv; rfl
  subst hv'
  obtain ⟨t2, a1, b1⟩ := kk p l e R s m args below meth c T'.heap (locs ++ L') (cells + 0) (slots + 0) b0 G ls X hx (by omega) (by omega) hl' (by rw [e1]; exact hR1) ⟨Nat.le_trans hS.1 (by rw [e1]; exact hz), fun q h1 h2 => by rw [e1, hkq q (Nat.lt_of_lt_of_le h1 hS.1) h2]; exact hS.2.1 q h1 h2, fun q hq => by
      rcases List.mem_append.mp hq with h | h
      · exact hS.2.2 q h
      · exact hL q h⟩ T' rfl X'
  rw [← hw b0] at a1
  exact ⟨t2, stp t2 a1, b1⟩
end XW
