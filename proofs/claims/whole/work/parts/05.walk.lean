/-! ===== 05: the judgement tmW of a walk in a method, the contract tmC of a method, rows of plain instructions ===== -/
/-- what stays while a method is walked -/
def tmX (M : tmMS) (d : Nat) (p : Program) (R : Room) (s : State) (m : MethodId) (args : Array Value) (meth : Method) (c : Code) (b0 : Nat) (G : tmG) : Prop :=
  p.tables.exec = Jvm.exec ∧ c.code = M.2.1 ∧ c.maxLocals = M.2.2.1 ∧ meth.sig.returnType = M.2.2.2.1 ∧ meth.locks = false ∧ s.vm.findClass M.1 = some m.cls ∧ (∀ w ∈ tmT, w.before args s = true) ∧ tmE b0 G s ∧ d ≤ R.frames ∧ 64 * d ≤ R.locals ∧ b0 ≤ s.heap.size ∧ (M.2.2.2.2 = true → meth.name = "<init>")
def tmQ (b0 : Nat) (G : tmG) (Q : Option tmV → tmH → Prop) : Array Value → State → Outcome → State → Prop := fun _ st o t =>
  (∃ (r : Option tmV) (h : tmH), o = .returned (r.map (tmt b0)) ∧ Q r h ∧ tmR b0 G h t.heap) ∧ va_F (tmA b0) st t
def tmP (b0 : Nat) (G : tmG) (av : List tmV) (h : tmH) : Array Value → State → Prop := va_Pc (av.map (tmt b0)) (fun U => tmE b0 G U ∧ tmR b0 G h U.heap)
def tmW (M : tmMS) (d bc bs pc : Nat) (lv : List (Option tmV)) (st : List tmV) (h : tmH) (Q : Option tmV → tmH → Prop) : Prop :=
  ∀ (p : Program) (l : Launch) (e : Env) (R : Room) (s : State) (m : MethodId) (args : Array Value) (below : List Frame) (meth : Method) (c : Code) (H : Heap) (locs : List Loc) (cells slots b0 : Nat) (G : tmG) (ls : Array Slot),
    tmX M d p R s m args meth c b0 G → cells + bc ≤ R.cells → slots + bs ≤ R.slots → tmHas b0 ls M.2.2.1 lv → tmR b0 G h H → va_S (tmA b0) s.heap H locs →
    W p l e R s m args below meth c H locs cells slots (MQ below (tmQ b0 G Q) args s R.cells R.slots (tmA b0)) (F0 m pc ls (st.map (tmt b0)))
abbrev tmRm (d mc ms : Nat) : Room := { frames := d, cells := mc, slots := ms, locals := 64 * d }
abbrev tmWs (y : MethodName) (M : tmMS) : List Cond := Cond.code y M.2.1 M.2.2.1 M.2.2.2.1 :: tmT
/-- the contract of a method: these arguments, this heap: it ends, and Q holds of its answer and its heap -/
def tmC (y : MethodName) (M : tmMS) (d mc ms : Nat) (av : List tmV) (h : tmH) (Q : Option tmV → tmH → Prop) : Prop :=
  ∀ (l : Launch) (b0 : Nat) (G : tmG), Met l y (tmWs y M) (tmRm d mc ms) (tmP b0 G av h) (tmQ b0 G Q) mc ms (tmA b0)
theorem tmC.mk {y : MethodName} {M : tmMS} {d mc ms : Nat} {av : List tmV} {h : tmH} {Q : Option tmV → tmH → Prop} {lv : List (Option tmV)} (n : Nat) (hy : y.cls = M.1 ∧ plainName y.cls = true ∧ (M.2.2.2.2 = true → y.name = "<init>")) (hl : tmEnt av ++ List.replicate n none = lv) (hn : (tmEnt av).length + n = M.2.2.1)
    (k : tmW M d mc ms 0 lv [] h Q) : tmC y M d mc ms av h Q := by
  intro l b0 G
  refine Met.ofW (cc := M.2.1) (maxL := M.2.2.1) (ret := M.2.2.2.1) hy.2.1 rfl ?_
  intro p e s m args below meth c s₁ B hml hv
  obtain ⟨rfl, hE, hR⟩ := hv
  have hts := atoms_spec (ws := tmWs y M) B.pre
  have hsl : (lg_sl (av.map (tmt b0))).length = (tmEnt av).length := by
    clear k hl hn hR hml B hts
    induction av with
    | nil => rfl
    | cons a r ih =>
      have e : lg_sl (List.map (tmt b0) (a :: r)) = lg_sl [tmt b0 a] ++ lg_sl (List.map (tmt b0) r) := by simp [lg_sl]
      rw [e, List.length_append, ih]
      rcases a with a | a | a
      · simp [lg_sl, tmEnt, tmt, Value.category]; omega
      · simp [lg_sl, tmEnt, tmt, Value.category]; omega
      · simp [lg_sl, tmEnt, tmt, Value.category]; omega
  have hle := lv_entry (av.map (tmt b0)) (n := M.2.2.1) (by rw [hsl]; omega)
  rw [lg_entry_eq]
  generalize (lg_sl (av.map (tmt b0)) ++ List.replicate (M.2.2.1 - (lg_sl (av.map (tmt b0))).length) Slot.unset).toArray = ls at hle ⊢
  have hh : tmHas b0 ls M.2.2.1 lv := ⟨hle.1, hle.2.1, fun i v hi => by
    obtain ⟨a, h1, h2⟩ := hi
    rw [← hl] at h1
    have := hle.2.2 _ (tmEnt_args av 0 i v ⟨a, tmGet_app (fun x hx => (List.mem_replicate.mp hx).2) h1, h2⟩)
    simpa using this⟩
  exact k p l e _ s m _ below meth c s.heap [] 0 0 b0 G ls ⟨B.exec, B.bytes, hml, B.returns, B.notSynchronized, by rw [← hy.1]; exact findClass_of_methodNamed B.named, fun w hw => hts w (List.mem_cons_of_mem _ hw), hE, Nat.le_refl _, Nat.le_refl _, by rw [hR.1]; omega, fun hi => (name_of_methodNamed B.named B.method).1.trans (hy.2.2 hi)⟩ (Nat.le_of_eq (Nat.zero_add _)) (Nat.le_of_eq (Nat.zero_add _)) hh hR va_S.rf
section WR
variable {M : tmMS} {d bc bs pc : Nat} {lv : List (Option tmV)} {st : List tmV} {h : tmH} {Q : Option tmV → tmH → Prop}
theorem wa_eq {lv' : List (Option tmV)} {st' : List tmV} {h' : tmH} (k : tmW M d bc bs pc lv' st' h' Q) (e1 : lv = lv') (e2 : st = st') (e3 : h = h') : tmW M d bc bs pc lv st h Q := by subst e1; subst e2; subst e3; exact k
theorem wa_iconst {n : Int} (hd : decode M.2.1 pc = .ok (.iconst n, 1)) (k : tmW M d bc bs (pc + 1) lv (tI n :: st) h Q) : tmW M d bc bs pc lv st h Q :=
  fun p l e R s m args below meth c H locs cells slots b0 G ls X hc hs hl hR hS => lv_iconst X.1 X.2.1 hd rfl (k p l e R s m args below meth c H locs cells slots b0 G ls X hc hs hl hR hS)
theorem wa_bipush {n : Int} (hd : decode M.2.1 pc = .ok (.bipush n, 2)) (hn : (Int8.ofInt n).toInt32 = Int32.ofInt n) (k : tmW M d bc bs (pc + 2) lv (tI n :: st) h Q) : tmW M d bc bs pc lv st h Q :=
  fun p l e R s m args below meth c H locs cells slots b0 G ls X hc hs hl hR hS => lv_bipush X.1 X.2.1 hd hn (k p l e R s m args below meth c H locs cells slots b0 G ls X hc hs hl hR hS)
theorem wa_sipush {n : Int} (hd : decode M.2.1 pc = .ok (.sipush n, 3)) (hn : (Int16.ofInt n).toInt32 = Int32.ofInt n) (k : tmW M d bc bs (pc + 3) lv (tI n :: st) h Q) : tmW M d bc bs pc lv st h Q :=
  fun p l e R s m args below meth c H locs cells slots b0 G ls X hc hs hl hR hS => lv_sipush X.1 X.2.1 hd hn (k p l e R s m args below meth c H locs cells slots b0 G ls X hc hs hl hR hS)
theorem wa_lconst {n : Fin 2} {v : Int64} (hd : decode M.2.1 pc = .ok (.lconst n, 1)) (hv : Int64.ofNat (n : Nat) = v) (k : tmW M d bc bs (pc + 1) lv (tL v :: st) h Q) : tmW M d bc bs pc lv st h Q :=
  fun p l e R s m args below meth c H locs cells slots b0 G ls X hc hs hl hR hS => lv_lconst X.1 X.2.1 hd hv (k p l e R s m args below meth c H locs cells slots b0 G ls X hc hs hl hR hS)
theorem wa_ldc {index : Nat} {v : Int32} {a : Int} (hd : decode M.2.1 pc = .ok (.ldc index, 2)) (hw : Cond.constant M.1 index v ∈ tmT) (hv : v = Int32.ofInt a) (k : tmW M d bc bs (pc + 2) lv (tI a :: st) h Q) : tmW M d bc bs pc lv st h Q := by
  subst hv
  exact fun p l e R s m args below meth c H locs cells slots b0 G ls X hc hs hl hR hS => lv_ldc X.1 X.2.1 X.2.2.2.2.2.1 (X.2.2.2.2.2.2.1 _ hw) hd (k p l e R s m args below meth c H locs cells slots b0 G ls X hc hs hl hR hS)
theorem wa_ldcw {index : Nat} {v : Int32} {a : Int} (hd : decode M.2.1 pc = .ok (.ldc_w index, 3)) (hw : Cond.constant M.1 index v ∈ tmT) (hv : v = Int32.ofInt a) (k : tmW M d bc bs (pc + 3) lv (tI a :: st) h Q) : tmW M d bc bs pc lv st h Q := by
  subst hv
  exact fun p l e R s m args below meth c H locs cells slots b0 G ls X hc hs hl hR hS => lv_ldcw X.1 X.2.1 X.2.2.2.2.2.1 (X.2.2.2.2.2.2.1 _ hw) hd (k p l e R s m args below meth c H locs cells slots b0 G ls X hc hs hl hR hS)
theorem wa_ldc2 {index : Nat} {v : Int64} (hd : decode M.2.1 pc = .ok (.ldc2_w index, 3)) (hw : Cond.constantLong M.1 index v ∈ tmT) (k : tmW M d bc bs (pc + 3) lv (tL v :: st) h Q) : tmW M d bc bs pc lv st h Q :=
  fun p l e R s m args below meth c H locs cells slots b0 G ls X hc hs hl hR hS => lv_ldc2 X.1 X.2.1 X.2.2.2.2.2.1 (X.2.2.2.2.2.2.1 _ hw) hd (k p l e R s m args below meth c H locs cells slots b0 G ls X hc hs hl hR hS)
theorem wa_iload_n {i : Fin 4} {a : Int} (hd : decode M.2.1 pc = .ok (.iload_n i, 1)) (hk : tmGet lv i = some (tI a)) (k : tmW M d bc bs (pc + 1) lv (tI a :: st) h Q) : tmW M d bc bs pc lv st h Q :=
  fun p l e R s m args below meth c H locs cells slots b0 G ls X hc hs hl hR hS => lv_iload_n X.1 X.2.1 hd rfl (hl.at hk) (k p l e R s m args below meth c H locs cells slots b0 G ls X hc hs hl hR hS)
theorem wa_iload {i : Nat} {a : Int} (hd : decode M.2.1 pc = .ok (.iload i, 2)) (hk : tmGet lv i = some (tI a)) (k : tmW M d bc bs (pc + 2) lv (tI a :: st) h Q) : tmW M d bc bs pc lv st h Q :=
  fun p l e R s m args below meth c H locs cells slots b0 G ls X hc hs hl hR hS => lv_iload X.1 X.2.1 hd (hl.at hk) (k p l e R s m args below meth c H locs cells slots b0 G ls X hc hs hl hR hS)
theorem wa_lload_n {i : Fin 4} {a : Int64} (hd : decode M.2.1 pc = .ok (.lload_n i, 1)) (hk : tmGet lv i = some (tL a)) (k : tmW M d bc bs (pc + 1) lv (tL a :: st) h Q) : tmW M d bc bs pc lv st h Q :=
  fun p l e R s m args below meth c H locs cells slots b0 G ls X hc hs hl hR hS => lv_lload_n X.1 X.2.1 hd rfl (hl.at hk) (k p l e R s m args below meth c H locs cells slots b0 G ls X hc hs hl hR hS)
theorem wa_lload {i : Nat} {a : Int64} (hd : decode M.2.1 pc = .ok (.lload i, 2)) (hk : tmGet lv i = some (tL a)) (k : tmW M d bc bs (pc + 2) lv (tL a :: st) h Q) : tmW M d bc bs pc lv st h Q :=
  fun p l e R s m args below meth c H locs cells slots b0 G ls X hc hs hl hR hS => lv_lload X.1 X.2.1 hd (hl.at hk) (k p l e R s m args below meth c H locs cells slots b0 G ls X hc hs hl hR hS)
theorem wa_aload_n {i : Fin 4} {a : Nat} (hd : decode M.2.1 pc = .ok (.aload_n i, 1)) (hk : tmGet lv i = some (tR a)) (k : tmW M d bc bs (pc + 1) lv (tR a :: st) h Q) : tmW M d bc bs pc lv st h Q :=
  fun p l e R s m args below meth c H locs cells slots b0 G ls X hc hs hl hR hS => lv_aload_n X.1 X.2.1 hd rfl (hl.at hk) (k p l e R s m args below meth c H locs cells slots b0 G ls X hc hs hl hR hS)
theorem wa_aload {i : Nat} {a : Nat} (hd : decode M.2.1 pc = .ok (.aload i, 2)) (hk : tmGet lv i = some (tR a)) (k : tmW M d bc bs (pc + 2) lv (tR a :: st) h Q) : tmW M d bc bs pc lv st h Q :=
  fun p l e R s m args below meth c H locs cells slots b0 G ls X hc hs hl hR hS => lv_aload X.1 X.2.1 hd (hl.at hk) (k p l e R s m args below meth c H locs cells slots b0 G ls X hc hs hl hR hS)
-- stores
theorem wa_istore_n {i : Fin 4} {a : Int} (hd : decode M.2.1 pc = .ok (.istore_n i, 1)) (hi : (i : Nat) < M.2.2.1) (k : tmW M d bc bs (pc + 1) (tmSet lv i (tI a)) st h Q) : tmW M d bc bs pc lv (tI a :: st) h Q :=
  fun p l e R s m args below meth c H locs cells slots b0 G ls X hc hs hl hR hS => lv_istore_n X.1 X.2.1 hd rfl hl.to hi rfl (fun ls' h' => k p l e R s m args below meth c H locs cells slots b0 G ls' X hc hs (tmHas.of1 h') hR hS)
theorem wa_istore {i : Nat} {a : Int} (hd : decode M.2.1 pc = .ok (.istore i, 2)) (hi : i < M.2.2.1) (k : tmW M d bc bs (pc + 2) (tmSet lv i (tI a)) st h Q) : tmW M d bc bs pc lv (tI a :: st) h Q :=
  fun p l e R s m args below meth c H locs cells slots b0 G ls X hc hs hl hR hS => lv_istore X.1 X.2.1 hd hl.to hi rfl (fun ls' h' => k p l e R s m args below meth c H locs cells slots b0 G ls' X hc hs (tmHas.of1 h') hR hS)
theorem wa_astore_n {i : Fin 4} {a : Nat} (hd : decode M.2.1 pc = .ok (.astore_n i, 1)) (hi : (i : Nat) < M.2.2.1) (k : tmW M d bc bs (pc + 1) (tmSet lv i (tR a)) st h Q) : tmW M d bc bs pc lv (tR a :: st) h Q :=
  fun p l e R s m args below meth c H locs cells slots b0 G ls X hc hs hl hR hS => lv_astore_n X.1 X.2.1 hd rfl hl.to hi rfl (fun ls' h' => k p l e R s m args below meth c H locs cells slots b0 G ls' X hc hs (tmHas.of1 h') hR hS)
theorem wa_astore {i : Nat} {a : Nat} (hd : decode M.2.1 pc = .ok (.astore i, 2)) (hi : i < M.2.2.1) (k : tmW M d bc bs (pc + 2) (tmSet lv i (tR a)) st h Q) : tmW M d bc bs pc lv (tR a :: st) h Q :=
  fun p l e R s m args below meth c H locs cells slots b0 G ls X hc hs hl hR hS => lv_astore X.1 X.2.1 hd hl.to hi rfl (fun ls' h' => k p l e R s m args below meth c H locs cells slots b0 G ls' X hc hs (tmHas.of1 h') hR hS)
theorem wa_lstore_n {i : Fin 4} {a : Int64} (hd : decode M.2.1 pc = .ok (.lstore_n i, 1)) (hi : (i : Nat) + 1 < M.2.2.1) (k : tmW M d bc bs (pc + 1) (tmSet lv i (tL a)) st h Q) : tmW M d bc bs pc lv (tL a :: st) h Q :=
  fun p l e R s m args below meth c H locs cells slots b0 G ls X hc hs hl hR hS => lv_lstore_n X.1 X.2.1 hd rfl hl.to hi rfl (fun ls' h' => k p l e R s m args below meth c H locs cells slots b0 G ls' X hc hs (tmHas.of2 h') hR hS)
theorem wa_lstore {i : Nat} {a : Int64} (hd : decode M.2.1 pc = .ok (.lstore i, 2)) (hi : i + 1 < M.2.2.1) (k : tmW M d bc bs (pc + 2) (tmSet lv i (tL a)) st h Q) : tmW M d bc bs pc lv (tL a :: st) h Q :=
  fun p l e R s m args below meth c H locs cells slots b0 G ls X hc hs hl hR hS => lv_lstore X.1 X.2.1 hd hl.to hi rfl (fun ls' h' => k p l e R s m args below meth c H locs cells slots b0 G ls' X hc hs (tmHas.of2 h') hR hS)
theorem tmGet_at {b0 : Nat} : ∀ {lv : List (Option tmV)} {k : Nat} {v : tmV}, tmGet lv k = some v → ∃ j : Nat, (tmLs b0 0 lv)[j]? = some (k, tmt b0 v) := by
  intro lv k v hk
  exact List.getElem?_of_mem ((tmLs_mem lv 0 (k, tmt b0 v)).mpr ⟨k, (Nat.zero_add k).symm, v, hk, rfl⟩)
theorem wa_iinc {i : Nat} {n a : Int} (hd : decode M.2.1 pc = .ok (.iinc i n, 3)) (hk : tmGet lv i = some (tI a)) (hi : i < M.2.2.1) (k : tmW M d bc bs (pc + 3) (tmSet lv i (tI (a + n))) st h Q) : tmW M d bc bs pc lv st h Q := by
  intro p l e R s m args below meth c H locs cells slots b0 G ls X hc hs hl hR hS
  obtain ⟨j, hj⟩ := tmGet_at (b0 := b0) hk
  exact lv_iinc X.1 X.2.1 hd hl.to hj (v := Int32.ofInt (a + n)) (Int32.ofInt_add _ _).symm hi rfl (fun ls' h' => k p l e R s m args below meth c H locs cells slots b0 G ls' X hc hs (tmHas.of1 h') hR hS)
theorem wa_iadd {a b : Int} (hd : decode M.2.1 pc = .ok (.iadd, 1)) (k : tmW M d bc bs (pc + 1) lv (tI (a + b) :: st) h Q) : tmW M d bc bs pc lv (tI b :: tI a :: st) h Q := by
  intro p l e R s m args below meth c H locs cells slots b0 G ls X hc hs hl hR hS
  have k2 := k p l e R s m args below meth c H locs cells slots b0 G ls X hc hs hl hR hS
  refine lv_iadd X.1 X.2.1 hd ?_
  rw [← Int32.ofInt_add]
  exact k2
theorem wa_isub {a b : Int} (hd : decode M.2.1 pc = .ok (.isub, 1)) (k : tmW M d bc bs (pc + 1) lv (tI (a - b) :: st) h Q) : tmW M d bc bs pc lv (tI b :: tI a :: st) h Q := by
  intro p l e R s m args below meth c H locs cells slots b0 G ls X hc hs hl hR hS
  have k2 := k p l e R s m args below meth c H locs cells slots b0 G ls X hc hs hl hR hS
  refine lv_isub X.1 X.2.1 hd ?_
  rw [← Int32.ofInt_sub]
  exact k2
theorem wa_imul {a b : Int} (hd : decode M.2.1 pc = .ok (.imul, 1)) (k : tmW M d bc bs (pc + 1) lv (tI (a * b) :: st) h Q) : tmW M d bc bs pc lv (tI b :: tI a :: st) h Q := by
  intro p l e R s m args below meth c H locs cells slots b0 G ls X hc hs hl hR hS
  have k2 := k p l e R s m args below meth c H locs cells slots b0 G ls X hc hs hl hR hS
  refine lv_imul X.1 X.2.1 hd ?_
  rw [← Int32.ofInt_mul]
  exact k2
theorem wa_iand {a b r : Int} (hd : decode M.2.1 pc = .ok (.iand, 1)) (hr : Int32.ofInt a &&& Int32.ofInt b = Int32.ofInt r) (k : tmW M d bc bs (pc + 1) lv (tI r :: st) h Q) : tmW M d bc bs pc lv (tI b :: tI a :: st) h Q := by
  intro p l e R s m args below meth c H locs cells slots b0 G ls X hc hs hl hR hS
  have k2 := k p l e R s m args below meth c H locs cells slots b0 G ls X hc hs hl hR hS
  refine lv_iand X.1 X.2.1 hd ?_
  rw [hr]
  exact k2
theorem wa_ior {a b r : Int} (hd : decode M.2.1 pc = .ok (.ior, 1)) (hr : Int32.ofInt a ||| Int32.ofInt b = Int32.ofInt r) (k : tmW M d bc bs (pc + 1) lv (tI r :: st) h Q) : tmW M d bc bs pc lv (tI b :: tI a :: st) h Q := by
  intro p l e R s m args below meth c H locs cells slots b0 G ls X hc hs hl hR hS
  have k2 := k p l e R s m args below meth c H locs cells slots b0 G ls X hc hs hl hR hS
  refine lv_ior X.1 X.2.1 hd ?_
  rw [hr]
  exact k2
theorem wa_ishl {a b r : Int} (hd : decode M.2.1 pc = .ok (.ishl, 1)) (hr : Int32.ofInt a <<< (Int32.ofInt b &&& 31) = Int32.ofInt r) (k : tmW M d bc bs (pc + 1) lv (tI r :: st) h Q) : tmW M d bc bs pc lv (tI b :: tI a :: st) h Q := by
  intro p l e R s m args below meth c H locs cells slots b0 G ls X hc hs hl hR hS
  have k2 := k p l e R s m args below meth c H locs cells slots b0 G ls X hc hs hl hR hS
  refine lv_ishl X.1 X.2.1 hd ?_
  rw [hr]
  exact k2
theorem wa_ishr {a b r : Int} (hd : decode M.2.1 pc = .ok (.ishr, 1)) (hr : Int32.ofInt a >>> (Int32.ofInt b &&& 31) = Int32.ofInt r) (k : tmW M d bc bs (pc + 1) lv (tI r :: st) h Q) : tmW M d bc bs pc lv (tI b :: tI a :: st) h Q := by
  intro p l e R s m args below meth c H locs cells slots b0 G ls X hc hs hl hR hS
  have k2 := k p l e R s m args below meth c H locs cells slots b0 G ls X hc hs hl hR hS
  refine lv_ishr X.1 X.2.1 hd ?_
  rw [hr]
  exact k2
theorem wa_iushr {a b r : Int} (hd : decode M.2.1 pc = .ok (.iushr, 1)) (hr : ((Int32.ofInt a).toUInt32 >>> ((Int32.ofInt b).toUInt32 &&& Int32.toUInt32 31)).toInt32 = Int32.ofInt r) (k : tmW M d bc bs (pc + 1) lv (tI r :: st) h Q) : tmW M d bc bs pc lv (tI b :: tI a :: st) h Q := by
  intro p l e R s m args below meth c H locs cells slots b0 G ls X hc hs hl hR hS
  have k2 := k p l e R s m args below meth c H locs cells slots b0 G ls X hc hs hl hR hS
  refine lv_iushr X.1 X.2.1 hd rfl ?_
  rw [hr]
  exact k2
theorem wa_ineg {a : Int} (hd : decode M.2.1 pc = .ok (.ineg, 1)) (k : tmW M d bc bs (pc + 1) lv (tI (-a) :: st) h Q) : tmW M d bc bs pc lv (tI a :: st) h Q := by
  intro p l e R s m args below meth c H locs cells slots b0 G ls X hc hs hl hR hS
  have k2 := k p l e R s m args below meth c H locs cells slots b0 G ls X hc hs hl hR hS
  refine lv_ineg X.1 X.2.1 hd ?_
  rw [← Int32.ofInt_neg]
  exact k2
theorem wa_irem {a b r : Int} (hd : decode M.2.1 pc = .ok (.irem, 1)) (hb : ¬ Int32.ofInt b = 0) (hr : Int32.ofInt a - Int32.ofInt a / Int32.ofInt b * Int32.ofInt b = Int32.ofInt r) (k : tmW M d bc bs (pc + 1) lv (tI r :: st) h Q) : tmW M d bc bs pc lv (tI b :: tI a :: st) h Q := by
  intro p l e R s m args below meth c H locs cells slots b0 G ls X hc hs hl hR hS
  have k2 := k p l e R s m args below meth c H locs cells slots b0 G ls X hc hs hl hR hS
  refine lv_irem X.1 X.2.1 hd hb ?_
  rw [hr]
  exact k2
theorem wa_ladd {a b : Int64} (hd : decode M.2.1 pc = .ok (.ladd, 1)) (k : tmW M d bc bs (pc + 1) lv (tL (a + b) :: st) h Q) : tmW M d bc bs pc lv (tL b :: tL a :: st) h Q :=
  fun p l e R s m args below meth c H locs cells slots b0 G ls X hc hs hl hR hS => lv_ladd X.1 X.2.1 hd (k p l e R s m args below meth c H locs cells slots b0 G ls X hc hs hl hR hS)
theorem wa_lmul {a b : Int64} (hd : decode M.2.1 pc = .ok (.lmul, 1)) (k : tmW M d bc bs (pc + 1) lv (tL (a * b) :: st) h Q) : tmW M d bc bs pc lv (tL b :: tL a :: st) h Q :=
  fun p l e R s m args below meth c H locs cells slots b0 G ls X hc hs hl hR hS => lv_lmul X.1 X.2.1 hd (k p l e R s m args below meth c H locs cells slots b0 G ls X hc hs hl hR hS)
theorem wa_land {a b : Int64} (hd : decode M.2.1 pc = .ok (.land, 1)) (k : tmW M d bc bs (pc + 1) lv (tL (a &&& b) :: st) h Q) : tmW M d bc bs pc lv (tL b :: tL a :: st) h Q :=
  fun p l e R s m args below meth c H locs cells slots b0 G ls X hc hs hl hR hS => lv_land X.1 X.2.1 hd (k p l e R s m args below meth c H locs cells slots b0 G ls X hc hs hl hR hS)
theorem wa_lor {a b : Int64} (hd : decode M.2.1 pc = .ok (.lor, 1)) (k : tmW M d bc bs (pc + 1) lv (tL (a ||| b) :: st) h Q) : tmW M d bc bs pc lv (tL b :: tL a :: st) h Q :=
  fun p l e R s m args below meth c H locs cells slots b0 G ls X hc hs hl hR hS => lv_lor X.1 X.2.1 hd (k p l e R s m args below meth c H locs cells slots b0 G ls X hc hs hl hR hS)
theorem wa_lshl {a r : Int64} {b : Int} (hd : decode M.2.1 pc = .ok (.lshl, 1)) (hr : a <<< ((Int32.ofInt b).toInt64 &&& 63) = r) (k : tmW M d bc bs (pc + 1) lv (tL r :: st) h Q) : tmW M d bc bs pc lv (tI b :: tL a :: st) h Q :=
  fun p l e R s m args below meth c H locs cells slots b0 G ls X hc hs hl hR hS => lv_lshl X.1 X.2.1 hd hr (k p l e R s m args below meth c H locs cells slots b0 G ls X hc hs hl hR hS)
theorem wa_lshr {a r : Int64} {b : Int} (hd : decode M.2.1 pc = .ok (.lshr, 1)) (hr : a >>> ((Int32.ofInt b).toInt64 &&& 63) = r) (k : tmW M d bc bs (pc + 1) lv (tL r :: st) h Q) : tmW M d bc bs pc lv (tI b :: tL a :: st) h Q :=
  fun p l e R s m args below meth c H locs cells slots b0 G ls X hc hs hl hR hS => lv_lshr X.1 X.2.1 hd hr (k p l e R s m args below meth c H locs cells slots b0 G ls X hc hs hl hR hS)
theorem wa_lushr {a r : Int64} {b : Int} (hd : decode M.2.1 pc = .ok (.lushr, 1)) (hr : (a.toUInt64 >>> ((Int32.ofInt b).toInt64.toUInt64 &&& Int64.toUInt64 63)).toInt64 = r) (k : tmW M d bc bs (pc + 1) lv (tL r :: st) h Q) : tmW M d bc bs pc lv (tI b :: tL a :: st) h Q :=
  fun p l e R s m args below meth c H locs cells slots b0 G ls X hc hs hl hR hS => lv_lushr X.1 X.2.1 hd hr (k p l e R s m args below meth c H locs cells slots b0 G ls X hc hs hl hR hS)
theorem wa_i2l {a : Int} {r : Int64} (hd : decode M.2.1 pc = .ok (.i2l, 1)) (hr : (Int32.ofInt a).toInt64 = r) (k : tmW M d bc bs (pc + 1) lv (tL r :: st) h Q) : tmW M d bc bs pc lv (tI a :: st) h Q :=
  fun p l e R s m args below meth c H locs cells slots b0 G ls X hc hs hl hR hS => lv_i2l X.1 X.2.1 hd hr (k p l e R s m args below meth c H locs cells slots b0 G ls X hc hs hl hR hS)
theorem wa_l2i {a : Int64} {r : Int} (hd : decode M.2.1 pc = .ok (.l2i, 1)) (hr : a.toInt32 = Int32.ofInt r) (k : tmW M d bc bs (pc + 1) lv (tI r :: st) h Q) : tmW M d bc bs pc lv (tL a :: st) h Q :=
  fun p l e R s m args below meth c H locs cells slots b0 G ls X hc hs hl hR hS => lv_l2i X.1 X.2.1 hd hr (k p l e R s m args below meth c H locs cells slots b0 G ls X hc hs hl hR hS)
theorem wa_lcmp {a b : Int64} {r : Int} (hd : decode M.2.1 pc = .ok (.lcmp, 1)) (hr : lg_cmp a b = Int32.ofInt r) (k : tmW M d bc bs (pc + 1) lv (tI r :: st) h Q) : tmW M d bc bs pc lv (tL b :: tL a :: st) h Q := by
  intro p l e R s m args below meth c H locs cells slots b0 G ls X hc hs hl hR hS
  have k2 := k p l e R s m args below meth c H locs cells slots b0 G ls X hc hs hl hR hS
  refine W.lcmp X.1 X.2.1 hd ?_
  rw [hr]
  exact k2
theorem wa_dup {v : tmV} (hd : decode M.2.1 pc = .ok (.dup, 1)) (hv : tmIsL (some v) = false) (k : tmW M d bc bs (pc + 1) lv (v :: v :: st) h Q) : tmW M d bc bs pc lv (v :: st) h Q :=
  fun p l e R s m args below meth c H locs cells slots b0 G ls X hc hs hl hR hS => lv_dup X.1 X.2.1 hd (by rw [tmt_cat, hv]; rfl) (k p l e R s m args below meth c H locs cells slots b0 G ls X hc hs hl hR hS)
theorem wa_pop {v : tmV} (hd : decode M.2.1 pc = .ok (.pop, 1)) (hv : tmIsL (some v) = false) (k : tmW M d bc bs (pc + 1) lv st h Q) : tmW M d bc bs pc lv (v :: st) h Q :=
  fun p l e R s m args below meth c H locs cells slots b0 G ls X hc hs hl hR hS => lv_pop X.1 X.2.1 hd (by rw [tmt_cat, hv]; rfl) (k p l e R s m args below meth c H locs cells slots b0 G ls X hc hs hl hR hS)
theorem wa_dup2 {v w : tmV} (hd : decode M.2.1 pc = .ok (.dup2, 1)) (hv : tmIsL (some v) = false) (hw : tmIsL (some w) = false) (k : tmW M d bc bs (pc + 1) lv (v :: w :: v :: w :: st) h Q) : tmW M d bc bs pc lv (v :: w :: st) h Q :=
  fun p l e R s m args below meth c H locs cells slots b0 G ls X hc hs hl hR hS => lv_dup2_11 X.1 X.2.1 hd (by rw [tmt_cat, hv]; rfl) (by rw [tmt_cat, hw]; rfl) (k p l e R s m args below meth c H locs cells slots b0 G ls X hc hs hl hR hS)
theorem wa_goto {off : Int} (tgt : Nat) (hd : decode M.2.1 pc = .ok (.goto off, 3)) (ht : (pc : Int) + off = (tgt : Int)) (k : tmW M d bc bs tgt lv st h Q) : tmW M d bc bs pc lv st h Q :=
  fun p l e R s m args below meth c H locs cells slots b0 G ls X hc hs hl hR hS => lv_goto X.1 X.2.1 hd ht (k p l e R s m args below meth c H locs cells slots b0 G ls X hc hs hl hR hS)
theorem tm_toInt {a : Int} (h : inR a) : (Int32.ofInt a).toInt = a := Int32.toInt_ofInt_of_le (by have := h.1; simpa using this) (by have := h.2; omega)
theorem tm_lt {a b : Int} (ha : inR a) (hb : inR b) : Int32.ofInt a < Int32.ofInt b ↔ a < b := by rw [Int32.lt_iff_toInt_lt, tm_toInt ha, tm_toInt hb]
theorem tm_le {a b : Int} (ha : inR a) (hb : inR b) : Int32.ofInt a ≤ Int32.ofInt b ↔ a ≤ b := by rw [Int32.le_iff_toInt_le, tm_toInt ha, tm_toInt hb]
theorem tm_eq {a b : Int} (ha : inR a) (hb : inR b) : Int32.ofInt a = Int32.ofInt b ↔ a = b := by rw [← Int32.toInt_inj, tm_toInt ha, tm_toInt hb]
theorem inR0 : inR 0 := ⟨by decide, by decide⟩
theorem tm_0 : Int32.ofInt 0 = 0 := rfl
theorem wa_icmp_eq {a b off : Int} (tgt : Nat) (hd : decode M.2.1 pc = .ok (.if_icmp .eq off, 3)) (ht : (pc : Int) + off = (tgt : Int)) (ha : inR a) (hb : inR b) (kt : (a = b) → tmW M d bc bs tgt lv st h Q) (kf : (¬ a = b) → tmW M d bc bs (pc + 3) lv st h Q) : tmW M d bc bs pc lv (tI b :: tI a :: st) h Q :=
  fun p l e R s m args below meth c H locs cells slots b0 G ls X hc hs hl hR hS => lv_icmp_eq X.1 X.2.1 hd ht (fun q => kt ((tm_eq ha hb).mp q) p l e R s m args below meth c H locs cells slots b0 G ls X hc hs hl hR hS) (fun q => kf (fun z => q ((tm_eq ha hb).mpr z)) p l e R s m args below meth c H locs cells slots b0 G ls X hc hs hl hR hS)
theorem wa_icmp_ne {a b off : Int} (tgt : Nat) (hd : decode M.2.1 pc = .ok (.if_icmp .ne off, 3)) (ht : (pc : Int) + off = (tgt : Int)) (ha : inR a) (hb : inR b) (kt : (¬ a = b) → tmW M d bc bs tgt lv st h Q) (kf : (a = b) → tmW M d bc bs (pc + 3) lv st h Q) : tmW M d bc bs pc lv (tI b :: tI a :: st) h Q :=
  fun p l e R s m args below meth c H locs cells slots b0 G ls X hc hs hl hR hS => lv_icmp_ne X.1 X.2.1 hd ht (fun q => kt (fun z => q ((tm_eq ha hb).mpr z)) p l e R s m args below meth c H locs cells slots b0 G ls X hc hs hl hR hS) (fun q => kf ((tm_eq ha hb).mp q) p l e R s m args below meth c H locs cells slots b0 G ls X hc hs hl hR hS)
theorem wa_icmp_lt {a b off : Int} (tgt : Nat) (hd : decode M.2.1 pc = .ok (.if_icmp .lt off, 3)) (ht : (pc : Int) + off = (tgt : Int)) (ha : inR a) (hb : inR b) (kt : (a < b) → tmW M d bc bs tgt lv st h Q) (kf : (¬ a < b) → tmW M d bc bs (pc + 3) lv st h Q) : tmW M d bc bs pc lv (tI b :: tI a :: st) h Q :=
  fun p l e R s m args below meth c H locs cells slots b0 G ls X hc hs hl hR hS => lv_icmp_lt X.1 X.2.1 hd ht (fun q => kt ((tm_lt ha hb).mp q) p l e R s m args below meth c H locs cells slots b0 G ls X hc hs hl hR hS) (fun q => kf (fun z => q ((tm_lt ha hb).mpr z)) p l e R s m args below meth c H locs cells slots b0 G ls X hc hs hl hR hS)
theorem wa_icmp_ge {a b off : Int} (tgt : Nat) (hd : decode M.2.1 pc = .ok (.if_icmp .ge off, 3)) (ht : (pc : Int) + off = (tgt : Int)) (ha : inR a) (hb : inR b) (kt : (b ≤ a) → tmW M d bc bs tgt lv st h Q) (kf : (¬ b ≤ a) → tmW M d bc bs (pc + 3) lv st h Q) : tmW M d bc bs pc lv (tI b :: tI a :: st) h Q :=
  fun p l e R s m args below meth c H locs cells slots b0 G ls X hc hs hl hR hS => lv_icmp_ge X.1 X.2.1 hd ht (fun q => kt ((tm_le hb ha).mp q) p l e R s m args below meth c H locs cells slots b0 G ls X hc hs hl hR hS) (fun q => kf (fun z => q ((tm_le hb ha).mpr z)) p l e R s m args below meth c H locs cells slots b0 G ls X hc hs hl hR hS)
theorem wa_icmp_gt {a b off : Int} (tgt : Nat) (hd : decode M.2.1 pc = .ok (.if_icmp .gt off, 3)) (ht : (pc : Int) + off = (tgt : Int)) (ha : inR a) (hb : inR b) (kt : (b < a) → tmW M d bc bs tgt lv st h Q) (kf : (¬ b < a) → tmW M d bc bs (pc + 3) lv st h Q) : tmW M d bc bs pc lv (tI b :: tI a :: st) h Q :=
  fun p l e R s m args below meth c H locs cells slots b0 G ls X hc hs hl hR hS => lv_icmp_gt X.1 X.2.1 hd ht (fun q => kt ((tm_lt hb ha).mp q) p l e R s m args below meth c H locs cells slots b0 G ls X hc hs hl hR hS) (fun q => kf (fun z => q ((tm_lt hb ha).mpr z)) p l e R s m args below meth c H locs cells slots b0 G ls X hc hs hl hR hS)
theorem wa_icmp_le {a b off : Int} (tgt : Nat) (hd : decode M.2.1 pc = .ok (.if_icmp .le off, 3)) (ht : (pc : Int) + off = (tgt : Int)) (ha : inR a) (hb : inR b) (kt : (a ≤ b) → tmW M d bc bs tgt lv st h Q) (kf : (¬ a ≤ b) → tmW M d bc bs (pc + 3) lv st h Q) : tmW M d bc bs pc lv (tI b :: tI a :: st) h Q :=
  fun p l e R s m args below meth c H locs cells slots b0 G ls X hc hs hl hR hS => lv_icmp_le X.1 X.2.1 hd ht (fun q => kt ((tm_le ha hb).mp q) p l e R s m args below meth c H locs cells slots b0 G ls X hc hs hl hR hS) (fun q => kf (fun z => q ((tm_le ha hb).mpr z)) p l e R s m args below meth c H locs cells slots b0 G ls X hc hs hl hR hS)
theorem wa_if_eq {a off : Int} (tgt : Nat) (hd : decode M.2.1 pc = .ok (.ifCond .eq off, 3)) (ht : (pc : Int) + off = (tgt : Int)) (ha : inR a) (kt : (a = 0) → tmW M d bc bs tgt lv st h Q) (kf : (¬ a = 0) → tmW M d bc bs (pc + 3) lv st h Q) : tmW M d bc bs pc lv (tI a :: st) h Q :=
  fun p l e R s m args below meth c H locs cells slots b0 G ls X hc hs hl hR hS => lv_if_eq X.1 X.2.1 hd ht (fun q => kt ((tm_eq ha inR0).mp q) p l e R s m args below meth c H locs cells slots b0 G ls X hc hs hl hR hS) (fun q => kf (fun z => q ((tm_eq ha inR0).mpr z)) p l e R s m args below meth c H locs cells slots b0 G ls X hc hs hl hR hS)
theorem wa_if_ne {a off : Int} (tgt : Nat) (hd : decode M.2.1 pc = .ok (.ifCond .ne off, 3)) (ht : (pc : Int) + off = (tgt : Int)) (ha : inR a) (kt : (¬ a = 0) → tmW M d bc bs tgt lv st h Q) (kf : (a = 0) → tmW M d bc bs (pc + 3) lv st h Q) : tmW M d bc bs pc lv (tI a :: st) h Q :=
  fun p l e R s m args below meth c H locs cells slots b0 G ls X hc hs hl hR hS => lv_if_ne X.1 X.2.1 hd ht (fun q => kt (fun z => q ((tm_eq ha inR0).mpr z)) p l e R s m args below meth c H locs cells slots b0 G ls X hc hs hl hR hS) (fun q => kf ((tm_eq ha inR0).mp q) p l e R s m args below meth c H locs cells slots b0 G ls X hc hs hl hR hS)
theorem wa_if_lt {a off : Int} (tgt : Nat) (hd : decode M.2.1 pc = .ok (.ifCond .lt off, 3)) (ht : (pc : Int) + off = (tgt : Int)) (ha : inR a) (kt : (a < 0) → tmW M d bc bs tgt lv st h Q) (kf : (¬ a < 0) → tmW M d bc bs (pc + 3) lv st h Q) : tmW M d bc bs pc lv (tI a :: st) h Q :=
  fun p l e R s m args below meth c H locs cells slots b0 G ls X hc hs hl hR hS => lv_if_lt X.1 X.2.1 hd ht (fun q => kt ((tm_lt ha inR0).mp q) p l e R s m args below meth c H locs cells slots b0 G ls X hc hs hl hR hS) (fun q => kf (fun z => q ((tm_lt ha inR0).mpr z)) p l e R s m args below meth c H locs cells slots b0 G ls X hc hs hl hR hS)
theorem wa_if_ge {a off : Int} (tgt : Nat) (hd : decode M.2.1 pc = .ok (.ifCond .ge off, 3)) (ht : (pc : Int) + off = (tgt : Int)) (ha : inR a) (kt : (0 ≤ a) → tmW M d bc bs tgt lv st h Q) (kf : (¬ 0 ≤ a) → tmW M d bc bs (pc + 3) lv st h Q) : tmW M d bc bs pc lv (tI a :: st) h Q :=
  fun p l e R s m args below meth c H locs cells slots b0 G ls X hc hs hl hR hS => lv_if_ge X.1 X.2.1 hd ht (fun q => kt ((tm_le inR0 ha).mp q) p l e R s m args below meth c H locs cells slots b0 G ls X hc hs hl hR hS) (fun q => kf (fun z => q ((tm_le inR0 ha).mpr z)) p l e R s m args below meth c H locs cells slots b0 G ls X hc hs hl hR hS)
theorem wa_if_gt {a off : Int} (tgt : Nat) (hd : decode M.2.1 pc = .ok (.ifCond .gt off, 3)) (ht : (pc : Int) + off = (tgt : Int)) (ha : inR a) (kt : (0 < a) → tmW M d bc bs tgt lv st h Q) (kf : (¬ 0 < a) → tmW M d bc bs (pc + 3) lv st h Q) : tmW M d bc bs pc lv (tI a :: st) h Q :=
  fun p l e R s m args below meth c H locs cells slots b0 G ls X hc hs hl hR hS => lv_if_gt X.1 X.2.1 hd ht (fun q => kt ((tm_lt inR0 ha).mp q) p l e R s m args below meth c H locs cells slots b0 G ls X hc hs hl hR hS) (fun q => kf (fun z => q ((tm_lt inR0 ha).mpr z)) p l e R s m args below meth c H locs cells slots b0 G ls X hc hs hl hR hS)
theorem wa_if_le {a off : Int} (tgt : Nat) (hd : decode M.2.1 pc = .ok (.ifCond .le off, 3)) (ht : (pc : Int) + off = (tgt : Int)) (ha : inR a) (kt : (a ≤ 0) → tmW M d bc bs tgt lv st h Q) (kf : (¬ a ≤ 0) → tmW M d bc bs (pc + 3) lv st h Q) : tmW M d bc bs pc lv (tI a :: st) h Q :=
  fun p l e R s m args below meth c H locs cells slots b0 G ls X hc hs hl hR hS => lv_if_le X.1 X.2.1 hd ht (fun q => kt ((tm_le ha inR0).mp q) p l e R s m args below meth c H locs cells slots b0 G ls X hc hs hl hR hS) (fun q => kf (fun z => q ((tm_le ha inR0).mpr z)) p l e R s m args below meth c H locs cells slots b0 G ls X hc hs hl hR hS)
theorem wa_tableOut {a dflt lo hi : Int} {offs : Array Int} {len : Nat} (tgt : Nat) (hd : decode M.2.1 pc = .ok (.tableswitch dflt lo hi offs, len)) (ha : inR a) (ho : a < lo ∨ hi < a) (ht : (pc : Int) + dflt = (tgt : Int)) (k : tmW M d bc bs tgt lv st h Q) : tmW M d bc bs pc lv (tI a :: st) h Q :=
  fun p l e R s m args below meth c H locs cells slots b0 G ls X hc hs hl hR hS => lv_tableOut X.1 X.2.1 hd (by rw [tm_toInt ha]; exact ho) ht (k p l e R s m args below meth c H locs cells slots b0 G ls X hc hs hl hR hS)
theorem wa_tableIn {a dflt lo hi off : Int} {offs : Array Int} {len : Nat} (tgt : Nat) (hd : decode M.2.1 pc = .ok (.tableswitch dflt lo hi offs, len)) (ha : inR a) (h1 : ¬ a < lo) (h2 : ¬ hi < a) (ho : offs[(a - lo).toNat]? = some off) (ht : (pc : Int) + off = (tgt : Int)) (k : tmW M d bc bs tgt lv st h Q) : tmW M d bc bs pc lv (tI a :: st) h Q :=
  fun p l e R s m args below meth c H locs cells slots b0 G ls X hc hs hl hR hS => lv_tableIn X.1 X.2.1 hd (by rw [tm_toInt ha]; exact h1) (by rw [tm_toInt ha]; exact h2) (by rw [tm_toInt ha]; exact ho) ht (k p l e R s m args below meth c H locs cells slots b0 G ls X hc hs hl hR hS)
theorem tm_end {b0 : Nat} {G : tmG} {s : State} {H : Heap} {locs : List Loc} {args : Array Value} {r : Option tmV} (hR : tmR b0 G h H) (hS : va_S (tmA b0) s.heap H locs) (hq : Q r h) : ∀ t : State, t.heap = H → s.WarmedH t.vm → tmQ b0 G Q args s (.returned (r.map (tmt b0))) t :=
  fun t ht _ => ⟨⟨r, h, rfl, hq, by rw [ht]; exact hR⟩, hS.F ht⟩
theorem wa_ireturn {a : Int} (hd : decode M.2.1 pc = .ok (.ireturn, 1)) (hr : M.2.2.2.1 = some .int) (hq : Q (some (tI a)) h) : tmW M d bc bs pc lv [tI a] h Q := by
  intro p l e R s m args below meth c H locs cells slots b0 G ls X hc hs hl hR hS
  have hlocks := X.2.2.2.2.1
  refine W.widen (k := R.cells) (n := R.slots) (by omega) (by omega) ?_
  exact W.iret X.1 X.2.1 (X.2.2.2.1.trans hr) (tm_end hR hS hq) hS.2.2 hd
theorem wa_zreturn {a : Int} (hd : decode M.2.1 pc = .ok (.ireturn, 1)) (hr : M.2.2.2.1 = some .boolean) (ha : a = 0 ∨ a = 1) (hq : Q (some (tI a)) h) : tmW M d bc bs pc lv [tI a] h Q := by
  intro p l e R s m args below meth c H locs cells slots b0 G ls X hc hs hl hR hS
  have hlocks := X.2.2.2.2.1
  refine W.widen (k := R.cells) (n := R.slots) (by omega) (by omega) ?_
  exact W.zret X.1 X.2.1 (X.2.2.2.1.trans hr) (by rcases ha with rfl | rfl <;> rfl) (tm_end hR hS hq) hS.2.2 hd
theorem wa_lreturn {a : Int64} (hd : decode M.2.1 pc = .ok (.lreturn, 1)) (hr : M.2.2.2.1 = some .long) (hq : Q (some (tL a)) h) : tmW M d bc bs pc lv [tL a] h Q := by
  intro p l e R s m args below meth c H locs cells slots b0 G ls X hc hs hl hR hS
  have hlocks := X.2.2.2.2.1
  refine W.widen (k := R.cells) (n := R.slots) (by omega) (by omega) ?_
  exact W.lret X.1 X.2.1 (X.2.2.2.1.trans hr) (tm_end hR hS hq) hS.2.2 hd
theorem wa_areturn {a : Nat} {C : String} (hd : decode M.2.1 pc = .ok (.areturn, 1)) (hr : M.2.2.2.1 = some (.object C)) (hq : Q (some (tR a)) h) : tmW M d bc bs pc lv [tR a] h Q := by
  intro p l e R s m args below meth c H locs cells slots b0 G ls X hc hs hl hR hS
  have hlocks := X.2.2.2.2.1
  refine W.widen (k := R.cells) (n := R.slots) (by omega) (by omega) ?_
  exact W.aret X.1 X.2.1 (X.2.2.2.1.trans hr) (Or.inl ⟨C, rfl⟩) (Or.inr ⟨_, rfl⟩) (tm_end hR hS hq) hS.2.2 hd
theorem wa_return (hd : decode M.2.1 pc = .ok (.return_, 1)) (hr : M.2.2.2.1 = none) (hq : Q none h) : tmW M d bc bs pc lv [] h Q := by
  intro p l e R s m args below meth c H locs cells slots b0 G ls X hc hs hl hR hS
  have hlocks := X.2.2.2.2.1
  refine W.widen (k := R.cells) (n := R.slots) (by omega) (by omega) ?_
  exact W.vret X.1 X.2.1 (X.2.2.2.1.trans hr) (tm_end hR hS hq) hS.2.2 hd
/-- what the heap holds is in range -/
theorem wa_ir (k : tmIR h.2.1 → tmW M d bc bs pc lv st h Q) : tmW M d bc bs pc lv st h Q :=
  fun p l e R s m args below meth c H locs cells slots b0 G ls X hc hs hl hR hS => k hR.2.2 p l e R s m args below meth c H locs cells slots b0 G ls X hc hs hl hR hS
/-- fewer wishes -/
theorem wa_budget {bc' bs' : Nat} (h1 : bc' ≤ bc) (h2 : bs' ≤ bs) (k : tmW M d bc' bs' pc lv st h Q) : tmW M d bc bs pc lv st h Q :=
  fun p l e R s m args below meth c H locs cells slots b0 G ls X hc hs hl hR hS => k p l e R s m args below meth c H locs cells slots b0 G ls X (by omega) (by omega) hl hR hS
end WR
