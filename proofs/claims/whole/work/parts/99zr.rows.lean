/-! ===== 99zr: the law's own judgement, its rows ===== -/
/-- the law's walk, once its two objects stand: its locals are the script, the class (cell 0), the reference (cell 168) and the place n -/
def yL (p : Program) (l : Launch) (e : Env) (s : State) (m : MethodId) (below : List Frame) (meth : Method) (c : Code) (b : Nat) (G : tmG) (bc bs pc n : Nat) (st : List tmV) (h : tmH) : Prop :=
  ∀ (H : Heap) (locs : List Loc) (cells slots : Nat) (ls : Array Slot), cells + bc ≤ 600000 → slots + bs ≤ 7302250 → lv_has ls 4 [(3, .int (Int32.ofInt (n : Int))), (2, .ref (s.heap.size + 168)), (1, .ref (s.heap.size + 0)), (0, .ref b)] → tmR s.heap.size G h H → va_S (tmA s.heap.size) s.heap H locs →
    W p l e room_1 s m #[Value.ref b] below meth c H locs cells slots (lw_Z below #[Value.ref b] s) (F0 m pc ls (st.map (tmt s.heap.size)))
section S99zr
variable {p : Program} {l : Launch} {e : Env} {s : State} {m : MethodId} {below : List Frame} {meth : Method} {c : Code} {b Ln : Nat} {xs : Nat → Int32} {G : tmG} {bc bs pc n : Nat} {st : List tmV} {h : tmH}
set_option maxRecDepth 20000 in
theorem y_wk {bc' bs' : Nat} (h1 : bc' ≤ bc) (h2 : bs' ≤ bs) (k : yL p l e s m below meth c b G bc' bs' pc n st h) : yL p l e s m below meth c b G bc bs pc n st h :=
  fun H locs cells slots ls hc hs hl hR hS => k H locs cells slots ls (by omega) (by omega) hl hR hS
set_option maxRecDepth 20000 in
theorem y_a1 (C : yC p s m meth c b Ln xs G) (hd : decode code pc = .ok (.aload_n 1, 1)) (k : yL p l e s m below meth c b G bc bs (pc + 1) n (tR 0 :: st) h) : yL p l e s m below meth c b G bc bs pc n st h :=
  fun H locs cells slots ls hc hs hl hR hS => lv_aload_n C.1.1 C.1.2.1 hd rfl (lv_at hl 2 rfl) (k H locs cells slots ls hc hs hl hR hS)
set_option maxRecDepth 20000 in
theorem y_a2 (C : yC p s m meth c b Ln xs G) (hd : decode code pc = .ok (.aload_n 2, 1)) (k : yL p l e s m below meth c b G bc bs (pc + 1) n (tR 168 :: st) h) : yL p l e s m below meth c b G bc bs pc n st h :=
  fun H locs cells slots ls hc hs hl hR hS => lv_aload_n C.1.1 C.1.2.1 hd rfl (lv_at hl 1 rfl) (k H locs cells slots ls hc hs hl hR hS)
set_option maxRecDepth 20000 in
theorem y_sld {j : Nat} {a : Int} (C : yC p s m meth c b Ln xs G) {H : Heap} {locs : List Loc} {cells slots : Nat} {ls : Array Slot} {rest : List Value} (hS : va_S (tmA s.heap.size) s.heap H locs) (ha : a = (j : Int)) (hj : j < Ln) (hd : decode code pc = .ok (.iaload, 1)) {Q : State → Prop}
    (k : W p l e room_1 s m #[Value.ref b] below meth c H locs cells slots Q (F0 m (pc + 1) ls (tmt s.heap.size (tI (xs j).toInt) :: rest))) : W p l e room_1 s m #[Value.ref b] below meth c H locs cells slots Q (F0 m pc ls (.int (Int32.ofInt a) :: .ref b :: rest)) := by
  subst ha
  have h4 := C.2.2.2
  have cl : (Int32.ofInt (j : Int)).toNatClampNeg = j := nI_clamp (by omega)
  have ps : ¬ Int32.ofInt (j : Int) < 0 := nI_pos (by omega)
  refine va_sld (A := tmA s.heap.size) C.1.1 C.1.2.1 C.2.1 C.2.2.1 (Nat.not_le.mpr C.2.2.1) hS (i := Int32.ofInt (j : Int)) (fun z => z.elim ps (fun q => by rw [cl] at q; omega)) hd ?_
  rw [cl]
  have e1 : tmt s.heap.size (tI (xs j).toInt) = .int (xs j) := by
    show Value.int (Int32.ofInt (xs j).toInt) = _
    rw [Int32.ofInt_toInt]
  rw [e1] at k
  exact k
-- the script at n + q
set_option maxRecDepth 20000 in
theorem y_sc (C : yC p s m meth c b Ln xs G) (q : Nat) {pc1 pc2 pc3 pc4 pc5 : Nat} (e1 : pc1 = pc + 1) (e2 : pc2 = pc + 2) (e3 : pc3 = pc + 3) (e4 : pc4 = pc + 4) (e5 : pc5 = pc + 5) (d0 : decode code pc = .ok (.aload_n 0, 1)) (d1 : decode code pc1 = .ok (.iload_n 3, 1)) (d2 : decode code pc2 = .ok (.iconst (q : Int), 1)) (d3 : decode code pc3 = .ok (.iadd, 1)) (d4 : decode code pc4 = .ok (.iaload, 1)) (hq : n + q < Ln)
    (k : yL p l e s m below meth c b G bc bs pc5 n (tI (xs (n + q)).toInt :: st) h) : yL p l e s m below meth c b G bc bs pc n st h := by
  intro H locs cells slots ls hc hs hl hR hS
  subst e1; subst e2; subst e3; subst e4; subst e5
  have k2 := k H locs cells slots ls hc hs hl hR hS
  refine lv_aload_n C.1.1 C.1.2.1 d0 rfl (lv_at hl 3 rfl) ?_
  refine lv_iload_n C.1.1 C.1.2.1 d1 rfl (lv_at hl 0 rfl) ?_
  refine lv_iconst C.1.1 C.1.2.1 d2 rfl ?_
  refine lv_iadd C.1.1 C.1.2.1 d3 ?_
  rw [← Int32.ofInt_add]
  exact y_sld C hS (show (n : Int) + (q : Int) = ((n + q : Nat) : Int) by omega) hq d4 k2
set_option maxRecDepth 20000 in
theorem y_call {y : MethodName} {My : tmMS} {na idx d' mc ms i ci : Nat} {av st' : List tmV} {Qc : Option tmV → tmH → Prop} (C : yC p s m meth c b Ln xs G) (hd : decode code pc = .ok (.invokevirtual idx, 3)) (hk : tmKV y My na) (hl : Cond.methodLink RL idx y ∈ tmT) (hci : ∃ T N, vwCl[ci]? = some (y.cls, T, N) ∧ ci < 13) (ho : tmObj h.1 i ci) (hC : tmC y My d' mc ms (tR i :: av) h Qc) (hdp : d' < 1000) (hn : av.length = na) (hst : st' = av.reverse ++ tR i :: st) (hcat : (st.map fun v => if tmIsL (some v) then 2 else 1).sum ≤ 8)
    (kk : ∀ (r : Option tmV) (h' : tmH), Qc r h' → yL p l e s m below meth c b G bc bs (pc + 3) n (tmPush r st) h') : yL p l e s m below meth c b G (bc + mc) (bs + ms) pc n st' h := by
  subst hst
  intro H locs cells slots ls hc hs hl' hR hS
  have X := C.1
  have hts := X.2.2.2.2.2.2.1
  obtain ⟨T, N, c1, c7⟩ := hci
  have hK := X.2.2.2.2.2.2.2.1.1
  have hmx := hk.1.2.2.2
  have cw : CallW room_1 s #[Value.ref b] RL y.cls idx y My.2.1 My.2.2.1 My.2.2.2.1 (tmWs y My) (tmRm d' mc ms) mc ms na :=
    ⟨callB_of na hts (tm_goodC hk.1) rfl rfl rfl (hts _ hk.1.2.1) (hts _ hl) hk.1.2.2.1 ⟨by show d' + 1 ≤ 2048; omega, by show 8 + (My.2.2.1 + 11) + 64 * d' ≤ 84000; omega⟩, hts _ hk.2.1, hts _ hk.2.2⟩
  have hrun := va_runV (b := s.heap.size + i) (As := av.map (tmt s.heap.size)) (rest := st.map (tmt s.heap.size)) (g := F0 m pc ls ((av.reverse ++ tR i :: st).map (tmt s.heap.size))) (cells := cells) (slots := slots) (locs := locs) (below := below) (e := e) (meth := meth) (H := H) ⟨X.1, X.2.1, X.2.2.1, X.2.2.2.2.2.1, hts⟩ (hC l s.heap.size G) cw
    ⟨tm_blind, va_recv hK hR.2.1 c1 (tmw_get ho.1 (tmc_obj ho.2 c7)), fun U hU hW => ⟨rfl, X.2.2.2.2.2.2.2.1.go hW hU hS, by rw [hU]; exact hR⟩⟩ rfl (by rw [List.length_map]; exact hn) hl'.1 (by simp [tmt]) (lv_room (m := m) (pc := pc) (ls := ls) (rest := []) (tm_cat hcat)) hd ⟨by show cells + mc ≤ 600000; omega, by show slots + ms ≤ 7302250; omega⟩
  exact tm_cont hrun hS (fun r h' H1 locs1 hq hR1 hS1 => kk r h' hq H1 locs1 (cells + mc) (slots + ms) ls (by omega) (by omega) hl' hR1 hS1)
set_option maxRecDepth 20000 in
theorem y_eq {a : Int} (C : yC p s m meth c b Ln xs G) {off : Int} (tgt : Nat) (hd : decode code pc = .ok (.if_icmp .eq off, 3)) (ht : (pc : Int) + off = (tgt : Int)) (k : yL p l e s m below meth c b G bc bs tgt n st h) : yL p l e s m below meth c b G bc bs pc n (tI a :: tI a :: st) h :=
  fun H locs cells slots ls hc hs hl hR hS => lv_icmp_eq C.1.1 C.1.2.1 hd ht (fun _ => k H locs cells slots ls hc hs hl hR hS) (fun z => absurd rfl z)
set_option maxRecDepth 20000 in
theorem y_leq {a : Int64} (C : yC p s m meth c b Ln xs G) {off : Int} (tgt : Nat) (hd : decode code pc = .ok (.lcmp, 1)) (hd2 : decode code (pc + 1) = .ok (.ifCond .eq off, 3)) (ht : ((pc + 1 : Nat) : Int) + off = (tgt : Int)) (k : yL p l e s m below meth c b G bc bs tgt n st h) : yL p l e s m below meth c b G bc bs pc n (tL a :: tL a :: st) h := by
  intro H locs cells slots ls hc hs hl hR hS
  have e0 : lg_cmp a a = 0 := by
    unfold lg_cmp
    rw [if_neg (fun z => by rw [gt_iff_lt, Int64.lt_iff_toInt_lt] at z; omega), if_pos rfl]
  refine W.lcmp C.1.1 C.1.2.1 hd ?_
  rw [e0]
  exact lv_if_eq C.1.1 C.1.2.1 hd2 ht (fun _ => k H locs cells slots ls hc hs hl hR hS) (fun z => absurd rfl z)
end S99zr
set_option maxRecDepth 20000 in
theorem i32R (x : Int32) : inR x.toInt := ⟨by have := x.le_toInt; simpa using this, by have := x.toInt_lt; omega⟩
