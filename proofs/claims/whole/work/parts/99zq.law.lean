/-! ===== 99zq: the law: what holds at its entry (from the skeleton), and my layer's words there ===== -/
def R_law : String := "TriggerMatchesLaw"
def lw_P (b : Addr) (xs : List Int32) (args : Array Value) (s : State) : Prop := args = #[.ref b] ∧ s.IntsAt b xs ∧ xs.length ≤ 2048 ∧ (Jvm.Cond.and given_1 narrow_1).before args s = true
def lw_Q (_ : Array Value) (s : State) (o : Outcome) (t : State) : Prop := o = .returned (some (.int 1)) ∧ Framed s o t [] 600000 7302250
def lw_Z (below : List Frame) (a : Array Value) (s : State) : State → Prop := fun t => ∃ o, t.status = .running ∧ Ended t below o ∧ lw_Q a s o t
-- the law's own end, with 1 on the stack, nothing written that was there before, its room as the claim has it
set_option maxRecDepth 20000 in
theorem lw_ret {p : Program} {l : Launch} {e : Env} {s : State} {m : MethodId} {below : List Frame} {meth : Method} {c : Code} {b : Nat} (hx : p.tables.exec = Jvm.exec) (hb : c.code = code) (hr : meth.sig.returnType = ret) (hlocks : meth.locks = false) {pc : Nat} {H : Heap} {ls : Array Slot} (hdg : decode code pc = .ok (.ireturn, 1)) : W p l e room_1 s m #[Value.ref b] below meth c H [] 600000 7302250 (lw_Z below #[Value.ref b] s) (F0 m pc ls [.int 1]) := by
  intro T hT X
  obtain ⟨fs, hret, hrun, hended, hW, hframe⟩ := X.leave (v := some (.int 1)) (hlocks := hlocks) (fun h => by rw [hr] at h; cases h)
  have hmeth' : T.vm.method? m = some meth := X.method'
  refine ⟨T.setFrames fs, ?_, .returned (some (.int 1)), hrun, hended, rfl, ⟨_, rfl⟩, hW, hframe⟩
  jvm_step X.here [X.here.top, hx, hb, hdg, hmeth', hr, ret, narrow_b1]
  (try refine ⟨rfl, ?_⟩); (try refine ⟨rfl, ?_⟩)
  first | (intro acts; rw [hret _ acts rfl rfl rfl]) | rw [hret _ _ rfl rfl rfl]
  exact Steps.refl _
/-- what holds at the law's entry: the machine, the code, the tables' words (any of lw_tbl by 'hts w (by decide +kernel)'), the script of L ints xs at the cell b, what the Statement gives of the start (any of its parts by flat_of_before) -/
def lw_At (p : Program) (s : State) (m : MethodId) (meth : Method) (c : Code) (b L : Nat) (xs : Nat → Int32) : Prop :=
  p.tables.exec = Jvm.exec ∧ c.code = code ∧ meth.sig.returnType = ret ∧ c.maxLocals = 4 ∧ s.vm.findClass R_law = some m.cls ∧ (∀ w ∈ lw_tbl, w.before #[Value.ref b] s = true) ∧ va_X b L xs s s.heap ∧ b < s.heap.size ∧ meth.locks = false ∧ (Jvm.Cond.and given_1 narrow_1).before #[Value.ref b] s = true
def kL : tmMS := (RL, code, 4, ret, false)
/-- what stays while the law is walked -/
def yC (p : Program) (s : State) (m : MethodId) (meth : Method) (c : Code) (b Ln : Nat) (xs : Nat → Int32) (G : tmG) : Prop :=
  tmX kL 1000 p room_1 s m #[Value.ref b] meth c s.heap.size G ∧ va_X b Ln xs s s.heap ∧ b < s.heap.size ∧ Ln ≤ 2048
set_option maxRecDepth 20000 in
theorem y_t1 {w : Cond} (i : Nat) (h : tables_1_1[i]? = some w) : w ∈ lw_tbl := List.mem_append_right _ (by unfold tables_1; simp only [List.mem_append]; exact Or.inl (List.mem_of_getElem? h))
set_option maxRecDepth 20000 in
theorem y_tt {w : Cond} (i : Nat) (h : tables_1[i]? = some w) : w ∈ lw_tbl := List.mem_append_right _ (List.mem_of_getElem? h)
set_option maxRecDepth 20000 in
theorem y_kn {s : State} {args : Array Value} (hts : ∀ w ∈ tmT, w.before args s = true) : ∀ (k : Nat) (q : vw_C), vwCl[k]? = some q → ∃ (cC : ClassId) (iS : Nat → Nat), u_Kn s q.1 q.2.1 q.2.2 cC iS := by
  intro k q hq
  match k, hq with
  | 0, hq => cases hq; exact u_known hts CL0.2.1 (hts _ IX0)
  | 1, hq => cases hq; exact u_known hts CL1.2.1 (hts _ IX1)
  | 2, hq => cases hq; exact u_known hts CL2.2.1 (hts _ IX2)
  | 3, hq => cases hq; exact u_known hts CL3.2.1 (hts _ IX3)
  | 4, hq => cases hq; exact u_known hts CL4.2.1 (hts _ IX4)
  | 5, hq => cases hq; exact u_known hts CL5.2.1 (hts _ IX5)
  | 6, hq => cases hq; exact u_known hts CL6.2.1 (hts _ IX6)
  | 7, hq => cases hq; exact u_known hts CL7.2.1 (hts _ IX7)
  | 8, hq => cases hq; exact u_known hts CL8.2.1 (hts _ IX8)
  | 9, hq => cases hq; exact u_known hts CL9.2.1 (hts _ IX9)
  | 10, hq => cases hq; exact u_known hts CL10.2.1 (hts _ IX10)
  | 11, hq => cases hq; exact u_known hts CL11.2.1 (hts _ IX11)
  | 12, hq => cases hq; exact u_known hts CL12.2.1 (hts _ IX12)
  | k + 13, hq => simp [vwCl] at hq
set_option maxRecDepth 20000 in
theorem y_ch {s : State} {args : Array Value} (c0 : ClassId) (hts : ∀ w ∈ tmT, w.before args s = true) : ∃ D : va_G, ∀ (k : Nat) (q : vw_C), vwCl[k]? = some q → u_Kn s q.1 q.2.1 q.2.2 (D.1 k) (D.2 k) := by
  have h : ∀ k : Nat, ∃ r : ClassId × (Nat → Nat), ∀ q : vw_C, vwCl[k]? = some q → u_Kn s q.1 q.2.1 q.2.2 r.1 r.2 := by
    intro k
    by_cases hk : ∃ q : vw_C, vwCl[k]? = some q
    · obtain ⟨q, hq⟩ := hk
      obtain ⟨c, i, hc⟩ := y_kn hts k q hq
      refine ⟨(c, i), fun q' hq' => ?_⟩
      rw [hq] at hq'
      cases hq'
      exact hc
    · exact ⟨(c0, fun _ => 0), fun q hq => absurd ⟨q, hq⟩ hk⟩
  exact ⟨(fun k => (Classical.choose (h k)).1, fun k => (Classical.choose (h k)).2), fun k => Classical.choose_spec (h k)⟩
set_option maxHeartbeats 4000000 in
set_option maxRecDepth 20000 in
theorem y_start {p : Program} {s : State} {m : MethodId} {meth : Method} {c : Code} {b Ln : Nat} {xs : Nat → Int32} (hL : Ln ≤ 2048) (C0 : lw_At p s m meth c b Ln xs) : ∃ G, yC p s m meth c b Ln xs G ∧ tmR s.heap.size G (HB [] [], I00, L00) s.heap := by
  obtain ⟨hx, hb, hr, hml, hown, hts, hX, hbl, hlocks, hgv⟩ := C0
  have htT : ∀ w ∈ tmT, w.before #[Value.ref b] s = true := fun w hw => hts w (List.mem_filter.mp hw).1
  obtain ⟨D, hD⟩ := y_ch m.cls htT
  obtain ⟨cI, kI, oI, i1, i2, i3⟩ := Cond.arrayClass_spec (htT _ Aint)
  obtain ⟨cJ, kJ, oJ, j1, j2, j3⟩ := Cond.arrayClass_spec (htT _ Along)
  have hov2 : (Cond.arrayOver (.object RX2)).before #[Value.ref b] s = true := hts _ (y_tt 84 (by decide +kernel))
  have hov6 : (Cond.arrayOver (.object RX6)).before #[Value.ref b] s = true := hts _ (y_tt 154 (by decide +kernel))
  obtain ⟨oP, cP, kkP, p1, -, p3, p4, p5⟩ := Cond.arrayOver_spec hov2
  obtain ⟨oQ, cQ, kkQ, q1, -, q3, q4, q5⟩ := Cond.arrayOver_spec hov6
  have hA : ∀ a : Nat, a < s.heap.size → ¬ tmA s.heap.size a := fun a h1 h2 => absurd h2 (Nat.not_le.mpr h1)
  have hfl := flat_of_before _ hgv
  have hel : ∀ j, j < 7 → Cond.eq (.elem (.field (.string RX9 134) "java/lang/String" "value" "[B") (.int (Int32.ofNat j))) (.int (([97, 98, 99, 100, 102, 103, 104] : List Int32).getD j 0)) ∈ flatC (Jvm.Cond.and given_1 narrow_1) := by decide +kernel
  obtain ⟨adK, adV, hS, hEv⟩ := vk_Sof (args := #[Value.ref b]) (s := s) (N := 1) (tm := fun _ => Term.string RX9 134) (len := [7]) (byt := [[97, 98, 99, 100, 102, 103, 104]]) (A := tmA s.heap.size)
    (fun i hi => by obtain rfl : i = 0 := by omega
                    decide)
    (fun i _ => hfl _ (by decide +kernel)) (fun i _ => hfl _ (by decide +kernel)) (fun i _ => hfl _ (by decide +kernel))
    (fun i hi => by obtain rfl : i = 0 := by omega
                    exact hfl _ (by decide +kernel))
    (fun i hi j hj => by obtain rfl : i = 0 := by omega
                         exact hfl _ (hel j hj))
    (fun i j h1 h2 h3 => absurd (show i = j by omega) h3) hA
  have e0 := hEv 0 (by decide)
  obtain ⟨a1, cl1, cA1, kA1, w1, -⟩ := Cond.exactly_spec (args := #[Value.ref b]) (first := s) (o := none) (s := s) (idx := []) (t := Term.string RX10 42) (cls := "java/lang/String") (hfl _ (by decide +kernel))
  have heq : (Cond.eq (Term.string RX9 134) (Term.string RX10 42)).before #[Value.ref b] s = true := hfl _ (by decide +kernel)
  have e1 : adK 0 = a1 := by
    simp only [Cond.before, Cond.holds, Cond.value, e0, w1] at heq
    simpa using heq
  subst e1
  refine ⟨(D, cI, cJ, cP, cQ), ⟨⟨hx, hb, hml, hr, hlocks, hown, htT, ⟨⟨hD, ?_⟩, va_AO.of hov2, va_AO.of hov6, va_tabs rfl rfl (hts _ (y_tt 38 (by decide +kernel))), va_tabs rfl rfl (hts _ (y_tt 339 (by decide +kernel))), ⟨adK, adV, hS, vk_R.of (hts _ (y_tt 781 (by decide +kernel))) e0, vk_R.of (hts _ (y_tt 886 (by decide +kernel))) w1⟩, va_Zof (hts _ (y_tt 791 (by decide +kernel))) (hts _ (y_tt 18 (by decide +kernel))) (va_eqt (hfl _ (by decide +kernel))) hA, va_Zqof (hts _ (y_tt 799 (by decide +kernel))) (hts _ (y_tt 20 (by decide +kernel))) (hfl _ (by decide +kernel)) hA⟩, Nat.le_of_ble_eq_true rfl, Nat.le_of_ble_eq_true rfl, Nat.le_refl _, fun h => by cases h⟩, hX, hbl, hL⟩, rfl, ?_, fun _ _ => (show inR 0 from ⟨by decide, by decide⟩)⟩
  · intro k q hq
    match k, hq with
    | 0, hq => cases hq; exact ⟨fun N z => ⟨(fun k h => by cases h), kI, i2, oI, i3⟩, i1⟩
    | 1, hq => cases hq; exact ⟨fun N z => ⟨(fun k h => by cases h), kJ, j2, oJ, j3⟩, j1⟩
    | 2, hq => cases hq; exact ⟨fun N z => ⟨(fun k h => by cases h), kkP, p3, oP, p4⟩, kkP, oP, p3, p4, p1, p5⟩
    | 3, hq => cases hq; exact ⟨fun N z => ⟨(fun k h => by cases h), kkQ, q3, oQ, q4⟩, kkQ, oQ, q3, q4, q1, q5⟩
    | k + 4, hq => simp [tmty] at hq
  · intro k q hq
    simp [tmw, HB] at hq
