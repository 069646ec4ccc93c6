/-! ===== 08: calls ===== -/
def tmPush : Option tmV → List tmV → List tmV
  | some v, l => v :: l
  | none, l => l
abbrev tmF (v : Option tmV) (h : tmH) : Option tmV → tmH → Prop := fun r h' => r = v ∧ h' = h
/-- a method that can be called: its words -/
def tmKW (y : MethodName) (My : tmMS) (n : Nat) : Prop :=
  Cond.code y My.2.1 My.2.2.1 My.2.2.2.1 ∈ tmT ∧ Cond.initialized y.cls ∈ tmT ∧ (y.cls ≠ "java/lang/invoke/MethodHandle" ∧ y.cls ≠ "java/lang/invoke/VarHandle" ∧ (parseMethodDescriptor y.desc).map (fun d => d.parameters.length) = some n) ∧ My.2.2.1 ≤ 45
def tmKV (y : MethodName) (My : tmMS) (n : Nat) : Prop := tmKW y My n ∧ Cond.instanceMethod y ∈ tmT ∧ Cond.selects y.cls y y ∈ tmT
def tmKS (y : MethodName) (My : tmMS) (n : Nat) : Prop := tmKW y My n ∧ Cond.static y ∈ tmT
def tmKI (y : MethodName) (My : tmMS) (n : Nat) : Prop := tmKW y My n ∧ Cond.instanceMethod y ∈ tmT ∧ y.name = "<init>" ∧ My.2.2.2.1 = none
theorem tm_blind {b0 : Nat} {G : tmG} {av : List tmV} {h : tmH} : FrameBlind (tmP b0 G av h) := fun a U g mk q => ⟨q.1, tmE.blind g mk a q.2.1, q.2.2⟩
theorem tm_goodC {y : MethodName} {My : tmMS} {n : Nat} (hk : tmKW y My n) : GoodIn tmT (tmWs y My) := fun w hw => by
  rcases List.mem_cons.mp hw with rfl | h
  · exact tmT_good _ hk.1
  · exact tmT_good _ h
theorem tm_cat {b0 : Nat} {st : List tmV} (h : (st.map fun v => if tmIsL (some v) then 2 else 1).sum ≤ 8) : ((st.map (tmt b0)).map fun v => v.category).sum ≤ 8 := by
  rw [List.map_map]
  have e : (fun v => v.category) ∘ tmt b0 = fun v => if tmIsL (some v) then 2 else 1 := by funext v; exact tmt_cat b0 v
  rw [e]; exact h
theorem tm_push {b0 : Nat} (r : Option tmV) (st : List tmV) : (r.map (tmt b0)).toList ++ st.map (tmt b0) = (tmPush r st).map (tmt b0) := by cases r <;> rfl
section WI
variable {M : tmMS} {d bc bs pc : Nat} {lv : List (Option tmV)} {st : List tmV} {h : tmH} {Q : Option tmV → tmH → Prop}
variable {y : MethodName} {My : tmMS} {n idx d' mc ms bc' bs' : Nat} {av : List tmV} {Qc : Option tmV → tmH → Prop}
theorem tm_cont {p : Program} {l : Launch} {e : Env} {R : Room} {s : State} {m : MethodId} {args : Array Value} {below : List Frame} {meth : Method} {c : Code} {H : Heap} {locs : List Loc} {cells slots b0 : Nat} {G : tmG} {ls : Array Slot} {st0 : List Value} {a : Array Value} {Z : State → Prop}
    (hr : va_Run p l e R s m args below meth c H locs cells slots mc ms (F0 m pc ls st0) (st.map (tmt b0)) (tmQ b0 G Qc a) (tmA b0)) (hS : va_S (tmA b0) s.heap H locs)
    (kk : ∀ (r : Option tmV) (h' : tmH) (H1 : Heap) (locs1 : List Loc), Qc r h' → tmR b0 G h' H1 → va_S (tmA b0) s.heap H1 locs1 → W p l e R s m args below meth c H1 locs1 (cells + mc) (slots + ms) Z (F0 m (pc + 3) ls ((tmPush r st).map (tmt b0)))) : W p l e R s m args below meth c H locs cells slots Z (F0 m pc ls st0) := by
  intro T hT X
  obtain ⟨v, st₀, t, T', L, h0, X', hL, e1, e2, ⟨⟨r, h', hv, hq, hR⟩, hz, hk⟩, stp⟩ := hr T hT X
  rw [h0] at hz hk
  have hv' : v = r.map (tmt b0) := by cases hv; rfl
  subst hv'
  obtain ⟨t2, a1, b1⟩ := kk r h' T'.heap (locs ++ L) hq (by rw [e1]; exact hR) ⟨Nat.le_trans hS.1 (by rw [e1]; exact hz), fun q h1 h2 => by rw [e1, hk q (Nat.lt_of_lt_of_le h1 hS.1) h2]; exact hS.2.1 q h1 h2, fun q hq => by
      rcases List.mem_append.mp hq with h | h
      · exact hS.2.2 q h
      · exact hL q h⟩ T' rfl X'
  rw [← tm_push] at a1
  exact ⟨t2, stp t2 a1, b1⟩
theorem wa_callV {i ci : Nat} (hd : decode M.2.1 pc = .ok (.invokevirtual idx, 3)) (hk : tmKV y My n) (hl : Cond.methodLink M.1 idx y ∈ tmT) (hci : ∃ T N, vwCl[ci]? = some (y.cls, T, N) ∧ ci < 13) (ho : tmObj h.1 i ci) (hC : tmC y My d' mc ms (tR i :: av) h Qc) (hdp : d' < d) (hn : av.length = n) (hcat : (st.map fun v => if tmIsL (some v) then 2 else 1).sum ≤ 8) (h1 : bc' + mc = bc) (h2 : bs' + ms = bs)
    (kk : ∀ (r : Option tmV) (h' : tmH), Qc r h' → tmW M d bc' bs' (pc + 3) lv (tmPush r st) h' Q) : tmW M d bc bs pc lv (av.reverse ++ tR i :: st) h Q := by
  intro p l e R s m args below meth c H locs cells slots b0 G ls X hc hs hl' hR hS
  have hts := X.2.2.2.2.2.2.1
  obtain ⟨T, N, c1, c7⟩ := hci
  have hK := X.2.2.2.2.2.2.2.1.1
  have hd1 := X.2.2.2.2.2.2.2.2.1
  have hd2 := X.2.2.2.2.2.2.2.2.2.1
  have hmx := hk.1.2.2.2
  have cw : CallW R s args M.1 y.cls idx y My.2.1 My.2.2.1 My.2.2.2.1 (tmWs y My) (tmRm d' mc ms) mc ms n :=
    ⟨callB_of n hts (tm_goodC hk.1) rfl rfl rfl (hts _ hk.1.2.1) (hts _ hl) hk.1.2.2.1 ⟨by show d' + 1 ≤ _; omega, by show 8 + (My.2.2.1 + 11) + 64 * d' ≤ _; omega⟩, hts _ hk.2.1, hts _ hk.2.2⟩
  have hrun := va_runV (b := b0 + i) (As := av.map (tmt b0)) (rest := st.map (tmt b0)) (g := F0 m pc ls ((av.reverse ++ tR i :: st).map (tmt b0))) (cells := cells) (slots := slots) (locs := locs) (below := below) (e := e) (meth := meth) (H := H) ⟨X.1, X.2.1, X.2.2.1, X.2.2.2.2.2.1, hts⟩ (hC l b0 G) cw
    ⟨tm_blind, va_recv hK hR.2.1 c1 (tmw_get ho.1 (tmc_obj ho.2 c7)), fun U hU hW => ⟨rfl, X.2.2.2.2.2.2.2.1.go hW hU hS, by rw [hU]; exact hR⟩⟩ rfl (by rw [List.length_map]; exact hn) hl'.1 (by simp [tmt]) (lv_room (m := m) (pc := pc) (ls := ls) (rest := []) (tm_cat hcat)) hd ⟨by omega, by omega⟩
  exact tm_cont hrun hS (fun r h' H1 locs1 hq hR1 hS1 => kk r h' hq p l e R s m args below meth c H1 locs1 (cells + mc) (slots + ms) b0 G ls X (by omega) (by omega) hl' hR1 hS1)
theorem wa_callS (hd : decode M.2.1 pc = .ok (.invokestatic idx, 3)) (hk : tmKS y My n) (hl : Cond.methodLink M.1 idx y ∈ tmT) (hC : tmC y My d' mc ms av h Qc) (hdp : d' < d) (hn : av.length = n) (hcat : (st.map fun v => if tmIsL (some v) then 2 else 1).sum ≤ 8) (h1 : bc' + mc = bc) (h2 : bs' + ms = bs)
    (kk : ∀ (r : Option tmV) (h' : tmH), Qc r h' → tmW M d bc' bs' (pc + 3) lv (tmPush r st) h' Q) : tmW M d bc bs pc lv (av.reverse ++ st) h Q := by
  intro p l e R s m args below meth c H locs cells slots b0 G ls X hc hs hl' hR hS
  have hts := X.2.2.2.2.2.2.1
  have hK := X.2.2.2.2.2.2.2.1.1
  have hd1 := X.2.2.2.2.2.2.2.2.1
  have hd2 := X.2.2.2.2.2.2.2.2.2.1
  have hmx := hk.1.2.2.2
  have cw : CallB R s args M.1 idx y My.2.1 My.2.2.1 My.2.2.2.1 (tmWs y My) (tmRm d' mc ms) mc ms n ∧ (Cond.static y).before args s = true :=
    ⟨callB_of n hts (tm_goodC hk.1) rfl rfl rfl (hts _ hk.1.2.1) (hts _ hl) hk.1.2.2.1 ⟨by show d' + 1 ≤ _; omega, by show 8 + (My.2.2.1 + 11) + 64 * d' ≤ _; omega⟩, hts _ hk.2⟩
  have hrun := va_runS (As := av.map (tmt b0)) (rest := st.map (tmt b0)) (g := F0 m pc ls ((av.reverse ++ st).map (tmt b0))) (cells := cells) (slots := slots) (locs := locs) (below := below) (e := e) (meth := meth) (H := H) ⟨X.1, X.2.1, X.2.2.1, X.2.2.2.2.2.1, hts⟩ (hC l b0 G) cw
    ⟨tm_blind, fun U hU hW => ⟨rfl, X.2.2.2.2.2.2.2.1.go hW hU hS, by rw [hU]; exact hR⟩⟩ rfl (by rw [List.length_map]; exact hn) hl'.1 (by simp) (lv_room (m := m) (pc := pc) (ls := ls) (rest := []) (tm_cat hcat)) hd ⟨by omega, by omega⟩
  exact tm_cont hrun hS (fun r h' H1 locs1 hq hR1 hS1 => kk r h' hq p l e R s m args below meth c H1 locs1 (cells + mc) (slots + ms) b0 G ls X (by omega) (by omega) hl' hR1 hS1)
theorem wa_callI {i : Nat} (hd : decode M.2.1 pc = .ok (.invokespecial idx, 3)) (hk : tmKI y My n) (hl : Cond.methodLink M.1 idx y ∈ tmT) (hC : tmC y My d' mc ms (tR i :: av) h Qc) (hdp : d' < d) (hn : av.length = n) (hcat : (st.map fun v => if tmIsL (some v) then 2 else 1).sum ≤ 8) (h1 : bc' + mc = bc) (h2 : bs' + ms = bs)
    (kk : ∀ (r : Option tmV) (h' : tmH), Qc r h' → tmW M d bc' bs' (pc + 3) lv (tmPush r st) h' Q) : tmW M d bc bs pc lv (av.reverse ++ tR i :: st) h Q := by
  intro p l e R s m args below meth c H locs cells slots b0 G ls X hc hs hl' hR hS
  have hts := X.2.2.2.2.2.2.1
  have hd1 := X.2.2.2.2.2.2.2.2.1
  have hd2 := X.2.2.2.2.2.2.2.2.2.1
  have hmx := hk.1.2.2.2
  have hno := hk.2.2.2
  have hws : tmWs y My = Cond.code y My.2.1 My.2.2.1 none :: tmT := by rw [tmWs, hno]
  have cw := cwI (R := R) (own := M.1) (index := idx) (mc := mc) (ms := ms) (rm := tmRm d' mc ms) n hts (tm_goodC hk.1) hws rfl rfl (hts _ hk.1.2.1) (hts _ hl) (hts _ hk.2.1) hk.2.2.1 hk.1.2.2.1 ⟨by show d' + 1 ≤ _; omega, by show 8 + (My.2.2.1 + 11) + 64 * d' ≤ _; omega⟩
  have hrun := va_runI (b := b0 + i) (As := av.map (tmt b0)) (rest := st.map (tmt b0)) (g := F0 m pc ls ((av.reverse ++ tR i :: st).map (tmt b0))) (cells := cells) (slots := slots) (locs := locs) (below := below) (e := e) (meth := meth) (H := H) ⟨X.1, X.2.1, X.2.2.1, X.2.2.2.2.2.1, hts⟩ (hC l b0 G) cw
    ⟨tm_blind, fun U hU hW => ⟨rfl, X.2.2.2.2.2.2.2.1.go hW hU hS, by rw [hU]; exact hR⟩⟩ rfl (by rw [List.length_map]; exact hn) hl'.1 (by simp [tmt]) (lv_room (m := m) (pc := pc) (ls := ls) (rest := []) (tm_cat hcat)) hd ⟨by omega, by omega⟩
  exact tm_cont hrun hS (fun r h' H1 locs1 hq hR1 hS1 => kk r h' hq p l e R s m args below meth c H1 locs1 (cells + mc) (slots + ms) b0 G ls X (by omega) (by omega) hl' hR1 hS1)
/-- a nest mate's private constructor -/
theorem wa_callIN {i : Nat} {host : String} (hd : decode M.2.1 pc = .ok (.invokespecial idx, 3)) (hk : tmKI y My n) (hl : ∀ (b0 : Nat) (G : tmG) (s : State), tmE b0 G s → va_Nw (.methodLinkNest M.1 idx y host) s) (hC : tmC y My d' mc ms (tR i :: av) h Qc) (hdp : d' < d) (hn : av.length = n) (hcat : (st.map fun v => if tmIsL (some v) then 2 else 1).sum ≤ 8) (h1 : bc' + mc = bc) (h2 : bs' + ms = bs)
    (kk : ∀ (r : Option tmV) (h' : tmH), Qc r h' → tmW M d bc' bs' (pc + 3) lv (tmPush r st) h' Q) : tmW M d bc bs pc lv (av.reverse ++ tR i :: st) h Q := by
  intro p l e R s m args below meth c H locs cells slots b0 G ls X hc hs hl' hR hS
  have hts := X.2.2.2.2.2.2.1
  have hd1 := X.2.2.2.2.2.2.2.2.1
  have hd2 := X.2.2.2.2.2.2.2.2.2.1
  have hmx := hk.1.2.2.2
  have hno := hk.2.2.2
  have hws : tmWs y My = Cond.code y My.2.1 My.2.2.1 none :: tmT := by rw [tmWs, hno]
  have cw := va_cnB (R := R) (args := args) (own := M.1) (index := idx) (host := host) (mc := mc) (ms := ms) (rm := tmRm d' mc ms) n hts (tm_goodC hk.1) hws rfl rfl (hl b0 G s X.2.2.2.2.2.2.2.1) (hts _ hk.1.2.1) hk.1.2.2.1 ⟨by show d' + 1 ≤ _; omega, by show 8 + (My.2.2.1 + 11) + 64 * d' ≤ _; omega⟩
  have hrun := va_runIN (b := b0 + i) (As := av.map (tmt b0)) (rest := st.map (tmt b0)) (g := F0 m pc ls ((av.reverse ++ tR i :: st).map (tmt b0))) (cells := cells) (slots := slots) (locs := locs) (below := below) (e := e) (meth := meth) (H := H) ⟨X.1, X.2.1, X.2.2.1, X.2.2.2.2.2.1, hts⟩ (hC l b0 G) ⟨cw, hk.2.2.1, hts _ hk.2.1⟩
    ⟨tm_blind, fun U hU hW => ⟨rfl, X.2.2.2.2.2.2.2.1.go hW hU hS, by rw [hU]; exact hR⟩⟩ rfl (by rw [List.length_map]; exact hn) hl'.1 (by simp [tmt]) (lv_room (m := m) (pc := pc) (ls := ls) (rest := []) (tm_cat hcat)) hd ⟨by omega, by omega⟩
  exact tm_cont hrun hS (fun r h' H1 locs1 hq hR1 hS1 => kk r h' hq p l e R s m args below meth c H1 locs1 (cells + mc) (slots + ms) b0 G ls X (by omega) (by omega) hl' hR1 hS1)
-- a contract whose answer and heap are told
theorem wa_callVf {i ci : Nat} {v : Option tmV} {h2 : tmH} {st' : List tmV} (hd : decode M.2.1 pc = .ok (.invokevirtual idx, 3)) (hk : tmKV y My n) (hl : Cond.methodLink M.1 idx y ∈ tmT) (hci : ∃ T N, vwCl[ci]? = some (y.cls, T, N) ∧ ci < 13) (ho : tmObj h.1 i ci) (hC : tmC y My d' mc ms (tR i :: av) h (tmF v h2)) (hdp : d' < d) (hn : av.length = n) (hst : st' = av.reverse ++ tR i :: st) (hcat : (st.map fun v => if tmIsL (some v) then 2 else 1).sum ≤ 8) (e1 : bc' + mc = bc) (e2 : bs' + ms = bs)
    (kk : tmW M d bc' bs' (pc + 3) lv (tmPush v st) h2 Q) : tmW M d bc bs pc lv st' h Q := by
  subst hst
  exact wa_callV hd hk hl hci ho hC hdp hn hcat e1 e2 (fun r h' hq => by obtain ⟨rfl, rfl⟩ := hq; exact kk)
theorem wa_callSf {v : Option tmV} {h2 : tmH} {st' : List tmV} (hd : decode M.2.1 pc = .ok (.invokestatic idx, 3)) (hk : tmKS y My n) (hl : Cond.methodLink M.1 idx y ∈ tmT) (hC : tmC y My d' mc ms av h (tmF v h2)) (hdp : d' < d) (hn : av.length = n) (hst : st' = av.reverse ++ st) (hcat : (st.map fun v => if tmIsL (some v) then 2 else 1).sum ≤ 8) (e1 : bc' + mc = bc) (e2 : bs' + ms = bs)
    (kk : tmW M d bc' bs' (pc + 3) lv (tmPush v st) h2 Q) : tmW M d bc bs pc lv st' h Q := by
  subst hst
  exact wa_callS hd hk hl hC hdp hn hcat e1 e2 (fun r h' hq => by obtain ⟨rfl, rfl⟩ := hq; exact kk)
theorem wa_callIf {i : Nat} {v : Option tmV} {h2 : tmH} {st' : List tmV} (hd : decode M.2.1 pc = .ok (.invokespecial idx, 3)) (hk : tmKI y My n) (hl : Cond.methodLink M.1 idx y ∈ tmT) (hC : tmC y My d' mc ms (tR i :: av) h (tmF v h2)) (hdp : d' < d) (hn : av.length = n) (hst : st' = av.reverse ++ tR i :: st) (hcat : (st.map fun v => if tmIsL (some v) then 2 else 1).sum ≤ 8) (e1 : bc' + mc = bc) (e2 : bs' + ms = bs)
    (kk : tmW M d bc' bs' (pc + 3) lv (tmPush v st) h2 Q) : tmW M d bc bs pc lv st' h Q := by
  subst hst
  exact wa_callI hd hk hl hC hdp hn hcat e1 e2 (fun r h' hq => by obtain ⟨rfl, rfl⟩ := hq; exact kk)
/-- another wish of the end -/
theorem tmC.weaken {Q2 : Option tmV → tmH → Prop} (hC : tmC y My d mc ms av h Q) (hq : ∀ r h', Q r h' → Q2 r h') : tmC y My d mc ms av h Q2 := by
  intro l b0 G
  have := hC l b0 G
  unfold Met at this ⊢
  intro p e ha hc hk s m args below hf happ hP hT
  obtain ⟨k, o, h1, h2, h3, hQ⟩ := this p e ha hc hk s m args below hf happ hP hT
  obtain ⟨⟨⟨r, h', w1, w2, w3⟩, w4⟩, w5⟩ := hQ
  exact ⟨k, o, h1, h2, h3, ⟨⟨r, h', w1, hq r h' w2, w3⟩, w4⟩, w5⟩
end WI
