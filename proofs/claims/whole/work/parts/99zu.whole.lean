/-! ===== 99zu: the law's beginning, and the claim ===== -/
section S99zu
variable {p : Program} {l : Launch} {e : Env} {s : State} {m : MethodId} {below : List Frame} {meth : Method} {c : Code} {b Ln : Nat} {xs : Nat → Int32} {G : tmG} {pc : Nat} {h : tmH} {H : Heap} {locs : List Loc} {cells slots : Nat} {ls : Array Slot} {Z : State → Prop}
set_option maxRecDepth 20000 in
theorem y_new {idx ci N : Nat} {K : String} {T : u_T} {t0 : Nat → FieldType} {rest : List Value} (C : yC p s m meth c b Ln xs G) (hd : decode code pc = .ok (.new idx, 3)) (hcl : tmCl ci K T N t0) (hlk : Cond.classLink RL idx K ∈ tmT) (hins : Cond.instantiable K N ∈ tmT) (hini : Cond.initialized K ∈ tmT) (hR : tmR s.heap.size G h H) (hS : va_S (tmA s.heap.size) s.heap H locs) (hc : cells + 1 ≤ 600000) (hs : slots + N ≤ 7302250)
    (kk : ∀ H1 : Heap, tmR s.heap.size G (tmNew h ci 0) H1 → va_S (tmA s.heap.size) s.heap H1 locs → W p l e room_1 s m #[Value.ref b] below meth c H1 locs (cells + 1) (slots + N) Z (F0 m (pc + 3) ls (.ref (s.heap.size + h.1.1) :: rest))) : W p l e room_1 s m #[Value.ref b] below meth c H locs cells slots Z (F0 m pc ls rest) := by
  have X := C.1
  obtain ⟨c1, c2, c3, c4, c5, c6, c7⟩ := hcl
  have hts := X.2.2.2.2.2.2.1
  have hKn := X.2.2.2.2.2.2.2.1.1.1 ci _ c1
  refine W.newcK X.1 X.2.1 X.2.2.2.2.2.1 (hts _ hlk) (hts _ hins) (hts _ hini) rfl hd hc hs hKn.2.1 (h := s.heap.size + h.1.1) hR.1 fun H1 kC hkC e1 z1 o1 => ?_
  have z1' : H1.size = H.size + 1 := by rw [z1, hR.1]
  have o1' : ∀ q : Nat, q < H.size → H1[q]? = H[q]? := fun q hq => o1 q (by rw [← hR.1]; exact hq)
  refine kk H1 (hR.new z1' o1' ?_) (hS.grow z1' o1')
  rw [tmc_obj (ci := ci) (by simp [tmNew, va_up]) c7]
  refine ⟨_, c1, (u_born t0 hts c2 hKn hkC e1 c3).to (fun k hk => ?_)⟩
  obtain ⟨ty, g1, g2⟩ := c5 k hk
  rw [tm_dflt (b0 := s.heap.size) (h := h) (kd := ci) (len := 0) (k := k) g2]
  have := tmfs_get (b0 := s.heap.size) (h := tmNew h ci 0) (i := h.1.1) (tmft ci) 0 k ty g1
  rw [Nat.zero_add] at this
  simp [vp_V, List.getD_eq_getElem?_getD, this]
set_option maxRecDepth 20000 in
theorem y_callI {y : MethodName} {My : tmMS} {na idx d' mc ms i : Nat} {av st : List tmV} {Qc : Option tmV → tmH → Prop} (C : yC p s m meth c b Ln xs G) (hd : decode code pc = .ok (.invokespecial idx, 3)) (hk : tmKI y My na) (hl : Cond.methodLink RL idx y ∈ tmT) (hC : tmC y My d' mc ms (tR i :: av) h Qc) (hdp : d' < 1000) (hn : av.length = na) (hcat : (st.map fun v => if tmIsL (some v) then 2 else 1).sum ≤ 8) (hls : ls.size = 4) (hR : tmR s.heap.size G h H) (hS : va_S (tmA s.heap.size) s.heap H locs) (hc : cells + mc ≤ 600000) (hs : slots + ms ≤ 7302250)
    (kk : ∀ (r : Option tmV) (h' : tmH) (H1 : Heap) (locs1 : List Loc), Qc r h' → tmR s.heap.size G h' H1 → va_S (tmA s.heap.size) s.heap H1 locs1 → W p l e room_1 s m #[Value.ref b] below meth c H1 locs1 (cells + mc) (slots + ms) Z (F0 m (pc + 3) ls ((tmPush r st).map (tmt s.heap.size)))) : W p l e room_1 s m #[Value.ref b] below meth c H locs cells slots Z (F0 m pc ls ((av.reverse ++ tR i :: st).map (tmt s.heap.size))) := by
  have X := C.1
  have hts := X.2.2.2.2.2.2.1
  have hmx := hk.1.2.2.2
  have hno := hk.2.2.2
  have hws : tmWs y My = Cond.code y My.2.1 My.2.2.1 none :: tmT := by rw [tmWs, hno]
  have cw := cwI (R := room_1) (own := RL) (index := idx) (mc := mc) (ms := ms) (rm := tmRm d' mc ms) na hts (tm_goodC hk.1) hws rfl rfl (hts _ hk.1.2.1) (hts _ hl) (hts _ hk.2.1) hk.2.2.1 hk.1.2.2.1 ⟨by show d' + 1 ≤ 2048; omega, by show 8 + (My.2.2.1 + 11) + 64 * d' ≤ 84000; omega⟩
  have hrun := va_runI (b := s.heap.size + i) (As := av.map (tmt s.heap.size)) (rest := st.map (tmt s.heap.size)) (g := F0 m pc ls ((av.reverse ++ tR i :: st).map (tmt s.heap.size))) (cells := cells) (slots := slots) (locs := locs) (below := below) (e := e) (meth := meth) (H := H) ⟨X.1, X.2.1, X.2.2.1, X.2.2.2.2.2.1, hts⟩ (hC l s.heap.size G) cw
    ⟨tm_blind, fun U hU hW => ⟨rfl, X.2.2.2.2.2.2.2.1.go hW hU hS, by rw [hU]; exact hR⟩⟩ rfl (by rw [List.length_map]; exact hn) hls (by simp [tmt]) (lv_room (m := m) (pc := pc) (ls := ls) (rest := []) (tm_cat hcat)) hd ⟨hc, hs⟩
  exact tm_cont hrun hS kk
end S99zu
set_option maxRecDepth 20000 in
theorem hzNil : HZ [] [] I00 L00 := ⟨fun _ h => (by cases h), fun _ _ => rfl, fun _ _ => rfl⟩
set_option maxHeartbeats 4000000 in
set_option maxRecDepth 20000 in
theorem whole_start {p : Program} {e : Env} {s : State} {m : MethodId} {below : List Frame} {meth : Method} {c : Code} (l : Launch) (hflags : l.flags = flags0) {b L : Nat} {xs : Nat → Int32} (hL : L ≤ 2048) (C0 : lw_At p s m meth c b L xs) : W p l e room_1 s m #[Value.ref b] below meth c s.heap [] 0 0 (lw_Z below #[Value.ref b] s) (entryFrame m ([Value.ref b] : List Value).toArray 4) := by
  obtain ⟨G, C, hR⟩ := y_start hL C0
  have hl := lv_entry ([.ref b]) (n := 4) (Nat.le_of_ble_eq_true rfl)
  rw [lg_entry_eq]
  generalize (lg_sl ([.ref b]) ++ List.replicate (4 - (lg_sl ([.ref b])).length) Slot.unset).toArray = ls at hl ⊢
  have hl : lv_has ls 4 [(0, .ref b)] := hl
  have hS : va_S (tmA s.heap.size) s.heap s.heap [] := va_S.rf
  refine y_new C dL_law_0 CL11 NL_7 IX11 JX11 hR hS (Nat.le_of_ble_eq_true rfl) (Nat.le_of_ble_eq_true rfl) (fun H1 hR1 hS1 => ?_)
  rw [HB_new hzNil] at hR1
  refine lv_dup C.1.1 C.1.2.1 dL_law_3 rfl ?_
  refine y_callI (i := 0) (av := []) (st := [tR 0]) C dL_law_4 KX11_init LL_9 c_iX11 (by decide) rfl (Nat.le_of_ble_eq_true rfl) hl.1 hR1 hS1 (Nat.le_of_ble_eq_true rfl) (Nat.le_of_ble_eq_true rfl) (fun r h' H2 locs2 hq hR2 hS2 => ?_)
  obtain ⟨rfl, rfl, hz, hn⟩ := hq
  refine lv_astore_n C.1.1 C.1.2.1 dL_law_7 rfl hl (by decide) rfl (fun ls1 hl1 => ?_)
  refine y_new C dL_law_8 CL12 NL_10 IX12 JX12 hR2 hS2 (Nat.le_of_ble_eq_true rfl) (Nat.le_of_ble_eq_true rfl) (fun H3 hR3 hS3 => ?_)
  rw [HB_new hz] at hR3
  rw [show (HB K11 R11, I11, L00).1.1 = 168 from hn]
  refine lv_dup C.1.1 C.1.2.1 dL_law_11 rfl ?_
  refine y_callI (i := 168) (av := []) (st := [tR 168]) C dL_law_12 KX12_init LL_12 (c_iX12 (hz.k _) (ln_s hn _) (ob_n hn)) (by decide) rfl (Nat.le_of_ble_eq_true rfl) hl1.1 hR3 hS3 (Nat.le_of_ble_eq_true rfl) (Nat.le_of_ble_eq_true rfl) (fun r h' H4 locs4 hq hR4 hS4 => ?_)
  obtain ⟨rfl, rfl, hz4, hn4⟩ := hq
  have eK : K11 ++ [(12, 0)] ++ xkM = K12 := by unfold K12; rw [List.append_assoc]; rfl
  rw [eK] at hR4
  refine lv_astore_n C.1.1 C.1.2.1 dL_law_15 rfl hl1 (by decide) rfl (fun ls2 hl2 => ?_)
  refine lv_iconst C.1.1 C.1.2.1 dL_law_16 rfl ?_
  refine lv_istore_n C.1.1 C.1.2.1 dL_law_17 rfl hl2 (by decide) rfl (fun ls3 hl3 => ?_)
  exact law_loop C 512 0 S12 I12 L00 A00 rfl CR12 MR12 H4 locs4 _ _ ls3 (Nat.le_of_ble_eq_true rfl) (Nat.le_of_ble_eq_true rfl) hl3 hR4 hS4
set_option maxHeartbeats 4000000 in
set_option maxRecDepth 20000 in
theorem lw_walk (l : Launch) (hflags : l.flags = flags0) (b : Addr) (xs : List Int32) : MetFree l x (headSpec (Jvm.Cond.code x code maxLocals ret :: tables_1) room_1) (lw_P b xs) (fun _ _ _ _ _ => True) lw_Q := by
  refine MetFree.of_bodyS (code := code) (maxLocals := maxLocals) (ret := ret) (by decide) ?_ ?_
  · intro args s m h hn
    obtain ⟨meth, c, h1, h2, h3, h4, h5, h6, -, -⟩ := Cond.code_spec hn (atoms_spec (ws := Jvm.Cond.code x code maxLocals ret :: tables_1) h _ List.mem_cons_self)
    exact ⟨meth, c, h1, h2, h3, h4, h5, h6⟩
  · intro p e s m args below meth c s₁ B hml0 hP _
    obtain ⟨rfl, hx, hbd, hgv⟩ := hP
    obtain ⟨scr, harrAt, hlist, hof, hsmall⟩ := hx
    obtain ⟨hcb, hkn, -, -⟩ := State.arrayAt?_spec harrAt
    have hown : s.vm.findClass R_law = some m.cls := findClass_of_methodNamed B.named
    have hts0 : ∀ c ∈ (Jvm.Cond.code x code maxLocals ret :: tables_1), c.before #[Value.ref b] s = true := atoms_spec (ws := Jvm.Cond.code x code maxLocals ret :: tables_1) B.pre
    have hts : ∀ w ∈ lw_tbl, w.before #[Value.ref b] s = true := k2_hts_sels lw_privs (fun w hw => hts0 w (List.mem_cons_of_mem _ hw)) lw_privs_ok
    have hml : c.maxLocals = 4 := B.maxLocals_eq (hts0 _ List.mem_cons_self)
    have X₀ : Stand p l e room_1 s m #[Value.ref b] below meth c s₁ [] 0 0 := Stand.of_body B
    have hh0 : s₁.heap = s.heap := by rw [B.state]; rfl
    have hsz : scr.slots.size = xs.length := by rw [← Array.length_toList, hlist, List.length_map]
    have hval : ∀ j : Nat, j < xs.length → scr.slots[j]? = some (.int (xs.getD j 0)) := fun j hj => by
      rw [← Array.getElem?_toList, hlist]
      simp [hj]
    have hbl : b < s.heap.size := (Array.getElem?_eq_some_iff.mp hcb).1
    have hX : va_X b xs.length (fun j => xs.getD j 0) s s.heap := ⟨scr, hcb, hof, hkn, hsz, hval⟩
    have K : W p l e room_1 s m #[Value.ref b] below meth c s₁.heap [] 0 0 (lw_Z below #[Value.ref b] s) (entryFrame m ([Value.ref b] : List Value).toArray 4) := by
      rw [hh0]
      exact whole_start l hflags hbd ⟨B.exec, B.bytes, B.returns, hml, hown, hts, hX, hbl, B.notSynchronized, hgv⟩
    obtain ⟨t, a1, o, b1, b2, b3⟩ := K s₁ rfl X₀
    exact ⟨t, o, a1, b1, b2, b3⟩
set_option maxRecDepth 20000 in
theorem lw_pre_spec {args : Array Value} {s : State} (h : (Jvm.Cond.and given_1 narrow_1).before args s = true) (hr : rest_1_c.before args s = true) : ∃ (b : Addr) (xs : List Int32), lw_P b xs args s := by
  have hs := flat_of_before _ h
  have hq := flat_of_before _ hr
  have hc : (Cond.count 1).before args s = true := hs _ (by decide +kernel)
  have harr : (Cond.arrayOf (.arg 0) .int).before args s = true := hs _ (by decide +kernel)
  have hle : (Cond.le (.length (.arg 0)) (.int 2048)).before args s = true := hs _ (by decide +kernel)
  have hlen : (Cond.isInt (.length (.arg 0))).before args s = true := hq _ (by decide +kernel)
  have hall : (Cond.all (.arg 0) (.isInt (.elem (.arg 0) (.index 0)))).before args s = true := hq _ (by decide +kernel)
  obtain ⟨b, xs, hb, hx⟩ := State.ints_of_pre rfl harr hlen hall
  have hsm : xs.length < 2 ^ 31 := hx.choose_spec.2.2.2
  have hev : (Term.length (.arg 0)).eval args s none [] s = some (.int xs.length.toInt32) := hx.length_eval hb
  have hv := Cond.le_ints hev (show (Term.int 2048).eval args s none [] s = some (.int 2048) from rfl)
  have hd : xs.length.toInt32 ≤ 2048 := by
    simpa [Cond.before, Cond.holds, hv] using hle
  have hN : xs.length ≤ 2048 := (Int32.ofNat_le_ofNat hsm (by decide)).mp (show Int32.ofNat xs.length ≤ Int32.ofNat 2048 from hd)
  exact ⟨b, xs, Cond.one_arg hc (show args[0]? = some (.ref b) from hb), hx, hN, h⟩
set_option maxRecDepth 20000 in
theorem lw_comes (l : Launch) (hflags : l.flags = flags0) : Comes l x (Jvm.Cond.code x code maxLocals ret :: tables_1) room_1 (fun tb e args s => Calls_1 tb e args s ∧ rest_1 tb e args s ∧ Pre_1 tb e args s)
    (fun _ _ args s o t => lw_Q args s o t) := by
  intro p e ha hc hk s m args below hf hfit hheap happ hpre
  obtain ⟨b, xs, hP⟩ := lw_pre_spec hpre.2.2 hpre.2.1
  obtain ⟨k, o, h1, h2, h3, hQ⟩ := lw_walk l hflags b xs p e ha hc hk s m args below hf ((Spec.applies_iff_loose hf).mp happ).1 hP trivial
  exact ⟨k, o, h1, h2, h3, hQ⟩
set_option maxRecDepth 20000 in
theorem lw_frame {s t : State} {o : Outcome} {args : Array Value} (h : Framed s o t [] 600000 7302250) :
    Framed s o t (fieldLocs frame_1_writes args s ++ arrayLocs frame_1_arrays args s ++ staticLocs frame_1_statics s) 600000 7302250 := h
set_option maxRecDepth 20000 in
theorem lw_limb (L : Cond) (hL : ∀ (args : Array Value) (s t : State), L.after args s (.returned (some (.int 1))) t = true) :
    ArmFor flags0 classFile x code maxLocals ret World_1 tables_1 room_1 Calls_1 rest_1 Pre_1
      (fun tb e a s o t => postC L tb e a s o t ∧ Framed s o t (fieldLocs frame_1_writes a s ++ arrayLocs frame_1_arrays a s ++ staticLocs frame_1_statics s) 600000 7302250) := by
  intro l hflags _ _ p e ha hc hk s m args below hf hfit hheap happ hpre
  obtain ⟨k, o, h1, h2, h3, rfl, hF⟩ := lw_comes l hflags p e ha hc hk s m args below hf hfit hheap happ hpre
  exact ⟨k, _, h1, h2, h3, hL args s _, lw_frame hF⟩
set_option maxRecDepth 20000 in
theorem i_vc : Claimed_1_1 ∧ Claimed_1_2 := ⟨lw_limb limb_1_1 (fun args s t => by simp [limb_1_1, Cond.after, Cond.holds, Cond.value]), lw_limb limb_1_2 (fun args s t => Cond.after_iff.mpr (by
  first | (rw [show limb_1_2 = Cond.eq .result (.int 1) from rfl, Cond.eq_ints (x := 1) (y := 1) rfl rfl]; simp; done) | (simp [limb_1_2, Cond.value, Term.eval]; done)))⟩
