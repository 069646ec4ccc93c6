/-! ===== 08b: the rows over a heap told by its parts; arraycopy ===== -/
section WT
variable {M : tmMS} {d bc bs pc : Nat} {lv : List (Option tmV)} {st : List tmV} {S : tmS} {I : Nat → Nat → Int} {L : Nat → Nat → Int64} {Q : Option tmV → tmH → Prop}
theorem wt_ir (k : tmIR I → tmW M d bc bs pc lv st (S, I, L) Q) : tmW M d bc bs pc lv st (S, I, L) Q := wa_ir k
theorem wt_getI {idx ci k i : Nat} (hd : decode M.2.1 pc = .ok (.getfield idx, 3)) (hf : tmFL M.1 idx ci k 0) (ho : tmObj S i ci) (kk : tmW M d bc bs (pc + 3) lv (tI (I i k) :: st) (S, I, L) Q) : tmW M d bc bs pc lv (tR i :: st) (S, I, L) Q := wa_getI hd hf ho kk
theorem wt_getZ {idx ci k i : Nat} (hd : decode M.2.1 pc = .ok (.getfield idx, 3)) (hf : tmFL M.1 idx ci k 3) (ho : tmObj S i ci) (kk : tmW M d bc bs (pc + 3) lv (tI (I i k) :: st) (S, I, L) Q) : tmW M d bc bs pc lv (tR i :: st) (S, I, L) Q := wa_getZ hd hf ho kk
theorem wt_getL {idx ci k i : Nat} (hd : decode M.2.1 pc = .ok (.getfield idx, 3)) (hf : tmFL M.1 idx ci k 2) (ho : tmObj S i ci) (kk : tmW M d bc bs (pc + 3) lv (tL (L i k) :: st) (S, I, L) Q) : tmW M d bc bs pc lv (tR i :: st) (S, I, L) Q := wa_getL hd hf ho kk
theorem wt_getR {idx ci k i a : Nat} (hd : decode M.2.1 pc = .ok (.getfield idx, 3)) (hf : tmFL M.1 idx ci k 1) (ho : tmObj S i ci) (hr : S.2.2.2 i k = some a) (kk : tmW M d bc bs (pc + 3) lv (tR a :: st) (S, I, L) Q) : tmW M d bc bs pc lv (tR i :: st) (S, I, L) Q := wa_getR hd hf ho hr kk
theorem wt_putI {idx ci k i : Nat} {a : Int} (hd : decode M.2.1 pc = .ok (.putfield idx, 3)) (hf : tmFL M.1 idx ci k 0) (hp : tmFP M.1 M.2.2.2.2 ci k) (ho : tmObj S i ci) (hx : inR a) (kk : tmW M d bc bs (pc + 3) lv st (S, va_up I i (va_up (I i) k a), L) Q) : tmW M d bc bs pc lv (tI a :: tR i :: st) (S, I, L) Q := wa_putI hd hf hp ho hx kk
theorem wt_putZ {idx ci k i : Nat} {a : Int} (hd : decode M.2.1 pc = .ok (.putfield idx, 3)) (hf : tmFL M.1 idx ci k 3) (hp : tmFP M.1 M.2.2.2.2 ci k) (ho : tmObj S i ci) (ha : a = 0 ∨ a = 1) (kk : tmW M d bc bs (pc + 3) lv st (S, va_up I i (va_up (I i) k a), L) Q) : tmW M d bc bs pc lv (tI a :: tR i :: st) (S, I, L) Q := wa_putZ hd hf hp ho ha kk
theorem wt_putL {idx ci k i : Nat} {a : Int64} (hd : decode M.2.1 pc = .ok (.putfield idx, 3)) (hf : tmFL M.1 idx ci k 2) (hp : tmFP M.1 M.2.2.2.2 ci k) (ho : tmObj S i ci) (kk : tmW M d bc bs (pc + 3) lv st (S, I, va_up L i (va_up (L i) k a)) Q) : tmW M d bc bs pc lv (tL a :: tR i :: st) (S, I, L) Q := wa_putL hd hf hp ho kk
theorem wt_putR {idx ci k i a : Nat} (hd : decode M.2.1 pc = .ok (.putfield idx, 3)) (hf : tmFL M.1 idx ci k 1) (hp : tmFP M.1 M.2.2.2.2 ci k) (ho : tmObj S i ci) (kk : tmW M d bc bs (pc + 3) lv st ((S.1, S.2.1, S.2.2.1, va_up S.2.2.2 i (va_up (S.2.2.2 i) k (some a))), I, L) Q) : tmW M d bc bs pc lv (tR a :: tR i :: st) (S, I, L) Q := wa_putR hd hf hp ho kk
theorem wt_iald {i nn : Nat} {a : Int} (j : Nat) (hd : decode M.2.1 pc = .ok (.iaload, 1)) (ho : tmArr S i 13 nn) (ha : a = (j : Int)) (hj : j < nn) (kk : tmW M d bc bs (pc + 1) lv (tI (I i j) :: st) (S, I, L) Q) : tmW M d bc bs pc lv (tI a :: tR i :: st) (S, I, L) Q := wa_iald j hd ho ha hj kk
theorem wt_lald {i nn : Nat} {a : Int} (j : Nat) (hd : decode M.2.1 pc = .ok (.laload, 1)) (ho : tmArr S i 14 nn) (ha : a = (j : Int)) (hj : j < nn) (kk : tmW M d bc bs (pc + 1) lv (tL (L i j) :: st) (S, I, L) Q) : tmW M d bc bs pc lv (tI a :: tR i :: st) (S, I, L) Q := wa_lald j hd ho ha hj kk
theorem wt_aaldP {i nn x : Nat} {a : Int} (j : Nat) (hd : decode M.2.1 pc = .ok (.aaload, 1)) (ho : tmArr S i 15 nn) (ha : a = (j : Int)) (hj : j < nn) (hr : S.2.2.2 i j = some x) (kk : tmW M d bc bs (pc + 1) lv (tR x :: st) (S, I, L) Q) : tmW M d bc bs pc lv (tI a :: tR i :: st) (S, I, L) Q := wa_aaldP j hd ho ha hj hr kk
theorem wt_aaldS {i nn x : Nat} {a : Int} (j : Nat) (hd : decode M.2.1 pc = .ok (.aaload, 1)) (ho : tmArr S i 16 nn) (ha : a = (j : Int)) (hj : j < nn) (hr : S.2.2.2 i j = some x) (kk : tmW M d bc bs (pc + 1) lv (tR x :: st) (S, I, L) Q) : tmW M d bc bs pc lv (tI a :: tR i :: st) (S, I, L) Q := wa_aaldS j hd ho ha hj hr kk
theorem wt_alen {i kd nn : Nat} (hd : decode M.2.1 pc = .ok (.arraylength, 1)) (ho : tmArr S i kd nn) (hk : kd = 13 ∨ kd = 14) (kk : tmW M d bc bs (pc + 1) lv (tI (nn : Int) :: st) (S, I, L) Q) : tmW M d bc bs pc lv (tR i :: st) (S, I, L) Q := wa_alen hd ho hk kk
theorem wt_iast {i nn : Nat} {a x : Int} (j : Nat) (hd : decode M.2.1 pc = .ok (.iastore, 1)) (ho : tmArr S i 13 nn) (ha : a = (j : Int)) (hj : j < nn) (hx : inR x) (kk : tmW M d bc bs (pc + 1) lv st (S, va_up I i (va_up (I i) j x), L) Q) : tmW M d bc bs pc lv (tI x :: tI a :: tR i :: st) (S, I, L) Q := wa_iast j hd ho ha hj hx kk
theorem wt_last {i nn : Nat} {a : Int} {x : Int64} (j : Nat) (hd : decode M.2.1 pc = .ok (.lastore, 1)) (ho : tmArr S i 14 nn) (ha : a = (j : Int)) (hj : j < nn) (kk : tmW M d bc bs (pc + 1) lv st (S, I, va_up L i (va_up (L i) j x)) Q) : tmW M d bc bs pc lv (tL x :: tI a :: tR i :: st) (S, I, L) Q := wa_last j hd ho ha hj kk
theorem wt_aast {i nn v kd ci : Nat} {a : Int} (j : Nat) (hd : decode M.2.1 pc = .ok (.aastore, 1)) (hkd : (kd = 15 ∧ ci = 2) ∨ (kd = 16 ∧ ci = 6)) (ho : tmArr S i kd nn) (hv : tmObj S v ci) (ha : a = (j : Int)) (hj : j < nn)
    (kk : tmW M d bc bs (pc + 1) lv st ((S.1, S.2.1, S.2.2.1, va_up S.2.2.2 i (va_up (S.2.2.2 i) j (some v))), I, L) Q) : tmW M d bc bs pc lv (tR v :: tI a :: tR i :: st) (S, I, L) Q := wa_aast j hd hkd ho hv ha hj kk
theorem va_cpy_of (f g : Nat → Int) (sp dp n : Nat) : (fun j => Int32.ofInt (va_cpy f g sp dp n j)) = va_cpy (fun j => Int32.ofInt (f j)) (fun j => Int32.ofInt (g j)) sp dp n := by
  funext j
  unfold va_cpy
  split <;> rfl
/-- System.arraycopy of ints, from place sp to place dp -/
theorem wt_copy {i0 i1 n0 n1 sp dp n idx : Nat} {asp adp an : Int} (hd : decode M.2.1 pc = .ok (.invokestatic idx, 3)) (hlk : Cond.methodLink M.1 idx arraycopyName ∈ tmT) (hn1 : Cond.native arraycopyName ∈ tmT) (hn2 : Cond.static arraycopyName ∈ tmT) (hn3 : Cond.initialized "java/lang/System" ∈ tmT) (h0 : tmArr S i0 13 n0) (h1 : tmArr S i1 13 n1) (e1 : asp = (sp : Int)) (e2 : adp = (dp : Int)) (e3 : an = (n : Int)) (h4 : sp + n ≤ n0) (h5 : dp + n ≤ n1) (hdp : 2 ≤ d) (hcat : (st.map fun v => if tmIsL (some v) then 2 else 1).sum ≤ 8)
    (kk : tmW M d bc bs (pc + 3) lv st (S, va_up I i1 (va_cpy (I i0) (I i1) sp dp n), L) Q) : tmW M d bc bs pc lv (tI an :: tI adp :: tR i1 :: tI asp :: tR i0 :: st) (S, I, L) Q := by
  intro p l e R s m args below meth c H locs cells slots b0 G ls X hc hs hl' hR hS
  subst e1; subst e2; subst e3
  obtain ⟨o1, o2, o3, o4⟩ := h0
  obtain ⟨p1, p2, p3, p4⟩ := h1
  have hts := X.2.2.2.2.2.2.1
  have hK := X.2.2.2.2.2.2.2.1.1
  have hd1 := X.2.2.2.2.2.2.2.2.1
  have hd2 := X.2.2.2.2.2.2.2.2.2.1
  have cl : ∀ k : Nat, k ≤ 2147483647 → (Int32.ofInt (k : Int)).toNatClampNeg = k := fun k hk => nI_clamp (by omega)
  have ps : ∀ k : Nat, k ≤ 2147483647 → ¬ Int32.ofInt (k : Int) < 0 := fun k hk => nI_pos (by omega)
  have toI : ∀ k : Nat, k ≤ 2147483647 → (Int32.ofInt (k : Int)).toInt = (k : Int) := fun k hk => nI_toInt (by omega)
  have hc0 : H[b0 + i0]? = some (vp_cell G.2.1 (n0, .inl (fun j => Int32.ofInt (I i0 j)))) := by
    have := hR.2.1 i0 _ (tmw_get o1 (tmc_i o2)); rw [o3] at this; exact this
  have hc1 : H[b0 + i1]? = some (vp_cell G.2.1 (n1, .inl (fun j => Int32.ofInt (I i1 j)))) := by
    have := hR.2.1 i1 _ (tmw_get p1 (tmc_i p2)); rw [p3] at this; exact this
  intro T hT Y
  obtain ⟨-, k0, hk0, cm0, hkk0⟩ := (hK.2 0 _ rfl).1 n0 (fun j => .int (Int32.ofInt (I i0 j)))
  obtain ⟨-, k1, hk1, cm1, hkk1⟩ := (hK.2 0 _ rfl).1 n1 (fun j => .int (Int32.ofInt (I i1 j)))
  have hcat' := tm_cat (b0 := b0) hcat
  have hnf : nativeFrameWords "java/lang/System" "arraycopy" 5 ≤ 40 := by decide +kernel
  obtain ⟨vm', Y', step⟩ := Y.arraycopy X.1 X.2.2.2.2.2.1 (hts _ hlk) (hts _ hn1) (hts _ hn2) (hts _ hn3) (src := b0 + i0) (dst := b0 + i1) (cs := vp_cell G.2.1 (n0, .inl (fun j => Int32.ofInt (I i0 j)))) (cd := vp_cell G.2.1 (n1, .inl (fun j => Int32.ofInt (I i1 j)))) (srcPos := Int32.ofInt (sp : Int)) (destPos := Int32.ofInt (dp : Int)) (n := Int32.ofInt (n : Int)) (by rw [hT]; exact hc0) (by rw [hT]; exact hc1)
    (fun _ h => by cases h) (fun _ h => by cases h) (fun h => by cases h) (fun h => by cases h) hk0 hk1 hkk0 hkk1 (by rfl) (ps _ (by omega)) (ps _ (by omega)) (ps _ (by omega))
    (by rw [toI sp (by omega), toI n (by omega)]; show ¬ _ > ((arrV _ n0 _).slots.size : Int); rw [arrV_size]; omega)
    (by rw [toI dp (by omega), toI n (by omega)]; show ¬ _ > ((arrV _ n1 _).slots.size : Int); rw [arrV_size]; omega)
    (fun vm₁ _ i hi => by
      rw [cl n (by omega)] at hi
      rw [cl sp (by omega)]
      have e : (vp_cell G.2.1 (n0, .inl (fun j => Int32.ofInt (I i0 j)))).slots.getD (sp + i) .null = .int (Int32.ofInt (I i0 (sp + i))) := by
        show (arrV _ n0 _).slots.getD _ _ = _
        rw [Array.getD_eq_getD_getElem?, arrV_read _ _ (by omega)]
        rfl
      exact ⟨by rw [e]; rfl, by rw [e]; exact trivial⟩)
    (g := F0 m pc ls ((tI (n : Int) :: tI (dp : Int) :: tR i1 :: tI (sp : Int) :: tR i0 :: st).map (tmt b0))) rfl (by rw [X.2.2.1]; exact hl'.1) (rest := st.map (tmt b0)) rfl (by rw [X.2.1]; exact hd) (by omega) (by show 2 * 0 + _ + (nativeFrameWords "java/lang/System" "arraycopy" 5 + 11) ≤ _; omega)
  have e2 : copied (vp_cell G.2.1 (n0, .inl (fun j => Int32.ofInt (I i0 j)))) (vp_cell G.2.1 (n1, .inl (fun j => Int32.ofInt (I i1 j)))) (Int32.ofInt (sp : Int)) (Int32.ofInt (dp : Int)) (Int32.ofInt (n : Int)) = vp_cell G.2.1 (n1, .inl (fun j => Int32.ofInt (va_cpy (I i0) (I i1) sp dp n j))) := by
    show (arrV G.2.1 n1 (fun j => .int (Int32.ofInt (I i1 j)))).storeRun (Int32.ofInt (dp : Int)).toNatClampNeg ((arrV G.2.1 n0 (fun j => .int (Int32.ofInt (I i0 j)))).stretch (Int32.ofInt (sp : Int)).toNatClampNeg (Int32.ofInt (n : Int)).toNatClampNeg) = _
    rw [cl sp (by omega), cl dp (by omega), cl n (by omega), va_copied (fun z => Value.int z) G.2.1 G.2.1 (fun j => Int32.ofInt (I i0 j)) (fun j => Int32.ofInt (I i1 j)) h4, va_cpy_of]
    rfl
  rw [e2] at Y' step
  have hlt : b0 + i1 < H.size := (Array.getElem?_eq_some_iff.mp hc1).1
  generalize hv : vp_cell G.2.1 (n1, .inl (fun j => Int32.ofInt (va_cpy (I i0) (I i1) sp dp n j))) = nc at Y' step
  have hheap : ((T.setVm vm').setCell (b0 + i1) nc).heap = H.setIfInBounds (b0 + i1) nc := by rw [← hT]; rfl
  have oq : ∀ q : Nat, q ≠ b0 + i1 → (H.setIfInBounds (b0 + i1) nc)[q]? = H[q]? := fun q hq => by simp [Array.getElem?_setIfInBounds, Ne.symm hq]
  obtain ⟨t, a1, b1⟩ := kk p l e R s m args below meth c _ _ cells slots b0 G ls X hc hs hl' (hR.upd (h' := (S, va_up I i1 (va_cpy (I i0) (I i1) sp dp n), L)) p1 (by simp) oq rfl (by
      rw [tmc_i (h := (S, va_up I i1 (va_cpy (I i0) (I i1) sp dp n), L)) p2]
      show (H.setIfInBounds (b0 + i1) nc)[b0 + i1]? = some (vp_cell _ _)
      rw [Array.getElem?_setIfInBounds, if_pos rfl, if_pos hlt, ← hv, p3]
      simp [va_up]) (fun q hq => tmc_ext rfl rfl rfl (vup_n hq) rfl) (hR.2.2.row (fun k => by unfold va_cpy; split <;> exact hR.2.2 _ _))) ⟨by simp; exact hS.1, fun q g1 g2 => by
      rw [oq q (fun e => g2 (by rw [e]; show b0 ≤ b0 + i1; omega))]
      exact hS.2.1 q g1 g2, fun q hq => by
      rcases List.mem_append.mp hq with h | h
      · exact hS.2.2 q h
      · obtain ⟨z, -, hz⟩ := List.mem_map.mp h
        rw [← hz]
        show b0 ≤ b0 + i1
        omega⟩ _ hheap Y'
  exact ⟨t, step t a1, b1⟩
end WT
