/-! ===== 99zl: heaps told by lists, for the constructors ===== -/
def RF2 (rs : List (Nat × Nat × Nat)) : Nat → Nat → Option Nat := rs.foldl (fun R q => va_up R q.1 (va_up (R q.1) q.2.1 (some q.2.2))) (fun _ _ => none)
def HB (ks : List (Nat × Nat)) (rs : List (Nat × Nat × Nat)) : tmS := (ks.length, fun i => (ks.getD i (0, 0)).1, fun i => (ks.getD i (0, 0)).2, RF2 rs)
set_option maxRecDepth 20000 in
theorem RF2_s (rs : List (Nat × Nat × Nat)) (q : Nat × Nat × Nat) : RF2 (rs ++ [q]) = va_up (RF2 rs) q.1 (va_up (RF2 rs q.1) q.2.1 (some q.2.2)) := by unfold RF2; rw [List.foldl_append]; rfl
set_option maxRecDepth 20000 in
theorem RF2_f {n : Nat} : ∀ (rs : List (Nat × Nat × Nat)) (R : Nat → Nat → Option Nat), (∀ q ∈ rs, q.1 ≠ n) → (rs.foldl (fun R q => va_up R q.1 (va_up (R q.1) q.2.1 (some q.2.2))) R) n = R n := by
  intro rs
  induction rs with
  | nil => intro R _; rfl
  | cons q rs ih =>
    intro R h
    have hq := h q List.mem_cons_self
    simp only [List.foldl_cons]
    rw [ih _ (fun x hx => h x (List.mem_cons_of_mem _ hx)), vup_n (fun z => hq z.symm)]
set_option maxRecDepth 20000 in
theorem RF2_n {n : Nat} {rs : List (Nat × Nat × Nat)} (h : ∀ q ∈ rs, q.1 ≠ n) : RF2 rs n = fun _ => none := RF2_f rs _ h
set_option maxRecDepth 20000 in
theorem RF2_app {n : Nat} {rs l : List (Nat × Nat × Nat)} (h : ∀ q ∈ l, q.1 ≠ n) : RF2 (rs ++ l) n = RF2 rs n := by
  unfold RF2
  rw [List.foldl_append]
  exact RF2_f l _ h
set_option maxRecDepth 20000 in
theorem RF2_hit {rs : List (Nat × Nat × Nat)} {i k v : Nat} : RF2 (rs ++ [(i, k, v)]) i k = some v := by rw [RF2_s]; simp only [vup_s]
set_option maxRecDepth 20000 in
theorem RF2_miss {rs : List (Nat × Nat × Nat)} {i k j l v : Nat} (h : i ≠ j ∨ k ≠ l) : RF2 (rs ++ [(j, l, v)]) i k = RF2 rs i k := by
  rw [RF2_s]
  simp only
  by_cases c : i = j
  · subst c
    rw [vup_s, vup_n (by omega)]
  · rw [vup_n c]
set_option maxRecDepth 20000 in
theorem getD_sn {ks : List (Nat × Nat)} {x : Nat × Nat} {i : Nat} : (ks ++ [x]).getD i (0, 0) = if i = ks.length then x else ks.getD i (0, 0) := by
  rw [List.getD_eq_getElem?_getD, List.getD_eq_getElem?_getD]
  by_cases c : i < ks.length
  · rw [if_neg (by omega), List.getElem?_append_left c]
  · by_cases d : i = ks.length
    · subst d
      rw [if_pos rfl, List.getElem?_append_right (Nat.le_refl _), Nat.sub_self]
      rfl
    · rw [if_neg d, List.getElem?_append_right (by omega), List.getElem?_eq_none (by simp; omega), List.getElem?_eq_none (by omega)]
/-- behind n all is as at first -/
def HZ (ks : List (Nat × Nat)) (rs : List (Nat × Nat × Nat)) (I : Nat → Nat → Int) (L : Nat → Nat → Int64) : Prop := (∀ q ∈ rs, q.1 < ks.length) ∧ (∀ a, ks.length ≤ a → I a = fun _ => 0) ∧ ∀ a, ks.length ≤ a → L a = fun _ => 0
set_option maxRecDepth 20000 in
theorem HZ.k {ks : List (Nat × Nat)} {rs : List (Nat × Nat × Nat)} {I : Nat → Nat → Int} {L : Nat → Nat → Int64} (h : HZ ks rs I L) (l : List (Nat × Nat)) : HZ (ks ++ l) rs I L := by
  refine ⟨fun q hq => ?_, fun a ha => h.2.1 a ?_, fun a ha => h.2.2 a ?_⟩
  · have := h.1 q hq; rw [List.length_append]; omega
  · rw [List.length_append] at ha; omega
  · rw [List.length_append] at ha; omega
set_option maxRecDepth 20000 in
theorem HZ.r {ks : List (Nat × Nat)} {rs : List (Nat × Nat × Nat)} {I : Nat → Nat → Int} {L : Nat → Nat → Int64} (h : HZ ks rs I L) {l : List (Nat × Nat × Nat)} (hl : ∀ q ∈ l, q.1 < ks.length) : HZ ks (rs ++ l) I L := by
  refine ⟨fun q hq => ?_, h.2⟩
  rcases List.mem_append.mp hq with z | z
  · exact h.1 q z
  · exact hl q z
set_option maxRecDepth 20000 in
theorem HB_new {ks : List (Nat × Nat)} {rs : List (Nat × Nat × Nat)} {I : Nat → Nat → Int} {L : Nat → Nat → Int64} (h : HZ ks rs I L) (kd len : Nat) : tmNew (HB ks rs, I, L) kd len = (HB (ks ++ [(kd, len)]) rs, I, L) := by
  have e1 : va_up (RF2 rs) ks.length (fun _ => none) = RF2 rs := by
    have := RF2_n (n := ks.length) (rs := rs) (fun q hq => by have := h.1 q hq; omega)
    rw [← this, vup_self]
  have e2 : va_up I ks.length (fun _ => 0) = I := by rw [← h.2.1 _ (Nat.le_refl _), vup_self]
  have e3 : va_up L ks.length (fun _ => 0) = L := by rw [← h.2.2 _ (Nat.le_refl _), vup_self]
  have e4 : va_up (fun i => (ks.getD i (0, 0)).1) ks.length kd = fun i => ((ks ++ [(kd, len)]).getD i (0, 0)).1 := by
    funext i
    rw [getD_sn]
    by_cases c : i = ks.length
    · rw [c, vup_s, if_pos rfl]
    · rw [vup_n c, if_neg c]
  have e5 : va_up (fun i => (ks.getD i (0, 0)).2) ks.length len = fun i => ((ks ++ [(kd, len)]).getD i (0, 0)).2 := by
    funext i
    rw [getD_sn]
    by_cases c : i = ks.length
    · rw [c, vup_s, if_pos rfl]
    · rw [vup_n c, if_neg c]
  unfold tmNew HB
  simp only
  rw [e1, e2, e3, e4, e5, List.length_append]
  rfl
set_option maxRecDepth 20000 in
theorem ob_k {ks l : List (Nat × Nat)} {rs rs' : List (Nat × Nat × Nat)} {i ci : Nat} (h : tmObj (HB ks rs) i ci) : tmObj (HB (ks ++ l) rs') i ci := by
  obtain ⟨h1, h2⟩ := h
  have h1 : i < ks.length := h1
  refine ⟨?_, ?_⟩
  · show i < (ks ++ l).length
    rw [List.length_append]; omega
  · show ((ks ++ l).getD i (0, 0)).1 = ci
    rw [List.getD_eq_getElem?_getD, List.getElem?_append_left h1, ← List.getD_eq_getElem?_getD]
    exact h2
set_option maxRecDepth 20000 in
theorem ar_k {ks l : List (Nat × Nat)} {rs rs' : List (Nat × Nat × Nat)} {i kd nn : Nat} (h : tmArr (HB ks rs) i kd nn) : tmArr (HB (ks ++ l) rs') i kd nn := by
  obtain ⟨h1, h2, h3, h4⟩ := h
  have h1 : i < ks.length := h1
  have e : (ks ++ l).getD i (0, 0) = ks.getD i (0, 0) := by
    rw [List.getD_eq_getElem?_getD, List.getElem?_append_left h1, ← List.getD_eq_getElem?_getD]
  refine ⟨?_, ?_, ?_, h4⟩
  · show i < (ks ++ l).length
    rw [List.length_append]; omega
  · show ((ks ++ l).getD i (0, 0)).1 = kd
    rw [e]; exact h2
  · show ((ks ++ l).getD i (0, 0)).2 = nn
    rw [e]; exact h3
set_option maxRecDepth 20000 in
theorem ob_n {ks : List (Nat × Nat)} {rs : List (Nat × Nat × Nat)} {n ci : Nat} (hn : ks.length = n) : tmObj (HB (ks ++ [(ci, 0)]) rs) n ci := by
  refine ⟨?_, ?_⟩
  · show n < (ks ++ [(ci, 0)]).length
    rw [List.length_append, hn]; simp
  · show ((ks ++ [(ci, 0)]).getD n (0, 0)).1 = ci
    rw [getD_sn, if_pos hn.symm]
set_option maxRecDepth 20000 in
theorem ar_n {ks : List (Nat × Nat)} {rs : List (Nat × Nat × Nat)} {n kd nn : Nat} (hn : ks.length = n) (hb : nn < 2147483648) : tmArr (HB (ks ++ [(kd, nn)]) rs) n kd nn := by
  refine ⟨?_, ?_, ?_, hb⟩
  · show n < (ks ++ [(kd, nn)]).length
    rw [List.length_append, hn]; simp
  · show ((ks ++ [(kd, nn)]).getD n (0, 0)).1 = kd
    rw [getD_sn, if_pos hn.symm]
  · show ((ks ++ [(kd, nn)]).getD n (0, 0)).2 = nn
    rw [getD_sn, if_pos hn.symm]
set_option maxRecDepth 20000 in
theorem z_at {I : Nat → Nat → Int} {p k : Nat} (h : I p = fun _ => 0) : I p k = 0 := by rw [h]
set_option maxRecDepth 20000 in
theorem z_L {L : Nat → Nat → Int64} {p k : Nat} (h : L p = fun _ => 0) : L p k = 0 := by rw [h]
section S99zl
variable {M : tmMS} {d bc bs pc : Nat} {lv : List (Option tmV)} {st : List tmV} {ks : List (Nat × Nat)} {rs : List (Nat × Nat × Nat)} {I : Nat → Nat → Int} {L : Nat → Nat → Int64} {Q : Option tmV → tmH → Prop} {n : Nat}
set_option maxRecDepth 20000 in
theorem ln_s (hn : ks.length = n) (x : Nat × Nat) : (ks ++ [x]).length = n + 1 := by rw [List.length_append, hn]; rfl
set_option maxRecDepth 20000 in
theorem wb_new {idx ci N bc' bs' : Nat} {C : String} {T : u_T} {t0 : Nat → FieldType} (hd : decode M.2.1 pc = .ok (.new idx, 3)) (hcl : tmCl ci C T N t0) (hlk : Cond.classLink M.1 idx C ∈ tmT) (hins : Cond.instantiable C N ∈ tmT) (hini : Cond.initialized C ∈ tmT) (h1 : bc' + 1 = bc) (h2 : bs' + N = bs) (hz : HZ ks rs I L) (hn : ks.length = n)
    (kk : HZ (ks ++ [(ci, 0)]) rs I L → (ks ++ [(ci, 0)]).length = n + 1 → tmW M d bc' bs' (pc + 3) lv (tR n :: st) (HB (ks ++ [(ci, 0)]) rs, I, L) Q) : tmW M d bc bs pc lv st (HB ks rs, I, L) Q := by
  refine wa_new hd hcl hlk hins hini h1 h2 ?_
  rw [HB_new hz]
  have := kk (hz.k _) (ln_s hn _)
  rw [← hn] at this
  exact this
set_option maxRecDepth 20000 in
theorem wb_newaI {bc' bs' nn : Nat} {a : Int} (hd : decode M.2.1 pc = .ok (.newarray .int, 2)) (hw : Cond.arrayClass (newarray.typeOf .int) ∈ tmT) (ha : a = (nn : Int)) (hb : nn < 100000000) (h1 : bc' + 1 = bc) (h2 : bs' + nn = bs) (hz : HZ ks rs I L) (hn : ks.length = n)
    (kk : HZ (ks ++ [(13, nn)]) rs I L → (ks ++ [(13, nn)]).length = n + 1 → tmW M d bc' bs' (pc + 2) lv (tR n :: st) (HB (ks ++ [(13, nn)]) rs, I, L) Q) : tmW M d bc bs pc lv (tI a :: st) (HB ks rs, I, L) Q := by
  refine wa_newaI hd hw ha hb h1 h2 ?_
  rw [HB_new hz]
  have := kk (hz.k _) (ln_s hn _)
  rw [← hn] at this
  exact this
set_option maxRecDepth 20000 in
theorem wb_newaL {bc' bs' nn : Nat} {a : Int} (hd : decode M.2.1 pc = .ok (.newarray .long, 2)) (hw : Cond.arrayClass (newarray.typeOf .long) ∈ tmT) (ha : a = (nn : Int)) (hb : nn < 50000000) (h1 : bc' + 1 = bc) (h2 : bs' + nn = bs) (hz : HZ ks rs I L) (hn : ks.length = n)
    (kk : HZ (ks ++ [(14, nn)]) rs I L → (ks ++ [(14, nn)]).length = n + 1 → tmW M d bc' bs' (pc + 2) lv (tR n :: st) (HB (ks ++ [(14, nn)]) rs, I, L) Q) : tmW M d bc bs pc lv (tI a :: st) (HB ks rs, I, L) Q := by
  refine wa_newaL hd hw ha hb h1 h2 ?_
  rw [HB_new hz]
  have := kk (hz.k _) (ln_s hn _)
  rw [← hn] at this
  exact this
set_option maxRecDepth 20000 in
theorem wb_anewP {idx bc' bs' nn : Nat} {a : Int} (hd : decode M.2.1 pc = .ok (.anewarray idx, 3)) (hw : Cond.classLink M.1 idx RX2 ∈ tmT) (ha : a = (nn : Int)) (hb : nn < 100000000) (h1 : bc' + 1 = bc) (h2 : bs' + nn = bs) (hz : HZ ks rs I L) (hn : ks.length = n)
    (kk : HZ (ks ++ [(15, nn)]) rs I L → (ks ++ [(15, nn)]).length = n + 1 → tmW M d bc' bs' (pc + 3) lv (tR n :: st) (HB (ks ++ [(15, nn)]) rs, I, L) Q) : tmW M d bc bs pc lv (tI a :: st) (HB ks rs, I, L) Q := by
  refine wa_anewP hd hw ha hb h1 h2 ?_
  rw [HB_new hz]
  have := kk (hz.k _) (ln_s hn _)
  rw [← hn] at this
  exact this
set_option maxRecDepth 20000 in
theorem wb_anewS {idx bc' bs' nn : Nat} {a : Int} (hd : decode M.2.1 pc = .ok (.anewarray idx, 3)) (hw : Cond.classLink M.1 idx RX6 ∈ tmT) (ha : a = (nn : Int)) (hb : nn < 100000000) (h1 : bc' + 1 = bc) (h2 : bs' + nn = bs) (hz : HZ ks rs I L) (hn : ks.length = n)
    (kk : HZ (ks ++ [(16, nn)]) rs I L → (ks ++ [(16, nn)]).length = n + 1 → tmW M d bc' bs' (pc + 3) lv (tR n :: st) (HB (ks ++ [(16, nn)]) rs, I, L) Q) : tmW M d bc bs pc lv (tI a :: st) (HB ks rs, I, L) Q := by
  refine wa_anewS hd hw ha hb h1 h2 ?_
  rw [HB_new hz]
  have := kk (hz.k _) (ln_s hn _)
  rw [← hn] at this
  exact this
set_option maxRecDepth 20000 in
theorem HB_put {i k a : Nat} : ((HB ks rs).1, (HB ks rs).2.1, (HB ks rs).2.2.1, va_up (HB ks rs).2.2.2 i (va_up ((HB ks rs).2.2.2 i) k (some a))) = HB ks (rs ++ [(i, k, a)]) := by
  unfold HB
  simp only
  rw [RF2_s]
set_option maxRecDepth 20000 in
theorem wb_putR {idx ci k i a : Nat} (hd : decode M.2.1 pc = .ok (.putfield idx, 3)) (hf : tmFL M.1 idx ci k 1) (hp : tmFP M.1 M.2.2.2.2 ci k) (ho : tmObj (HB ks rs) i ci) (hz : HZ ks rs I L) (kk : HZ ks (rs ++ [(i, k, a)]) I L → tmW M d bc bs (pc + 3) lv st (HB ks (rs ++ [(i, k, a)]), I, L) Q) : tmW M d bc bs pc lv (tR a :: tR i :: st) (HB ks rs, I, L) Q := by
  refine wt_putR hd hf hp ho ?_
  rw [HB_put]
  exact kk (hz.r (fun q hq => by rw [List.mem_singleton] at hq; rw [hq]; exact ho.1))
set_option maxRecDepth 20000 in
theorem wb_put0 {S : tmS} {idx ci k i : Nat} (hd : decode M.2.1 pc = .ok (.putfield idx, 3)) (hf : tmFL M.1 idx ci k 0) (hp : tmFP M.1 M.2.2.2.2 ci k) (ho : tmObj S i ci) (h0 : I i k = 0) (kk : tmW M d bc bs (pc + 3) lv st (S, I, L) Q) : tmW M d bc bs pc lv (tI 0 :: tR i :: st) (S, I, L) Q := by
  refine wt_putI hd hf hp ho ⟨by decide, by decide⟩ ?_
  have e : va_up I i (va_up (I i) k 0) = I := by rw [← h0, vup_self, vup_self]
  rw [e]
  exact kk
set_option maxRecDepth 20000 in
theorem wb_put0L {S : tmS} {idx ci k i : Nat} (hd : decode M.2.1 pc = .ok (.putfield idx, 3)) (hf : tmFL M.1 idx ci k 2) (hp : tmFP M.1 M.2.2.2.2 ci k) (ho : tmObj S i ci) (h0 : L i k = 0) (kk : tmW M d bc bs (pc + 3) lv st (S, I, L) Q) : tmW M d bc bs pc lv (tL 0 :: tR i :: st) (S, I, L) Q := by
  refine wt_putL hd hf hp ho ?_
  have e : va_up L i (va_up (L i) k 0) = L := by rw [← h0, vup_self, vup_self]
  rw [e]
  exact kk
set_option maxRecDepth 20000 in
theorem wb_aast {i nn v kd ci : Nat} {a : Int} (j : Nat) (hd : decode M.2.1 pc = .ok (.aastore, 1)) (hkd : (kd = 15 ∧ ci = 2) ∨ (kd = 16 ∧ ci = 6)) (ho : tmArr (HB ks rs) i kd nn) (hv : tmObj (HB ks rs) v ci) (ha : a = (j : Int)) (hj : j < nn) (hz : HZ ks rs I L)
    (kk : HZ ks (rs ++ [(i, j, v)]) I L → tmW M d bc bs (pc + 1) lv st (HB ks (rs ++ [(i, j, v)]), I, L) Q) : tmW M d bc bs pc lv (tR v :: tI a :: tR i :: st) (HB ks rs, I, L) Q := by
  refine wt_aast j hd hkd ho hv ha hj ?_
  rw [HB_put]
  exact kk (hz.r (fun q hq => by rw [List.mem_singleton] at hq; rw [hq]; exact ho.1))
end S99zl
