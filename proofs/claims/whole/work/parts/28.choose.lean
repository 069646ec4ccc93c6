/-! ===== 28: Search.choose ===== -/
def chT (q : Int × Int × Int) : Nat → Int := fun k => if k = 0 then q.1 else if k = 1 then q.2.1 else q.2.2
/-- PLACE and GENERATION of a FINDING -/
def fPl (lf : Nat) (pl sg on ot : Nat → Int) (q : Int × Int × Int) : Int := tv pl sg on ot (chT q) ((lf - 1 : Nat) : Int)
def fGn (lf : Nat) (ls pl sg on ot : Nat → Int) (q : Int × Int × Int) : Int := gen3 ls (fPl lf pl sg on ot q) (chT q) 3 0 (svOf ls 50 0 (fPl lf pl sg on ot q)) + 1
/-- a list of FINDINGS, as Findings holds it -/
def FnOK (cnt : Int) (lr : Nat → Int64) (r : Int) (P G : Int × Int × Int → Int) (T : List (Int × Int × Int)) : Prop :=
  cnt = (T.length : Int) ∧ T.length ≤ 200 ∧ ∀ (k : Nat) (q : Int × Int × Int), T[k]? = some q → lr k = tmPk r q.1 q.2.1 q.2.2 (P q) (G q) ∧ isDg q.1 ∧ isDg q.2.1 ∧ isDg q.2.2 ∧ isDg (P q) ∧ isDg (G q)
theorem take_take_app {α : Type} (A X : List α) (m : Nat) : (A.take m ++ X).take m = (A ++ X).take m := by
  by_cases h : A.length ≤ m
  · rw [List.take_of_length_le h]
  · have h1 : (A.take m).length = m := by rw [List.length_take]; omega
    rw [List.take_append_of_le_length (by omega), List.take_append_of_le_length (by omega), List.take_take, Nat.min_self]
theorem EN_congr {m lf n set : Nat} {ho pl sg on ot st : Nat → Int} (hw : WFN m sg on ot) (hs : WFS m sg on ot st) (hm : lf ≤ m) : ∀ (k : Nat) (ch ch' : Nat → Int), k ≤ 3 → (∀ j, j + k < 3 → ch j = ch' j) → EN lf n set ho pl sg on ot k ch = EN lf n set ho pl sg on ot k ch' := by
  intro k
  induction k with
  | zero =>
    intro ch ch' _ h
    have e : SA lf pl sg on ot ch = SA lf pl sg on ot ch' := by
      rw [Bool.eq_iff_iff, SA_iff, SA_iff]
      have e1 : ∀ i : Nat, i < lf → tv pl sg on ot ch i = tv pl sg on ot ch' i := fun i hi => tv_dep hw hs i (by omega) (fun l hl => h l (by have := hs i (by omega); omega))
      constructor
      · intro a i hi; rw [← e1 i hi]; exact a i hi
      · intro a i hi; rw [e1 i hi]; exact a i hi
    simp only [EN, e, h 0 (by omega), h 1 (by omega), h 2 (by omega)]
  | succ k ih =>
    intro ch ch' hk h
    simp only [EN]
    have e : ∀ x : Int, EN lf n set ho pl sg on ot k (va_up ch (2 - k) x) = EN lf n set ho pl sg on ot k (va_up ch' (2 - k) x) := by
      intro x
      refine ih _ _ (by omega) (fun j hj => ?_)
      by_cases z : j = 2 - k
      · subst z; rw [vup_s, vup_s]
      · rw [vup_n z, vup_n z]; exact h j (by omega)
    simp only [e]
theorem stage_letter {m : Nat} {sg on ot st : Nat → Int} (hw : WFN m sg on ot) (hs : WFS m sg on ot st) {l : Nat} : ∀ i : Nat, i < m → st i = (l : Int) + 1 → ∃ j, j ≤ i ∧ sg j = 7 + (l : Int) := by
  intro i
  induction i using Nat.strongRecOn with
  | ind i ih =>
    intro hi e
    have w := hw i hi
    have s := hs i hi
    by_cases h7 : 7 ≤ sg i
    · exact ⟨i, Nat.le_refl _, by have := s.2.2.1 h7; omega⟩
    · have s2 := (s.2.2.2 (by omega)).2.2
      rcases s2 with z | ⟨z1, z2⟩ | ⟨z1, z2⟩
      · omega
      · obtain ⟨j, j1, j2⟩ := ih (on i).toNat (by omega) (by omega) (by omega)
        exact ⟨j, by omega, j2⟩
      · obtain ⟨j, j1, j2⟩ := ih (ot i).toNat (by omega) (by omega) (by omega)
        exact ⟨j, by omega, j2⟩
theorem chT_eq (ch : Nat → Int) {l : Nat} (hl : l < 3) : chT (ch 0, ch 1, ch 2) l = ch l := by
  obtain rfl | rfl | rfl : l = 0 ∨ l = 1 ∨ l = 2 := by omega
  all_goals rfl
theorem fPl_eq {m lf : Nat} {pl sg on ot st : Nat → Int} (hw : WFN m sg on ot) (hs : WFS m sg on ot st) (h1 : 1 ≤ lf) (hm : lf ≤ m) (ch : Nat → Int) : fPl lf pl sg on ot (ch 0, ch 1, ch 2) = tv pl sg on ot ch ((lf - 1 : Nat) : Int) :=
  tv_dep hw hs (lf - 1) (by omega) (fun l hl => chT_eq ch (by have := hs (lf - 1) (by omega); omega))
theorem gen3_b {ls : Nat → Int} {pl : Int} {ch : Nat → Int} (h : ∀ c, c < 50 → 0 ≤ ls c ∧ ls c ≤ 9) : ∀ (k l : Nat) (g : Int), 0 ≤ g ∧ g ≤ 9 → 0 ≤ gen3 ls pl ch k l g ∧ gen3 ls pl ch k l g ≤ 9 := by
  intro k
  induction k with
  | zero => intro l g hg; exact hg
  | succ k ih =>
    intro l g hg
    refine ih (l + 1) _ ?_
    split
    · unfold svOf; split
      · exact h _ (by omega)
      · omega
    · exact hg
theorem svls {ls : Nat → Int} (h : ∀ c, c < 50 → 0 ≤ ls c ∧ ls c ≤ 9) (x : Int) : 0 ≤ svOf ls 50 0 x ∧ svOf ls 50 0 x ≤ 9 := by
  unfold svOf; split
  · exact h _ (by omega)
  · omega
theorem tm_set1 : ∀ m, m < 8 → ∀ l, l < 3 → Int32.ofInt (m : Nat) >>> (Int32.ofInt (l : Nat) &&& 31) = Int32.ofInt ((m >>> l : Nat)) := by decide
theorem tm_set2 : ∀ m, m < 8 → ∀ l, l < 3 → Int32.ofInt ((m >>> l : Nat)) &&& Int32.ofInt 1 = Int32.ofInt (if m.testBit l then 1 else 0) := by decide
theorem lcmp_bit {x : Int64} {c : Nat} (hc : c < 64) : lg_cmp ((x.toUInt64 >>> ((Int32.ofInt (c : Int)).toInt64.toUInt64 &&& Int64.toUInt64 63)).toInt64 &&& 1) 0 = Int32.ofInt (if bit x c then 1 else 0) := by
  have e : ((Int32.ofInt (c : Int)).toInt64.toUInt64 &&& Int64.toUInt64 63) = UInt64.ofNat c := wb_cu c hc
  rw [e]
  obtain ⟨N, hN, rfl⟩ := wb_of x
  have e2 := wb_bit hN hc
  rw [show (nI c).toInt64.toUInt64 &&& Int64.toUInt64 63 = UInt64.ofNat c from wb_cu c hc] at e2
  rw [e2]
  have hb : bit (lN N) c = decide (N / 2 ^ c % 2 = 1) := by
    unfold bit
    rw [wb_tb, BitVec.getLsbD_ofNat]
    simp [hc, Nat.testBit_eq_decide_div_mod_eq]
  rw [hb]
  rcases (by omega : N / 2 ^ c % 2 = 0 ∨ N / 2 ^ c % 2 = 1) with z | z
  · rw [z]; decide
  · rw [z]; decide
section S28
variable {S : tmS}
/-- what choose leaves: FINDINGS T -/
abbrev ChPost (S : tmS) (I : Nat → Nat → Int) (L : Nat → Nat → Int64) (p lf : Nat) (l : Nat) (r : Int) (T : List (Int × Int × Int)) : Option tmV → tmH → Prop := fun q h' => q = none ∧ ∃ I' L', h' = (S, I', L') ∧ (∀ a, a ≠ 144 → a ≠ 147 → a ≠ 148 → I' a = I a) ∧ (∀ a, a ≠ 145 → L' a = L a) ∧ (∀ j : Nat, j < lf → I (p + 4) j ≤ l → I' 147 j = I 147 j) ∧ (∀ k, k < l → I' 148 k = I 148 k) ∧
  FnOK (I' 144 1) (L' 145) r (fPl lf (I 134) (I (p + 1)) (I (p + 2)) (I (p + 3))) (fGn lf (I 146) (I 134) (I (p + 1)) (I (p + 2)) (I (p + 3))) T
abbrev ENr (I : Nat → Nat → Int) (p lf n set : Nat) (k : Nat) (ch : Nat → Int) : List (Int × Int × Int) := EN lf n set (I 7) (I 134) (I (p + 1)) (I (p + 2)) (I (p + 3)) k ch
/-- what choose wants at its start, 3 - k the LETTER that is due -/
def ChPre (S : tmS) (I : Nat → Nat → Int) (L : Nat → Nat → Int64) (p sz lf n set : Nat) (r : Int) (k : Nat) (T : List (Int × Int × Int)) : Prop :=
  ChS S I L p sz lf n set r ∧ VOK lf (I 134) (I (p + 1)) (I (p + 2)) (I (p + 3)) (I (p + 4)) (I 148) (I 147) ((3 - k : Nat) : Int) ∧ (∀ j, j + k < 3 → -1 ≤ I 148 j ∧ I 148 j ≤ 49) ∧ FnOK (I 144 1) (L 145) r (fPl lf (I 134) (I (p + 1)) (I (p + 2)) (I (p + 3))) (fGn lf (I 146) (I 134) (I (p + 1)) (I (p + 2)) (I (p + 3))) T
set_option maxRecDepth 20000 in
theorem choose_0 (hL : LX S) {I : Nat → Nat → Int} {L : Nat → Nat → Int64} {p sz lf n set : Nat} {r : Int} {T : List (Int × Int × Int)} (h : ChPre S I L p sz lf n set r 0 T) (hT : T.length < 200) : tmC yX4_choose kX4_choose 4 0 0 [tR 143, tR p, tI set, tI 3] (S, I, L) (ChPost S I L p lf 3 r ((T ++ ENr I p lf n set 0 (I 148)).take 200)) := by
  refine tmC.mk (lv := [some (tR 143), some (tR p), some (tI set), some (tI 3), none, none, none]) 3 ⟨rfl, by decide +kernel, by decide⟩ rfl rfl ?_
  obtain ⟨hc, hv, hd, hf⟩ := h
  obtain ⟨h1, h2, h3, h4, h5, h6, h7, h8, h9, h10, h11, h12⟩ := id hc
  obtain ⟨q1, q2, q3, q4, q5, q6, q7, q8, q9, q10, q11⟩ := id h1
  obtain ⟨g1, g2, g3⟩ := hf
  have hw := q8.le (show lf ≤ sz by omega)
  have o143 := oX143 hL
  have r143_0 := rX143_0 hL
  have r143_1 := rX143_1 hL
  have r143_2 := rX143_2 hL
  have r143_4 := rX143_4 hL
  have r143_5 := rX143_5 hL
  have r143_6 := rX143_6 hL
  have hsa : SA lf (I 134) (I (p + 1)) (I (p + 2)) (I (p + 3)) (I 148) = true := SA_iff.mpr (fun i hi => (hv i hi (by have := (q9 i (by omega)).2.1; omega)).2)
  have hpl := hv (lf - 1) (by omega) (by have := (q9 (lf - 1) (by omega)).2.1; omega)
  obtain ⟨t, ht, et, -⟩ := tv_term hw h6 h5 h4 h3 (i := lf - 1) (by omega) q10 hpl.2
  have ht' := h4 t ht
  have e1 := fPl_eq (pl := I 134) q8 q9 q5 (by omega) (I 148)
  have d4 : isDg (I 147 (lf - 1)) := by rw [hpl.1, et]; exact ⟨by omega, by omega⟩
  have e2 : fGn lf (I 146) (I 134) (I (p + 1)) (I (p + 2)) (I (p + 3)) (I 148 0, I 148 1, I 148 2) = gen3 (I 146) (I 147 (lf - 1)) (I 148) 3 0 (svOf (I 146) 50 0 (I 147 (lf - 1))) + 1 := by
    unfold fGn
    rw [e1, hpl.1]
    rfl
  have d5 : isDg (gen3 (I 146) (I 147 (lf - 1)) (I 148) 3 0 (svOf (I 146) 50 0 (I 147 (lf - 1))) + 1) := by
    have := gen3_b (pl := I 147 (lf - 1)) (ch := I 148) h8 3 0 _ (svls h8 (I 147 (lf - 1)))
    exact ⟨by omega, by omega⟩
  have c0 := hd 0 (by omega); have c1 := hd 1 (by omega); have c2 := hd 2 (by omega)
  have i0 : isDg (I 148 0) := ⟨by omega, by omega⟩
  have i1 : isDg (I 148 1) := ⟨by omega, by omega⟩
  have i2 : isDg (I 148 2) := ⟨by omega, by omega⟩
  have eT : (T ++ ENr I p lf n set 0 (I 148)).take 200 = T ++ [(I 148 0, I 148 1, I 148 2)] := by
    simp only [ENr, EN, hsa, if_true]
    rw [List.take_of_length_le (by simp; omega)]
  refine wa_iload_n dX4_choose_0 rfl ?_
  refine wa_iconst dX4_choose_1 ?_
  refine wa_icmp_lt 11 dX4_choose_2 (by decide) (by exact ⟨by omega, by omega⟩) (by exact ⟨by omega, by omega⟩) (fun c_2 => ?_) (fun c_2 => ?_)
  · omega
  · refine wa_aload_n dX4_choose_5 rfl ?_
    refine wa_aload_n dX4_choose_6 rfl ?_
    refine wa_callVf (ci := 4) dX4_choose_7 KX4_note LX4_101 ⟨_, _, rfl, by decide⟩ o143 (c_note hL q2.1 q4 q5 (by omega) (k := T.length) g1 hT r h9 ⟨by omega, by omega⟩ ⟨by omega, by omega⟩ ⟨by omega, by omega⟩ ⟨by omega, by omega⟩ d4 d5) (by decide) rfl rfl (Nat.le_of_ble_eq_true rfl) rfl rfl ?_
    refine wa_return dX4_choose_10 rfl ?_
    rw [eT]
    refine ⟨rfl, _, _, rfl, fun a a1 a2 a3 => vup_n a1, fun a a1 => vup_n a1, fun j _ _ => by rw [vup_n (by decide)], fun k _ => by rw [vup_n (by decide)], ?_, by simp; omega, fun k q hk => ?_⟩
    · simp only [vup_s, List.length_append, List.length_cons, List.length_nil]
    · rw [vup_s]
      by_cases z : k = T.length
      · subst z
        have : q = (I 148 0, I 148 1, I 148 2) := by simpa using hk.symm
        subst this
        rw [vup_s, e2, e1, ← hpl.1]
        exact ⟨rfl, i0, i1, i2, d4, d5⟩
      · rw [vup_n z]
        have hk' : T[k]? = some q := by
          have hlt := (List.getElem?_eq_some_iff.mp hk).1
          simp at hlt
          rw [List.getElem?_append_left (by omega)] at hk
          exact hk
        exact g3 k q hk'
theorem StdPost.u {S : tmS} {I : Nat → Nat → Int} {L : Nat → Nat → Int64} {p lf : Nat} {s : Int} {r : Option tmV} {h' : tmH} (h : StdPost S I L p lf s r h') : ∃ (u : Int) (v : Nat → Int), r = some (tI u) ∧ (u = 0 ∨ u = 1) ∧ h' = (S, va_up I 147 v, L) ∧ (∀ j, (lf ≤ j ∨ I (p + 4) j ≠ s) → v j = I 147 j) ∧ (u = 1 → VOK lf (I 134) (I (p + 1)) (I (p + 2)) (I (p + 3)) (I (p + 4)) (I 148) v s) ∧ (u = 0 → ∃ j : Nat, j < lf ∧ I (p + 4) j = s ∧ tv (I 134) (I (p + 1)) (I (p + 2)) (I (p + 3)) (I 148) j = -1) := by
  obtain ⟨v, h1, h2, h3⟩ := h
  rcases h3 with ⟨e, h3⟩ | ⟨e, h3⟩
  · exact ⟨1, v, e, Or.inr rfl, h1, h2, fun _ => h3, fun z => by omega⟩
  · exact ⟨0, v, e, Or.inl rfl, h1, h2, fun z => by omega, fun _ => h3⟩
/-- VOK hangs on the LETTERS below alone -/
theorem VOK.ch {m : Nat} {pl sg on ot st ch ch' v v' : Nat → Int} {l : Nat} (h : VOK m pl sg on ot st ch v l) (hw : WFN m sg on ot) (hs : WFS m sg on ot st) (hc : ∀ j, j < l → ch' j = ch j) (hv : ∀ j : Nat, j < m → st j ≤ l → v' j = v j) : VOK m pl sg on ot st ch' v' l := by
  intro i hi hsi
  obtain ⟨a, b⟩ := h i hi hsi
  have e := tv_dep (pl := pl) hw hs (ch := ch) (ch' := ch') i hi (fun j hj => (hc j (by omega)).symm)
  rw [← e]
  exact ⟨by rw [hv i hi hsi]; exact a, b⟩
abbrev ChIH (S : tmS) (k : Nat) : Prop := ∀ (I : Nat → Nat → Int) (L : Nat → Nat → Int64) (p sz lf n set : Nat) (r : Int) (T : List (Int × Int × Int)), ChPre S I L p sz lf n set r k T → T.length < 200 → tmC yX4_choose kX4_choose (4 + k) 0 0 [tR 143, tR p, tI set, tI ((3 - k : Nat) : Int)] (S, I, L) (ChPost S I L p lf (3 - k) r ((T ++ ENr I p lf n set k (I 148)).take 200))
set_option maxRecDepth 20000 in
set_option maxHeartbeats 4000000 in
theorem choose_loop (hL : LX S) {k : Nat} (hk : k ≤ 2) (ih : ChIH S k) {I : Nat → Nat → Int} {L : Nat → Nat → Int64} {p sz lf n set : Nat} {r : Int} {T : List (Int × Int × Int)} (h : ChPre S I L p sz lf n set r (k + 1) T) (hset : set.testBit (2 - k) = true) (fit : Int64) (hfit : ∀ c, c < 64 → (bit fit c = true ↔ ∀ j, j < lf → FitP sz (I (p + 1)) (I (p + 2)) (I (p + 3)) (I (p + 4)) (I 147) L ((2 - k : Nat) : Int) j c)) :
    ∀ (m c : Nat) (I' : Nat → Nat → Int) (L' : Nat → Nat → Int64), c + m = n → (∀ a, a ≠ 144 → a ≠ 147 → a ≠ 148 → I' a = I a) → (∀ a, a ≠ 145 → L' a = L a) → (∀ j : Nat, j < lf → I (p + 4) j ≤ (2 - k : Nat) → I' 147 j = I 147 j) → (∀ j, j < 2 - k → I' 148 j = I 148 j) →
    FnOK (I' 144 1) (L' 145) r (fPl lf (I 134) (I (p + 1)) (I (p + 2)) (I (p + 3))) (fGn lf (I 146) (I 134) (I (p + 1)) (I (p + 2)) (I (p + 3))) ((T ++ (List.range c).flatMap (fun c => if I 7 c = (c : Int) then ENr I p lf n set k (va_up (I 148) (2 - k) (c : Int)) else [])).take 200) →
    tmW kX4_choose (5 + k) 0 0 47 [some (tR 143), some (tR p), some (tI set), some (tI ((2 - k : Nat) : Int)), some (tL fit), none, some (tI c)] [] (S, I', L') (ChPost S I L p lf (2 - k) r ((T ++ ENr I p lf n set (k + 1) (I 148)).take 200)) := by
  obtain ⟨hc, hv, hd, hf⟩ := h
  rw [show 3 - (k + 1) = 2 - k by omega] at hv
  have hEN : ENr I p lf n set (k + 1) (I 148) = (List.range n).flatMap (fun c => if I 7 c = (c : Int) then ENr I p lf n set k (va_up (I 148) (2 - k) (c : Int)) else []) := by
    simp only [ENr, EN, hset, if_true]
  rw [hEN]
  obtain ⟨h1, h2, h3, h4, h5, h6, h7, h8, h9, h10, h11, h12⟩ := id hc
  obtain ⟨q1, q2, q3, q4, q5, q6, q7, q8, q9, q10, q11⟩ := id h1
  have hw := q8.le (show lf ≤ sz by omega)
  have hws := q9.le (show lf ≤ sz by omega)
  have hset8 : set < 8 := by rw [h12]; exact tmLet_lt _ _ _ (fun j _ hj => (q8 j (by omega)).2.1) (by decide)
  intro m
  have o143 := oX143 hL
  have r143_0 := rX143_0 hL
  have r143_1 := rX143_1 hL
  have r143_2 := rX143_2 hL
  have r143_4 := rX143_4 hL
  have r143_5 := rX143_5 hL
  have r143_6 := rX143_6 hL
  have o1 := oX1 hL
  have r1_0 := rX1_0 hL
  have r1_1 := rX1_1 hL
  have r1_3 := rX1_3 hL
  have o2 := oX2 hL
  have r2_1 := rX2_1 hL
  have r2_2 := rX2_2 hL
  have r2_3 := rX2_3 hL
  have r2_4 := rX2_4 hL
  have r2_5 := rX2_5 hL
  have o144 := oX144 hL
  have r144_0 := rX144_0 hL
  have o145 := oX145 hL
  have o148 := oX148 hL
  have hfin : LFin S 144 200 := ⟨o144, r144_0, o145⟩
  generalize hF : (fun c : Nat => if I 7 c = (c : Int) then ENr I p lf n set k (va_up (I 148) (2 - k) (c : Int)) else []) = F
  have hFc : ∀ c : Nat, F c = if I 7 c = (c : Int) then ENr I p lf n set k (va_up (I 148) (2 - k) (c : Int)) else [] := fun c => by rw [← hF]
  induction m with
  | zero =>
    intro c I' L' hcm e1 e2 e3 e4 e5
    obtain rfl : c = n := by omega
    have f2 := e1 2 (by decide) (by decide) (by decide)
    refine wt_ir (fun hI => ?_)
    refine wa_iload dX4_choose_47 rfl ?_
    refine wa_aload_n dX4_choose_49 rfl ?_
    refine wt_getR dX4_choose_50 FX4_34 (by assumption) (by assumption) ?_
    refine wt_getR dX4_choose_53 FX4_48 (by assumption) (by assumption) ?_
    refine wt_getI dX4_choose_56 FX4_87 (by assumption) ?_
    try rw [f2, h2]
    refine wa_icmp_ge 121 dX4_choose_59 (by decide) (by exact ⟨by omega, by omega⟩) (by exact ⟨by omega, by omega⟩) (fun c_59 => ?_) (fun c_59 => ?_)
    · refine wa_return dX4_choose_121 rfl ?_
      exact ⟨rfl, I', L', rfl, e1, e2, e3, e4, e5⟩
    · omega
  | succ m ihm =>
    intro c I' L' hcm e1 e2 e3 e4 e5
    have f2 := e1 2 (by decide) (by decide) (by decide)
    have f7 := e1 7 (by decide) (by decide) (by decide)
    have hc' : ChS S I' L' p sz lf n set r := hc.fr e1 e2
    have fp1 := e1 (p + 1) (by omega) (by omega) (by omega)
    have fp2 := e1 (p + 2) (by omega) (by omega) (by omega)
    have fp3 := e1 (p + 3) (by omega) (by omega) (by omega)
    have fp4 := e1 (p + 4) (by omega) (by omega) (by omega)
    have f134 := e1 134 (by decide) (by decide) (by decide)
    have f146 := e1 146 (by decide) (by decide) (by decide)
    have rs : (List.range (c + 1)).flatMap F = (List.range c).flatMap F ++ F c := by rw [List.range_succ, List.flatMap_append]; simp
    refine wt_ir (fun hI => ?_)
    -- full
    by_cases hfull : ((T ++ (List.range c).flatMap F).take 200).length < 200
    · have next : ∀ (I2 : Nat → Nat → Int) (L2 : Nat → Nat → Int64), (∀ a, a ≠ 144 → a ≠ 147 → a ≠ 148 → I2 a = I a) → (∀ a, a ≠ 145 → L2 a = L a) → (∀ j : Nat, j < lf → I (p + 4) j ≤ (2 - k : Nat) → I2 147 j = I 147 j) → (∀ j, j < 2 - k → I2 148 j = I 148 j) → FnOK (I2 144 1) (L2 145) r (fPl lf (I 134) (I (p + 1)) (I (p + 2)) (I (p + 3))) (fGn lf (I 146) (I 134) (I (p + 1)) (I (p + 2)) (I (p + 3))) ((T ++ (List.range (c + 1)).flatMap F).take 200) → tmW kX4_choose (5 + k) 0 0 115 [some (tR 143), some (tR p), some (tI set), some (tI ((2 - k : Nat) : Int)), some (tL fit), none, some (tI c)] [] (S, I2, L2) (ChPost S I L p lf (2 - k) r ((T ++ (List.range n).flatMap F).take 200)) := by
        intro I2 L2 a1 a2 a3 a4 a5
        refine wa_iinc dX4_choose_115 rfl (by decide) ?_
        refine wa_goto 47 dX4_choose_118 (by decide) ?_
        exact ihm (c + 1) I2 L2 (by omega) a1 a2 a3 a4 a5
      have empty : F c = [] → (T ++ (List.range (c + 1)).flatMap F).take 200 = (T ++ (List.range c).flatMap F).take 200 := fun z => by rw [rs, z, List.append_nil]
      by_cases hb : bit fit c = true
      · have hfp := (hfit c (by omega)).mp hb
        have hnm := fit_name hc (show 2 - k < 3 by omega) hset (by omega) hfp
        have hFc' : F c = ENr I p lf n set k (va_up (I 148) (2 - k) (c : Int)) := by rw [hFc, if_pos hnm]
        -- the choice is written
        have body : tmW kX4_choose (5 + k) 0 0 95 [some (tR 143), some (tR p), some (tI set), some (tI ((2 - k : Nat) : Int)), some (tL fit), none, some (tI c)] [] (S, va_up I' 148 (va_up (I' 148) (2 - k) (c : Int)), L') (ChPost S I L p lf (2 - k) r ((T ++ (List.range n).flatMap F).take 200)) := by
          generalize hJ : va_up I' 148 (va_up (I' 148) (2 - k) (c : Int)) = J
          have g : ∀ a, a ≠ 148 → J a = I' a := fun a ha => by rw [← hJ]; exact vup_n ha
          have g148 : J 148 = va_up (I' 148) (2 - k) (c : Int) := by rw [← hJ, vup_s]
          have gI : ∀ a, a ≠ 144 → a ≠ 147 → a ≠ 148 → J a = I a := fun a a1 a2 a3 => by rw [g a a3]; exact e1 a a1 a2 a3
          have hcJ : ChS S J L' p sz lf n set r := hc.fr gI e2
          have p134 := gI 134 (by decide) (by decide) (by decide)
          have pp1 := gI (p + 1) (by omega) (by omega) (by omega)
          have pp2 := gI (p + 2) (by omega) (by omega) (by omega)
          have pp3 := gI (p + 3) (by omega) (by omega) (by omega)
          have pp4 := gI (p + 4) (by omega) (by omega) (by omega)
          have p146 := gI 146 (by decide) (by decide) (by decide)
          have p7 := gI 7 (by decide) (by decide) (by decide)
          have gch : ∀ j, j < 2 - k → J 148 j = I 148 j := fun j hj => by rw [g148, vup_n (by omega)]; exact e4 j hj
          have vJ : VOK lf (J 134) (J (p + 1)) (J (p + 2)) (J (p + 3)) (J (p + 4)) (J 148) (J 147) (((2 - k : Nat) : Int) + 1 - 1) := by
            rw [p134, pp1, pp2, pp3, pp4, show ((2 - k : Nat) : Int) + 1 - 1 = ((2 - k : Nat) : Int) by omega]
            exact hv.ch hw hws gch (fun j hj hs => by rw [g 147 (by decide)]; exact e3 j hj hs)
          have eEN : ENr I p lf n set k (va_up (I 148) (2 - k) (c : Int)) = ENr I p lf n set k (J 148) := by
            refine EN_congr q8 q9 (by omega) k _ _ (by omega) (fun j hj => ?_)
            rw [g148]
            by_cases z : j = 2 - k
            · subst z; rw [vup_s, vup_s]
            · rw [vup_n z, vup_n z]; exact (e4 j (by omega)).symm
          refine wa_aload_n dX4_choose_95 rfl ?_
          refine wa_aload_n dX4_choose_96 rfl ?_
          refine wa_iload_n dX4_choose_97 rfl ?_
          refine wa_iconst dX4_choose_98 ?_
          refine wa_iadd dX4_choose_99 ?_
          refine wa_callV (ci := 4) dX4_choose_100 KX4_stands LX4_64 ⟨_, _, rfl, by decide⟩ o143 (c_stands hL hcJ.1 (((2 - k : Nat) : Int) + 1) ⟨by omega, by omega⟩ vJ) (by omega) rfl (Nat.le_of_ble_eq_true rfl) rfl rfl (fun r h' hq => ?_)
          obtain ⟨u, v, rfl, hu, rfl, v1, v2, v3⟩ := hq.u
          rw [p134, pp1, pp2, pp3, pp4] at v2 v3
          rw [pp4] at v1
          refine wa_if_eq 115 dX4_choose_103 (by decide) (by exact ⟨by omega, by omega⟩) (fun c_103 => ?_) (fun c_103 => ?_)
          · have hnil : F c = [] := by
              rw [hFc', eEN]
              obtain ⟨j, j1, j2, j3⟩ := v3 c_103
              refine EN_nil (by omega) (fun ch' a b => ?_)
              rw [SA_iff] at b
              have := tv_dep (pl := I 134) hw hws (ch := J 148) (ch' := ch') j j1 (fun l hl => (a l (by omega)).symm)
              exact b j j1 (by rw [← this]; exact j3)
            refine next _ _ (fun a a1 a2 a3 => by rw [vup_n a2]; exact gI a a1 a2 a3) e2 ?_ ?_ ?_
            · intro j hj hs
              rw [vup_s, v1 j (Or.inr (by omega)), g 147 (by decide)]; exact e3 j hj hs
            · intro j hj
              rw [vup_n (by decide)]; exact gch j hj
            · rw [vup_n (by decide), g 144 (by decide), empty hnil]; exact e5
          · have v2' := v2 (hu.resolve_left c_103)
            clear v2 v3
            have hpre : ChPre S (va_up J 147 v) L' p sz lf n set r k ((T ++ (List.range c).flatMap F).take 200) := by
              refine ⟨hcJ.fr (fun a _ a2 _ => vup_n a2) (fun _ _ => rfl), ?_, fun j hj => ?_, ?_⟩
              · rw [vup_s, vup_n (by decide), vup_n (by omega), vup_n (by omega), vup_n (by omega), vup_n (by omega), vup_n (by decide), p134, pp1, pp2, pp3, pp4, show ((3 - k : Nat) : Int) = ((2 - k : Nat) : Int) + 1 by omega]
                exact v2'
              · rw [vup_n (by decide), g148]
                by_cases z : j = 2 - k
                · subst z; rw [vup_s]; omega
                · rw [vup_n z, e4 j (by omega)]; exact hd j (by omega)
              · rw [vup_n (by decide), vup_n (by decide), vup_n (by omega), vup_n (by omega), vup_n (by omega), vup_n (by decide), g 144 (by decide), p134, pp1, pp2, pp3, p146]
                exact e5
            refine wa_aload_n dX4_choose_106 rfl ?_
            refine wa_aload_n dX4_choose_107 rfl ?_
            refine wa_iload_n dX4_choose_108 rfl ?_
            refine wa_iload_n dX4_choose_109 rfl ?_
            refine wa_iconst dX4_choose_110 ?_
            refine wa_iadd dX4_choose_111 ?_
            rw [show ((2 - k : Nat) : Int) + 1 = ((3 - k : Nat) : Int) by omega]
            refine wa_callV (ci := 4) dX4_choose_112 KX4_choose LX4_77 ⟨_, _, rfl, by decide⟩ o143 (ih (va_up J 147 v) L' p sz lf n set r ((T ++ (List.range c).flatMap F).take 200) hpre hfull) (by omega) rfl (Nat.le_of_ble_eq_true rfl) rfl rfl (fun r h' hq => ?_)
            obtain ⟨rfl, I3, L3, rfl, t1, t2, t3, t4, t5⟩ := hq
            rw [vup_n (by decide), vup_n (by omega), vup_n (by omega), vup_n (by omega), vup_n (by decide), p134, pp1, pp2, pp3, p146] at t5
            have eE2 : ENr (va_up J 147 v) p lf n set k (va_up J 147 v 148) = F c := by
              rw [hFc', eEN]
              simp only [ENr]
              rw [vup_n (by decide), vup_n (by decide), vup_n (by omega), vup_n (by omega), vup_n (by omega), vup_n (by decide), p134, pp1, pp2, pp3, p7]
            rw [eE2, take_take_app, List.append_assoc, ← rs] at t5
            refine next I3 L3 (fun a a1 a2 a3 => by rw [t1 a a1 a2 a3, vup_n a2]; exact gI a a1 a2 a3) (fun a a1 => by rw [t2 a a1]; exact e2 a a1) ?_ ?_ t5
            · intro j hj hs
              rw [t3 j hj (by rw [vup_n (by omega), pp4]; omega), vup_s, v1 j (Or.inr (by omega)), g 147 (by decide)]; exact e3 j hj hs
            · intro j hj
              rw [t4 j (by omega), vup_n (by decide)]; exact gch j hj
        refine wa_iload dX4_choose_47 rfl ?_
        refine wa_aload_n dX4_choose_49 rfl ?_
        refine wt_getR dX4_choose_50 FX4_34 (by assumption) (by assumption) ?_
        refine wt_getR dX4_choose_53 FX4_48 (by assumption) (by assumption) ?_
        refine wt_getI dX4_choose_56 FX4_87 (by assumption) ?_
        try rw [f2, h2]
        refine wa_icmp_ge 121 dX4_choose_59 (by decide) (by exact ⟨by omega, by omega⟩) (by exact ⟨by omega, by omega⟩) (fun c_59 => ?_) (fun c_59 => ?_)
        · omega
        · refine wa_aload_n dX4_choose_62 rfl ?_
          refine wt_getR dX4_choose_63 FX4_14 (by assumption) (by assumption) ?_
          refine wa_callVf (ci := 1) dX4_choose_66 KX1_isFull LX4_109 ⟨_, _, rfl, by decide⟩ o144 (by have := c_isFull (L := L') hfin e5.1 (by omega); rw [if_pos hfull] at this; exact this) (by omega) rfl rfl (Nat.le_of_ble_eq_true rfl) rfl rfl ?_
          refine wa_if_ne 121 dX4_choose_69 (by decide) (by exact ⟨by omega, by omega⟩) (fun c_69 => ?_) (fun c_69 => ?_)
          · omega
          · refine wa_lload dX4_choose_72 rfl ?_
            refine wa_iload dX4_choose_74 rfl ?_
            refine wa_lushr dX4_choose_76 rfl ?_
            refine wa_lconst (v := 1) dX4_choose_77 rfl ?_
            refine wa_land dX4_choose_78 ?_
            refine wa_lconst (v := 0) dX4_choose_79 rfl ?_
            refine wa_lcmp dX4_choose_80 (r := if bit fit c then 1 else 0) (lcmp_bit (by omega)) ?_
            rw [if_pos hb]
            refine wa_if_ne 87 dX4_choose_81 (by decide) (by exact ⟨by omega, by omega⟩) (fun c_81 => ?_) (fun c_81 => ?_)
            · refine wa_aload_n dX4_choose_87 rfl ?_
              refine wt_getR dX4_choose_88 FX4_31 (by assumption) (by assumption) ?_
              refine wa_iload_n dX4_choose_91 rfl ?_
              refine wa_iload dX4_choose_92 rfl ?_
              refine wt_iast _ dX4_choose_94 (by assumption) rfl (by omega) (by exact ⟨by omega, by omega⟩) ?_
              exact body
            · omega
      · have hnil : F c = [] := by
          rw [hFc]
          split
          · refine EN_nil (by omega) (fun ch' a b => hb ((hfit c (by omega)).mpr ?_))
            exact fit_sound hc (show 2 - k < 3 by omega) hv (fun j hj => by rw [a j (by omega), vup_n (by omega)]) b (by rw [a (2 - k) (by omega), vup_s]) (by omega)
          · rfl
        have hb' : bit fit c = false := by simpa using hb
        refine wa_iload dX4_choose_47 rfl ?_
        refine wa_aload_n dX4_choose_49 rfl ?_
        refine wt_getR dX4_choose_50 FX4_34 (by assumption) (by assumption) ?_
        refine wt_getR dX4_choose_53 FX4_48 (by assumption) (by assumption) ?_
        refine wt_getI dX4_choose_56 FX4_87 (by assumption) ?_
        try rw [f2, h2]
        refine wa_icmp_ge 121 dX4_choose_59 (by decide) (by exact ⟨by omega, by omega⟩) (by exact ⟨by omega, by omega⟩) (fun c_59 => ?_) (fun c_59 => ?_)
        · omega
        · refine wa_aload_n dX4_choose_62 rfl ?_
          refine wt_getR dX4_choose_63 FX4_14 (by assumption) (by assumption) ?_
          refine wa_callVf (ci := 1) dX4_choose_66 KX1_isFull LX4_109 ⟨_, _, rfl, by decide⟩ o144 (by have := c_isFull (L := L') hfin e5.1 (by omega); rw [if_pos hfull] at this; exact this) (by omega) rfl rfl (Nat.le_of_ble_eq_true rfl) rfl rfl ?_
          refine wa_if_ne 121 dX4_choose_69 (by decide) (by exact ⟨by omega, by omega⟩) (fun c_69 => ?_) (fun c_69 => ?_)
          · omega
          · refine wa_lload dX4_choose_72 rfl ?_
            refine wa_iload dX4_choose_74 rfl ?_
            refine wa_lushr dX4_choose_76 rfl ?_
            refine wa_lconst (v := 1) dX4_choose_77 rfl ?_
            refine wa_land dX4_choose_78 ?_
            refine wa_lconst (v := 0) dX4_choose_79 rfl ?_
            refine wa_lcmp dX4_choose_80 (r := if bit fit c then 1 else 0) (lcmp_bit (by omega)) ?_
            rw [if_neg (by rw [hb']; decide)]
            refine wa_if_ne 87 dX4_choose_81 (by decide) (by exact ⟨by omega, by omega⟩) (fun c_81 => ?_) (fun c_81 => ?_)
            · omega
            · refine wa_goto 115 dX4_choose_84 (by decide) ?_
              exact next I' L' e1 e2 e3 e4 (by rw [empty hnil]; exact e5)
    · have hlen : ((T ++ (List.range c).flatMap F).take 200).length = 200 := by have := e5.2.1; omega
      have eq : (T ++ (List.range n).flatMap F).take 200 = (T ++ (List.range c).flatMap F).take 200 := by
        have h2 : ∃ X, (List.range n).flatMap F = (List.range c).flatMap F ++ X := by
          obtain ⟨d, rfl⟩ : ∃ d, n = c + d := ⟨n - c, by omega⟩
          rw [List.range_add, List.flatMap_append]
          exact ⟨_, rfl⟩
        obtain ⟨X, hX⟩ := h2
        rw [hX, ← List.append_assoc, List.take_append_of_le_length]
        rw [List.length_take] at hlen
        omega
      refine wa_iload dX4_choose_47 rfl ?_
      refine wa_aload_n dX4_choose_49 rfl ?_
      refine wt_getR dX4_choose_50 FX4_34 (by assumption) (by assumption) ?_
      refine wt_getR dX4_choose_53 FX4_48 (by assumption) (by assumption) ?_
      refine wt_getI dX4_choose_56 FX4_87 (by assumption) ?_
      try rw [f2, h2]
      refine wa_icmp_ge 121 dX4_choose_59 (by decide) (by exact ⟨by omega, by omega⟩) (by exact ⟨by omega, by omega⟩) (fun c_59 => ?_) (fun c_59 => ?_)
      · omega
      · refine wa_aload_n dX4_choose_62 rfl ?_
        refine wt_getR dX4_choose_63 FX4_14 (by assumption) (by assumption) ?_
        refine wa_callVf (ci := 1) dX4_choose_66 KX1_isFull LX4_109 ⟨_, _, rfl, by decide⟩ o144 (by have := c_isFull (L := L') hfin e5.1 (by omega); rw [if_neg hfull] at this; exact this) (by omega) rfl rfl (Nat.le_of_ble_eq_true rfl) rfl rfl ?_
        refine wa_if_ne 121 dX4_choose_69 (by decide) (by exact ⟨by omega, by omega⟩) (fun c_69 => ?_) (fun c_69 => ?_)
        · refine wa_return dX4_choose_121 rfl ?_
          rw [eq]
          exact ⟨rfl, I', L', rfl, e1, e2, e3, e4, e5⟩
        · omega
set_option maxRecDepth 20000 in
set_option maxHeartbeats 1000000 in
theorem choose_s (hL : LX S) {k : Nat} (hk : k ≤ 2) (ih : ChIH S k) : ChIH S (k + 1) := by
  intro I L p sz lf n set r T h hT
  rw [show 3 - (k + 1) = 2 - k by omega, show 4 + (k + 1) = 5 + k by omega]
  refine tmC.mk (lv := [some (tR 143), some (tR p), some (tI set), some (tI ((2 - k : Nat) : Int)), none, none, none]) 3 ⟨rfl, by decide +kernel, by decide⟩ rfl rfl ?_
  obtain ⟨hc, hv, hd, hf⟩ := id h
  rw [show 3 - (k + 1) = 2 - k by omega] at hv
  obtain ⟨h1, h2, h3, h4, h5, h6, h7, h8, h9, h10, h11, h12⟩ := id hc
  obtain ⟨q1, q2, q3, q4, q5, q6, q7, q8, q9, q10, q11⟩ := id h1
  have hw := q8.le (show lf ≤ sz by omega)
  have hws := q9.le (show lf ≤ sz by omega)
  have hset8 : set < 8 := by rw [h12]; exact tmLet_lt _ _ _ (fun j _ hj => (q8 j (by omega)).2.1) (by decide)
  have o143 := oX143 hL
  have r143_0 := rX143_0 hL
  have r143_1 := rX143_1 hL
  have r143_2 := rX143_2 hL
  have r143_4 := rX143_4 hL
  have r143_5 := rX143_5 hL
  have r143_6 := rX143_6 hL
  have o148 := oX148 hL
  by_cases hset : set.testBit (2 - k) = true
  · refine wa_iload_n dX4_choose_0 rfl ?_
    refine wa_iconst dX4_choose_1 ?_
    refine wa_icmp_lt 11 dX4_choose_2 (by decide) (by exact ⟨by omega, by omega⟩) (by exact ⟨by omega, by omega⟩) (fun c_2 => ?_) (fun c_2 => ?_)
    · refine wa_iload_n dX4_choose_11 rfl ?_
      refine wa_iload_n dX4_choose_12 rfl ?_
      refine wa_ishr dX4_choose_13 (r := ((set >>> (2 - k) : Nat) : Int)) (tm_set1 set hset8 (2 - k) (by omega)) ?_
      refine wa_iconst dX4_choose_14 ?_
      refine wa_iand dX4_choose_15 (r := if set.testBit (2 - k) then 1 else 0) (tm_set2 set hset8 (2 - k) (by omega)) ?_
      rw [if_pos hset]
      refine wa_if_ne 36 dX4_choose_16 (by decide) (by exact ⟨by omega, by omega⟩) (fun c_16 => ?_) (fun c_16 => ?_)
      · refine wa_aload_n dX4_choose_36 rfl ?_
        refine wa_aload_n dX4_choose_37 rfl ?_
        refine wa_iload_n dX4_choose_38 rfl ?_
        refine wa_callV (ci := 4) dX4_choose_39 KX4_fitting LX4_105 ⟨_, _, rfl, by decide⟩ o143 (c_fitting hL h1 ((2 - k : Nat) : Int) ⟨by omega, by omega⟩) (by omega) rfl (Nat.le_of_ble_eq_true rfl) rfl rfl (fun r h' hq => ?_)
        obtain ⟨rfl, fit, rfl, hfit⟩ := hq
        refine wa_lstore dX4_choose_42 (by decide) ?_
        refine wa_iconst dX4_choose_44 ?_
        refine wa_istore dX4_choose_45 (by decide) ?_
        exact choose_loop hL hk ih h hset fit hfit n 0 I L (by omega) (fun _ _ _ _ => rfl) (fun _ _ => rfl) (fun _ _ _ => rfl) (fun _ _ => rfl) (by simp only [List.range_zero, List.flatMap_nil, List.append_nil]; rw [List.take_of_length_le hf.2.1]; exact hf)
      · omega
    · omega
  · have hset' : set.testBit (2 - k) = false := by simpa using hset
    have hEN : ENr I p lf n set (k + 1) (I 148) = ENr I p lf n set k (va_up (I 148) (2 - k) (-1)) := by simp only [ENr, EN, hset', Bool.false_eq_true, if_false]
    rw [hEN]
    have hno : ∀ i : Nat, i < lf → I (p + 4) i ≠ ((2 - k : Nat) : Int) + 1 := by
      intro i hi e
      obtain ⟨j, j1, j2⟩ := stage_letter hw hws i hi e
      apply hset
      rw [h12, tmLet_bit (by omega) lf 0 0 (fun j _ hj => (q8 j (by omega)).2.1)]
      exact Or.inr ⟨j, by omega, by omega, j2⟩
    have hpre : ChPre S (va_up I 148 (va_up (I 148) (2 - k) (-1))) L p sz lf n set r k T := by
      refine ⟨hc.fr (fun a _ _ a3 => vup_n a3) (fun _ _ => rfl), ?_, fun j hj => ?_, ?_⟩
      · rw [vup_s, vup_n (by decide), vup_n (by omega), vup_n (by omega), vup_n (by omega), vup_n (by omega), vup_n (by decide)]
        have v1 := hv.ch (ch' := va_up (I 148) (2 - k) (-1)) (v' := I 147) hw hws (fun j hj => by rw [vup_n (by omega)]) (fun _ _ _ => rfl)
        intro i hi hs
        exact v1 i hi (by have := hno i hi; omega)
      · rw [vup_s]
        by_cases z : j = 2 - k
        · subst z; rw [vup_s]; omega
        · rw [vup_n z]; exact hd j (by omega)
      · rw [vup_n (by decide), vup_n (by decide), vup_n (by omega), vup_n (by omega), vup_n (by omega), vup_n (by decide)]
        exact hf
    refine wa_iload_n dX4_choose_0 rfl ?_
    refine wa_iconst dX4_choose_1 ?_
    refine wa_icmp_lt 11 dX4_choose_2 (by decide) (by exact ⟨by omega, by omega⟩) (by exact ⟨by omega, by omega⟩) (fun c_2 => ?_) (fun c_2 => ?_)
    · refine wa_iload_n dX4_choose_11 rfl ?_
      refine wa_iload_n dX4_choose_12 rfl ?_
      refine wa_ishr dX4_choose_13 (r := ((set >>> (2 - k) : Nat) : Int)) (tm_set1 set hset8 (2 - k) (by omega)) ?_
      refine wa_iconst dX4_choose_14 ?_
      refine wa_iand dX4_choose_15 (r := if set.testBit (2 - k) then 1 else 0) (tm_set2 set hset8 (2 - k) (by omega)) ?_
      rw [if_neg hset]
      refine wa_if_ne 36 dX4_choose_16 (by decide) (by exact ⟨by omega, by omega⟩) (fun c_16 => ?_) (fun c_16 => ?_)
      · omega
      · refine wa_aload_n dX4_choose_19 rfl ?_
        refine wt_getR dX4_choose_20 FX4_31 (by assumption) (by assumption) ?_
        refine wa_iload_n dX4_choose_23 rfl ?_
        refine wa_iconst dX4_choose_24 ?_
        refine wt_iast _ dX4_choose_25 (by assumption) rfl (by omega) (by exact ⟨by omega, by omega⟩) ?_
        refine wa_aload_n dX4_choose_26 rfl ?_
        refine wa_aload_n dX4_choose_27 rfl ?_
        refine wa_iload_n dX4_choose_28 rfl ?_
        refine wa_iload_n dX4_choose_29 rfl ?_
        refine wa_iconst dX4_choose_30 ?_
        refine wa_iadd dX4_choose_31 ?_
        rw [show ((2 - k : Nat) : Int) + 1 = ((3 - k : Nat) : Int) by omega]
        refine wa_callV (ci := 4) dX4_choose_32 KX4_choose LX4_77 ⟨_, _, rfl, by decide⟩ o143 (ih (va_up I 148 (va_up (I 148) (2 - k) (-1))) L p sz lf n set r T hpre hT) (by omega) rfl (Nat.le_of_ble_eq_true rfl) rfl rfl (fun r h' hq => ?_)
        obtain ⟨rfl, I3, L3, rfl, t1, t2, t3, t4, t5⟩ := hq
        simp only [ENr] at t5
        simp (disch := omega) only [vup_n, vup_s] at t5
        refine wa_return dX4_choose_35 rfl ?_
        refine ⟨rfl, I3, L3, rfl, fun a a1 a2 a3 => by rw [t1 a a1 a2 a3, vup_n a3], t2, fun j hj hs => ?_, fun j hj => ?_, t5⟩
        · rw [t3 j hj (by rw [vup_n (by omega)]; omega), vup_n (by decide)]
        · rw [t4 j (by omega), vup_s, vup_n (by omega)]
    · omega
theorem choose_all (hL : LX S) : ∀ k, k ≤ 3 → ChIH S k := by
  intro k
  induction k with
  | zero => intro _ I L p sz lf n set r T h hT; exact choose_0 hL h hT
  | succ k ih => intro hk; exact choose_s hL (by omega) (ih (by omega))
end S28
