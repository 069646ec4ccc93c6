/-! ===== 99g: the reference: isStand; what finds goes through ===== -/
def lpF (f : Int → List E6) : Nat → Int → List E6
  | 0, _ => []
  | j + 1, z => f z ++ lpF f j (z + 1)
def okB (set : Nat) (ho : Nat → Int) (l : Nat) (z : Int) : Bool := if set.testBit l = true then decide (0 ≤ z) && decide (ho z.toNat = z) else decide (z < 0)
abbrev F3 (ls pl : Nat → Int) (w : List Int) (r x y z : Int) : List E6 := if 0 ≤ plcW pl (chT (x, y, z)) w then [mkE ls pl w r (chT (x, y, z))] else []
abbrev gZ (ls pl : Nat → Int) (w : List Int) (r : Int) (set : Nat) (ho : Nat → Int) (x y z : Int) : List E6 := if okB set ho 2 z = true then F3 ls pl w r x y z else []
abbrev gY (ls pl : Nat → Int) (w : List Int) (r : Int) (set : Nat) (ho : Nat → Int) (n : Nat) (x y : Int) : List E6 := if okB set ho 1 y = true then lpF (gZ ls pl w r set ho x y) (n + 1) (-1) else []
abbrev gX (ls pl : Nat → Int) (w : List Int) (r : Int) (set : Nat) (ho : Nat → Int) (n : Nat) (x : Int) : List E6 := if okB set ho 0 x = true then lpF (gY ls pl w r set ho n x) (n + 1) (-1) else []
set_option maxRecDepth 20000 in
theorem evW_ch {pl ch ch' : Nat → Int} (h : ∀ l, l < 3 → ch' l = ch l) : ∀ w : List Int, (∀ s ∈ w, s ≤ 9) → evW pl ch' w = evW pl ch w := by
  intro w
  induction w with
  | nil => intro _; rfl
  | cons s w ih =>
    intro h9
    have h9s := h9 s List.mem_cons_self
    have e := h (s - 7).toNat (by omega)
    simp only [evW, ih (fun y hy => h9 y (List.mem_cons_of_mem _ hy)), e]
set_option maxRecDepth 20000 in
theorem mkE_ch {ls pl ch ch' : Nat → Int} (h : ∀ l, l < 3 → ch' l = ch l) {w : List Int} (h9 : ∀ s ∈ w, s ≤ 9) (r : Int) : mkE ls pl w r ch' = mkE ls pl w r ch := by
  have h0 := h 0 (by decide)
  have h1 : ch' (0 + 1) = ch (0 + 1) := h 1 (by decide)
  have h2 : ch' (0 + 1 + 1) = ch (0 + 1 + 1) := h 2 (by decide)
  have h1' := h 1 (by decide)
  have h2' := h 2 (by decide)
  have e : plcW pl ch' w = plcW pl ch w := by unfold plcW; rw [evW_ch h w h9]
  unfold mkE
  rw [e]
  simp only [gen3, h0, h1, h2, h1', h2']
set_option maxRecDepth 20000 in
theorem metT_F3 {ls pl ch : Nat → Int} {w : List Int} (h9 : ∀ s ∈ w, s ≤ 9) {r x y z : Int} (h0 : ch 0 = x) (h1 : ch 1 = y) (h2 : ch 2 = z) {T : List E6} (hT : T.length ≤ 200) : metT ls pl w r ch T = (T ++ F3 ls pl w r x y z).take 200 := by
  have hc : ∀ l, l < 3 → ch l = chT (x, y, z) l := fun l hl => by
    unfold chT
    rcases (by omega : l = 0 ∨ l = 1 ∨ l = 2) with rfl | rfl | rfl
    · rw [if_pos rfl]; exact h0
    · rw [if_neg (by decide), if_pos rfl]; exact h1
    · rw [if_neg (by decide), if_neg (by decide)]; exact h2
  unfold metT F3
  rw [mkE_ch hc h9, show plcW pl ch w = plcW pl (chT (x, y, z)) w by unfold plcW; rw [evW_ch hc w h9]]
  split
  · rfl
  · rw [List.append_nil, List.take_of_length_le hT]
set_option maxRecDepth 20000 in
theorem lpF_none {f : Int → List E6} : ∀ (j : Nat) (z : Int), (∀ i, z ≤ i → f i = []) → lpF f j z = [] := by
  intro j
  induction j with
  | zero => intro z _; rfl
  | succ j ih => intro z h; simp only [lpF]; rw [h z (Int.le_refl _), ih (z + 1) (fun i hi => h i (by omega))]; rfl
set_option maxRecDepth 20000 in
theorem lpF_range {f : Int → List E6} : ∀ (j k : Nat), lpF f j (k : Int) = (List.range' k j).flatMap (fun (c : Nat) => f (c : Int)) := by
  intro j
  induction j with
  | zero => intro k; rfl
  | succ j ih =>
    intro k
    simp only [lpF]
    have := ih (k + 1)
    rw [show ((k + 1 : Nat) : Int) = (k : Int) + 1 by omega] at this
    rw [this, List.range'_succ, List.flatMap_cons]
set_option maxRecDepth 20000 in
theorem lp_cand {set n l : Nat} {ho : Nat → Int} {g : Int → List E6} : lpF (fun z => if okB set ho l z = true then g z else []) (n + 1) (-1) = if set.testBit l = true then (List.range n).flatMap (fun (c : Nat) => if ho c = (c : Int) then g (c : Int) else []) else g (-1) := by
  by_cases b : set.testBit l = true
  · rw [if_pos b]
    simp only [lpF]
    have e : okB set ho l (-1) = false := by unfold okB; rw [if_pos b]; rfl
    rw [if_neg (by rw [e]; decide), List.nil_append]
    have := lpF_range (f := fun z => if okB set ho l z = true then g z else []) n 0
    rw [show ((0 : Nat) : Int) = -1 + 1 by decide] at this
    rw [this, List.range_eq_range']
    refine flatMap_cg _ (fun c _ => ?_)
    have e2 : (okB set ho l (c : Int) = true) ↔ ho c = (c : Int) := by
      unfold okB
      rw [if_pos b, Int.toNat_natCast]
      simp
    by_cases z : ho c = (c : Int)
    · rw [if_pos z, if_pos (e2.mpr z)]
    · rw [if_neg z, if_neg (fun q => z (e2.mp q))]
  · rw [if_neg b]
    simp only [lpF]
    have e : ∀ z : Int, okB set ho l z = decide (z < 0) := fun z => by unfold okB; rw [if_neg b]
    rw [if_pos (by rw [e]; decide), lpF_none n _ (fun i hi => by rw [if_neg (by rw [e]; simp; omega)]), List.append_nil]
section SENW
variable {n set : Nat} {ho : Nat → Int} {C : (Nat → Int) → Bool} {F : Int × Int × Int → E6}
set_option maxRecDepth 20000 in
theorem enw_s (k : Nat) (ch : Nat → Int) : (ENW n set ho C (k + 1) ch).map F = if set.testBit (2 - k) = true then (List.range n).flatMap (fun (c : Nat) => if ho c = (c : Int) then (ENW n set ho C k (va_up ch (2 - k) (c : Int))).map F else []) else (ENW n set ho C k (va_up ch (2 - k) (-1))).map F := by
  simp only [ENW]
  by_cases b : set.testBit (2 - k) = true
  · rw [if_pos b, if_pos b, List.map_flatMap]
    refine flatMap_cg _ (fun c _ => ?_)
    split
    · rfl
    · rfl
  · rw [if_neg b, if_neg b]
set_option maxRecDepth 20000 in
theorem enw_0 (ch : Nat → Int) : (ENW n set ho C 0 ch).map F = if C ch = true then [F (ch 0, ch 1, ch 2)] else [] := by
  simp only [ENW]
  split
  · rfl
  · rfl
end SENW
set_option maxRecDepth 20000 in
theorem F3_enw {n set : Nat} {ho ls pl : Nat → Int} {w : List Int} (ho1 : okW w) (hd : dpth w = 1) (h9 : ∀ s ∈ w, s ≤ 9) (r x y z : Int) : F3 ls pl w r x y z = (ENW n set ho (fun ch => (evW pl ch w).isSome) 0 (va_up (va_up (va_up (fun _ => 0) 0 x) 1 y) 2 z)).map (fun q => mkE ls pl w r (chT q)) := by
  rw [enw_0]
  have hc : ∀ l, l < 3 → va_up (va_up (va_up (fun _ => (0 : Int)) 0 x) 1 y) 2 z l = chT (x, y, z) l := fun l hl => by
    rcases (by omega : l = 0 ∨ l = 1 ∨ l = 2) with rfl | rfl | rfl
    · rfl
    · rfl
    · rfl
  rw [evW_ch hc w h9]
  unfold F3
  have hiff : 0 ≤ plcW pl (chT (x, y, z)) w ↔ (evW pl (chT (x, y, z)) w).isSome = true := by
    unfold plcW
    cases he : evW pl (chT (x, y, z)) w with
    | none => exact ⟨fun q => by simp at q, fun q => by simp at q⟩
    | some st =>
      have hl := evW_len w st ho1 he
      rw [hd] at hl
      refine ⟨fun _ => rfl, fun _ => ?_⟩
      have hin := evW_all (P := fun x => 0 ≤ x) (fun K _ hK => by omega) (fun l _ hK => by omega) w st h9 he
      simp only [Option.getD_some]
      exact hin (st.getD 0 (-1)) (by
        cases st with
        | nil => simp at hl
        | cons a b => simp)
  by_cases c : 0 ≤ plcW pl (chT (x, y, z)) w
  · rw [if_pos c, if_pos (hiff.mp c)]; rfl
  · rw [if_neg c, if_neg (fun q => c (hiff.mpr q))]
-- what finds goes through is what the FINDINGS are
set_option maxRecDepth 20000 in
theorem gX_all {n : Nat} {ho ls pl : Nat → Int} {w : List Int} (ho1 : okW w) (hd : dpth w = 1) (h9 : ∀ s ∈ w, s ≤ 9) (r : Int) : (lpF (gX ls pl w r (letW w) ho n) (n + 1) (-1)).take 200 = ENW6 n ho pl ls w r := by
  have z0 : ∀ x y : Int, lpF (gZ ls pl w r (letW w) ho x y) (n + 1) (-1) = (ENW n (letW w) ho (fun ch => (evW pl ch w).isSome) 1 (va_up (va_up (fun _ => 0) 0 x) 1 y)).map (fun q => mkE ls pl w r (chT q)) := fun x y => by
    rw [enw_s]
    have := lp_cand (set := letW w) (n := n) (l := 2) (ho := ho) (g := F3 ls pl w r x y)
    refine this.trans ?_
    rw [F3_enw (n := n) (set := letW w) (ho := ho) ho1 hd h9]
    refine congrArg (fun A => if (letW w).testBit 2 = true then A else _) ?_
    refine flatMap_cg _ (fun c _ => ?_)
    rw [F3_enw (n := n) (set := letW w) (ho := ho) ho1 hd h9]
  have z1 : ∀ x : Int, lpF (gY ls pl w r (letW w) ho n x) (n + 1) (-1) = (ENW n (letW w) ho (fun ch => (evW pl ch w).isSome) 2 (va_up (fun _ => 0) 0 x)).map (fun q => mkE ls pl w r (chT q)) := fun x => by
    rw [enw_s]
    have := lp_cand (set := letW w) (n := n) (l := 1) (ho := ho) (g := fun y => lpF (gZ ls pl w r (letW w) ho x y) (n + 1) (-1))
    refine this.trans ?_
    rw [z0]
    refine congrArg (fun A => if (letW w).testBit 1 = true then A else _) ?_
    refine flatMap_cg _ (fun c _ => ?_)
    rw [z0]
  have z2 : lpF (gX ls pl w r (letW w) ho n) (n + 1) (-1) = (ENW n (letW w) ho (fun ch => (evW pl ch w).isSome) 3 (fun _ => 0)).map (fun q => mkE ls pl w r (chT q)) := by
    rw [enw_s]
    have := lp_cand (set := letW w) (n := n) (l := 0) (ho := ho) (g := fun x => lpF (gY ls pl w r (letW w) ho n x) (n + 1) (-1))
    refine this.trans ?_
    rw [z1]
    refine congrArg (fun A => if (letW w).testBit 0 = true then A else _) ?_
    refine flatMap_cg _ (fun c _ => ?_)
    rw [z1]
  rw [z2]
  unfold ENW6 FNDW
  rw [List.map_take]
  rfl
set_option maxRecDepth 20000 in
theorem ENW_mem {n set : Nat} {ho : Nat → Int} {C : (Nat → Int) → Bool} {P : Int → Prop} (hP : ∀ c : Nat, c < n → ho c = (c : Int) → P (c : Int)) : ∀ (k : Nat) (ch : Nat → Int), k ≤ 3 → (∀ l, l + k < 3 → ch l = -1 ∨ P (ch l)) → ∀ q ∈ ENW n set ho C k ch, ∀ l, l < 3 → chT q l = -1 ∨ P (chT q l) := by
  intro k
  induction k with
  | zero =>
    intro ch _ h q hq l hl
    simp only [ENW] at hq
    split at hq
    · rw [List.mem_singleton] at hq
      subst hq
      have : chT (ch 0, ch 1, ch 2) l = ch l := by
        rcases (by omega : l = 0 ∨ l = 1 ∨ l = 2) with rfl | rfl | rfl
        · rfl
        · rfl
        · rfl
      rw [this]
      exact h l (by omega)
    · cases hq
  | succ k ih =>
    intro ch hk h q hq
    simp only [ENW] at hq
    split at hq
    · obtain ⟨c, hc, hq⟩ := List.mem_flatMap.mp hq
      have hc := List.mem_range.mp hc
      split at hq
      · next z =>
        refine ih _ (by omega) (fun l hl => ?_) q hq
        by_cases e : l = 2 - k
        · subst e; rw [vup_s]; exact Or.inr (hP c hc z)
        · rw [vup_n e]; exact h l (by omega)
      · cases hq
    · refine ih _ (by omega) (fun l hl => ?_) q hq
      by_cases e : l = 2 - k
      · subst e; rw [vup_s]; exact Or.inl rfl
      · rw [vup_n e]; exact h l (by omega)
-- the least GENERATIONS count at CLASSES alone
set_option maxRecDepth 20000 in
theorem ENW6_ls {n : Nat} {ho pl ls ls' : Nat → Int} {w : List Int} {P : Int → Prop} (ho1 : okW w) (hd : dpth w = 1) (h9 : ∀ s ∈ w, s ≤ 9) (hP : ∀ c : Nat, c < n → ho c = (c : Int) → P (c : Int)) (hpl : ∀ K, K < 2604 → ¬ pl K < 0 → P (pl K)) (hls : ∀ c : Int, P c → 0 ≤ c ∧ c < 50 ∧ ls' c.toNat = ls c.toNat) (r : Int) : ENW6 n ho pl ls' w r = ENW6 n ho pl ls w r := by
  unfold ENW6
  refine List.map_congr_left (fun q hq => ?_)
  have hm := ENW_mem hP 3 _ (Nat.le_refl _) (fun l hl => by omega) q (List.mem_of_mem_take hq)
  have sv : ∀ x : Int, x = -1 ∨ P x → svOf ls' 50 0 x = svOf ls 50 0 x := fun x hx => by
    rcases hx with rfl | hx
    · rw [svOf_neg (by decide), svOf_neg (by decide)]
    · obtain ⟨a, b, c⟩ := hls x hx
      obtain ⟨j, rfl⟩ : ∃ j : Nat, x = (j : Int) := ⟨x.toNat, by omega⟩
      rw [svOf_in (by omega), svOf_in (by omega)]
      rw [Int.toNat_natCast] at c
      exact c
  have hp : PlW pl w q = -1 ∨ P (PlW pl w q) := by
    unfold PlW
    cases he : evW pl (chT q) w with
    | none => exact Or.inl rfl
    | some st =>
      have hl := evW_len w st ho1 he
      rw [hd] at hl
      have hin := evW_all (P := P) hpl (fun l hl z => by
        rcases hm l hl with y | y
        · omega
        · exact y) w st h9 he
      simp only [Option.getD_some]
      exact Or.inr (hin (st.getD 0 (-1)) (by
        cases st with
        | nil => simp at hl
        | cons a b => simp))
  have e : GnW ls' pl w q = GnW ls pl w q := by
    unfold GnW
    rw [sv _ hp]
    simp only [gen3, sv _ (hm 0 (by decide)), sv _ (hm (0 + 1) (by decide)), sv _ (hm (0 + 1 + 1) (by decide))]
  rw [e]
section S99g
variable {S : tmS} {I : Nat → Nat → Int} {L : Nat → Nat → Int64}
set_option maxRecDepth 20000 in
theorem c_misStand (hL : LX S) {n set : Nat} (hset : set < 8) {ho : Nat → Int} (h50 : n ≤ 50) (hh : ∀ t, t < n → I 169 (202 + t) = ho t) (hh2 : ∀ t, t < n → inR (ho t)) {l : Nat} (hl : l < 3) {l' : Int} (el : l' = (l : Int)) {z : Int} (hz : -1 ≤ z ∧ z < n) : tmC yX12_isStand kX12_isStand 2 0 0 [tR 168, tI set, tI l', tI z] (S, I, L) (tmF (some (tI (if okB set ho l z = true then 1 else 0))) (S, I, L)) := by
  subst el
  refine tmC.mk (lv := [some (tR 168), some (tI set), some (tI l), some (tI z)]) 0 ⟨rfl, by decide +kernel, by decide⟩ rfl rfl ?_
  have o168 := oX168 hL
  have r168_0 := rX168_0 hL
  have r168_1 := rX168_1 hL
  have r168_3 := rX168_3 hL
  have r168_4 := rX168_4 hL
  have r168_5 := rX168_5 hL
  have r168_6 := rX168_6 hL
  have r168_7 := rX168_7 hL
  have r168_8 := rX168_8 hL
  have r168_11 := rX168_11 hL
  have r168_13 := rX168_13 hL
  have r168_17 := rX168_17 hL
  have r168_18 := rX168_18 hL
  have r168_19 := rX168_19 hL
  have r168_21 := rX168_21 hL
  have r168_22 := rX168_22 hL
  have r168_23 := rX168_23 hL
  have r168_24 := rX168_24 hL
  have r168_25 := rX168_25 hL
  have r168_26 := rX168_26 hL
  have r168_27 := rX168_27 hL
  have r168_28 := rX168_28 hL
  have r168_29 := rX168_29 hL
  have r168_30 := rX168_30 hL
  by_cases b : set.testBit l = true
  · by_cases c0 : z < 0
    · have e : okB set ho l z = false := by unfold okB; rw [if_pos b]; simp; omega
      rw [if_neg (by rw [e]; decide)]
      refine wa_iload_n dX12_isStand_0 rfl ?_
      refine wa_iload_n dX12_isStand_1 rfl ?_
      refine wa_ishr dX12_isStand_2 (r := ((set >>> l : Nat) : Int)) (tm_set1 set hset l hl) ?_
      refine wa_iconst dX12_isStand_3 ?_
      refine wa_iand dX12_isStand_4 (r := if set.testBit l then 1 else 0) (tm_set2 set hset l hl) ?_
      rw [if_pos b]
      refine wa_if_ne 20 dX12_isStand_5 (by decide) (by exact ⟨by omega, by omega⟩) (fun c_5 => ?_) (fun c_5 => ?_)
      · refine wa_iload_n dX12_isStand_20 rfl ?_
        refine wa_if_lt 37 dX12_isStand_21 (by decide) (by exact ⟨by omega, by omega⟩) (fun c_21 => ?_) (fun c_21 => ?_)
        · refine wa_iconst dX12_isStand_37 ?_
          refine wa_zreturn dX12_isStand_38 rfl (Or.inl rfl) ?_
          exact ⟨rfl, rfl⟩
        · omega
      · omega
    · obtain ⟨c, rfl⟩ : ∃ c : Nat, z = (c : Int) := ⟨z.toNat, by omega⟩
      have kc := c_mclassOf (I := I) (L := L) hL c (by omega)
      rw [hh c (by omega)] at kc
      have hr := hh2 c (by omega)
      by_cases d : ho c = (c : Int)
      · have e : okB set ho l (c : Int) = true := by unfold okB; rw [if_pos b, Int.toNat_natCast]; simp [d]
        rw [if_pos e]
        rw [d] at kc hr
        refine wa_iload_n dX12_isStand_0 rfl ?_
        refine wa_iload_n dX12_isStand_1 rfl ?_
        refine wa_ishr dX12_isStand_2 (r := ((set >>> l : Nat) : Int)) (tm_set1 set hset l hl) ?_
        refine wa_iconst dX12_isStand_3 ?_
        refine wa_iand dX12_isStand_4 (r := if set.testBit l then 1 else 0) (tm_set2 set hset l hl) ?_
        rw [if_pos b]
        refine wa_if_ne 20 dX12_isStand_5 (by decide) (by exact ⟨by omega, by omega⟩) (fun c_5 => ?_) (fun c_5 => ?_)
        · refine wa_iload_n dX12_isStand_20 rfl ?_
          refine wa_if_lt 37 dX12_isStand_21 (by decide) (by exact ⟨by omega, by omega⟩) (fun c_21 => ?_) (fun c_21 => ?_)
          · omega
          · refine wa_aload_n dX12_isStand_24 rfl ?_
            refine wa_iload_n dX12_isStand_25 rfl ?_
            refine wa_callVf (ci := 12) dX12_isStand_26 KX12_classOf LX12_95 ⟨_, _, rfl, by decide⟩ o168 (kc) (by decide) rfl rfl (Nat.le_of_ble_eq_true rfl) rfl rfl ?_
            refine wa_iload_n dX12_isStand_29 rfl ?_
            refine wa_icmp_ne 37 dX12_isStand_30 (by decide) (by exact ⟨by omega, by omega⟩) (by exact ⟨by omega, by omega⟩) (fun c_30 => ?_) (fun c_30 => ?_)
            · omega
            · refine wa_iconst dX12_isStand_33 ?_
              refine wa_goto 38 dX12_isStand_34 (by decide) ?_
              refine wa_zreturn dX12_isStand_38 rfl (Or.inr rfl) ?_
              exact ⟨rfl, rfl⟩
        · omega
      · have e : okB set ho l (c : Int) = false := by unfold okB; rw [if_pos b, Int.toNat_natCast]; simp [d]
        rw [if_neg (by rw [e]; decide)]
        refine wa_iload_n dX12_isStand_0 rfl ?_
        refine wa_iload_n dX12_isStand_1 rfl ?_
        refine wa_ishr dX12_isStand_2 (r := ((set >>> l : Nat) : Int)) (tm_set1 set hset l hl) ?_
        refine wa_iconst dX12_isStand_3 ?_
        refine wa_iand dX12_isStand_4 (r := if set.testBit l then 1 else 0) (tm_set2 set hset l hl) ?_
        rw [if_pos b]
        refine wa_if_ne 20 dX12_isStand_5 (by decide) (by first | exact hr | exact ⟨by omega, by omega⟩) (fun c_5 => ?_) (fun c_5 => ?_)
        · refine wa_iload_n dX12_isStand_20 rfl ?_
          refine wa_if_lt 37 dX12_isStand_21 (by decide) (by first | exact hr | exact ⟨by omega, by omega⟩) (fun c_21 => ?_) (fun c_21 => ?_)
          · omega
          · refine wa_aload_n dX12_isStand_24 rfl ?_
            refine wa_iload_n dX12_isStand_25 rfl ?_
            refine wa_callVf (ci := 12) dX12_isStand_26 KX12_classOf LX12_95 ⟨_, _, rfl, by decide⟩ o168 (kc) (by decide) rfl rfl (Nat.le_of_ble_eq_true rfl) rfl rfl ?_
            refine wa_iload_n dX12_isStand_29 rfl ?_
            refine wa_icmp_ne 37 dX12_isStand_30 (by decide) (by first | exact hr | exact ⟨by omega, by omega⟩) (by first | exact hr | exact ⟨by omega, by omega⟩) (fun c_30 => ?_) (fun c_30 => ?_)
            · refine wa_iconst dX12_isStand_37 ?_
              refine wa_zreturn dX12_isStand_38 rfl (Or.inl rfl) ?_
              exact ⟨rfl, rfl⟩
            · omega
        · omega
  · have e : okB set ho l z = decide (z < 0) := by unfold okB; rw [if_neg b]
    by_cases c0 : z < 0
    · rw [if_pos (by rw [e]; simpa using c0)]
      refine wa_iload_n dX12_isStand_0 rfl ?_
      refine wa_iload_n dX12_isStand_1 rfl ?_
      refine wa_ishr dX12_isStand_2 (r := ((set >>> l : Nat) : Int)) (tm_set1 set hset l hl) ?_
      refine wa_iconst dX12_isStand_3 ?_
      refine wa_iand dX12_isStand_4 (r := if set.testBit l then 1 else 0) (tm_set2 set hset l hl) ?_
      rw [if_neg b]
      refine wa_if_ne 20 dX12_isStand_5 (by decide) (by exact ⟨by omega, by omega⟩) (fun c_5 => ?_) (fun c_5 => ?_)
      · omega
      · refine wa_iload_n dX12_isStand_8 rfl ?_
        refine wa_if_ge 16 dX12_isStand_9 (by decide) (by exact ⟨by omega, by omega⟩) (fun c_9 => ?_) (fun c_9 => ?_)
        · omega
        · refine wa_iconst dX12_isStand_12 ?_
          refine wa_goto 38 dX12_isStand_13 (by decide) ?_
          refine wa_zreturn dX12_isStand_38 rfl (Or.inr rfl) ?_
          exact ⟨rfl, rfl⟩
    · rw [if_neg (by rw [e]; simpa using c0)]
      refine wa_iload_n dX12_isStand_0 rfl ?_
      refine wa_iload_n dX12_isStand_1 rfl ?_
      refine wa_ishr dX12_isStand_2 (r := ((set >>> l : Nat) : Int)) (tm_set1 set hset l hl) ?_
      refine wa_iconst dX12_isStand_3 ?_
      refine wa_iand dX12_isStand_4 (r := if set.testBit l then 1 else 0) (tm_set2 set hset l hl) ?_
      rw [if_neg b]
      refine wa_if_ne 20 dX12_isStand_5 (by decide) (by exact ⟨by omega, by omega⟩) (fun c_5 => ?_) (fun c_5 => ?_)
      · omega
      · refine wa_iload_n dX12_isStand_8 rfl ?_
        refine wa_if_ge 16 dX12_isStand_9 (by decide) (by exact ⟨by omega, by omega⟩) (fun c_9 => ?_) (fun c_9 => ?_)
        · refine wa_iconst dX12_isStand_16 ?_
          refine wa_goto 38 dX12_isStand_17 (by decide) ?_
          refine wa_zreturn dX12_isStand_38 rfl (Or.inl rfl) ?_
          exact ⟨rfl, rfl⟩
        · omega
end S99g
