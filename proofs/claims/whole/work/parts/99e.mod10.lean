/-! ===== 99e: the reference: placeOf ===== -/
def dpth : List Int → Nat
  | [] => 0
  | s :: w => if 4 ≤ s ∧ s ≤ 5 then dpth w else if s = 6 then dpth w - 1 else dpth w + 1
def okW : List Int → Prop
  | [] => True
  | s :: w => okW w ∧ (4 ≤ s → s ≤ 5 → 1 ≤ dpth w) ∧ (s = 6 → 2 ≤ dpth w)
/-- nodes spell the word -/
def TreeW (w : List Int) : Prop := ∃ (fr m : Nat) (sg on ot : Nat → Int) (i : Nat), PW fr m on ot ∧ POs fr m sg on ot ∧ fr ≤ i ∧ i < m ∧ pf sg on ot i = w
set_option maxRecDepth 20000 in
theorem okW_node {fr m : Nat} {sg on ot : Nat → Int} (hw : PW fr m on ot) (hp : POs fr m sg on ot) : ∀ i : Nat, fr ≤ i → i < m → ∀ w : List Int, okW w → okW (pf sg on ot i ++ w) ∧ dpth (pf sg on ot i ++ w) = dpth w + 1 := by
  intro i
  induction i using Nat.strongRecOn with
  | ind i ih =>
    intro h1 h2 w ho
    obtain ⟨p1, p2, p3, p4, p5, p6⟩ := hp i h1 h2
    obtain ⟨g1, g2, g3, g4⟩ := hw i h1 h2
    have e := pf_eq (sg := sg) hw h1 h2
    by_cases c0 : sg i < 4 ∨ 7 ≤ sg i
    · obtain ⟨a, b⟩ := p4 c0
      rw [a, b, pf_neg (x := -1) (by decide)] at e
      rw [e]
      simp only [List.append_nil, List.cons_append, List.nil_append, okW, dpth]
      rw [if_neg (by omega), if_neg (by omega)]
      exact ⟨⟨ho, fun _ _ => by omega, fun _ => by omega⟩, rfl⟩
    · by_cases c6 : sg i = 6
      · obtain ⟨a0, a, b⟩ := p3 c6
        have q1 : on i = ((on i).toNat : Int) := by omega
        have q2 : ot i = ((ot i).toNat : Int) := by omega
        obtain ⟨i2, i2'⟩ := ih (ot i).toNat (by omega) (by omega) (by omega) w ho
        rw [← q2] at i2 i2'
        obtain ⟨i1, i1'⟩ := ih (on i).toNat (by omega) (by omega) (by omega) (pf sg on ot (ot i) ++ w) i2
        rw [← q1] at i1 i1'
        rw [e]
        simp only [List.cons_append, List.append_assoc, okW, dpth]
        rw [if_neg (by omega), if_pos c6]
        exact ⟨⟨i1, fun _ _ => by omega, fun _ => by omega⟩, by omega⟩
      · obtain ⟨a0, a, b⟩ := p2 (by omega) (by omega)
        have q1 : on i = ((on i).toNat : Int) := by omega
        obtain ⟨i1, i1'⟩ := ih (on i).toNat (by omega) (by omega) (by omega) w ho
        rw [← q1] at i1 i1'
        rw [b, pf_neg (x := -1) (by decide), List.append_nil] at e
        rw [e]
        simp only [List.cons_append, okW, dpth]
        rw [if_pos (by omega)]
        exact ⟨⟨i1, fun _ _ => by omega, fun _ => by omega⟩, i1'⟩
set_option maxRecDepth 20000 in
theorem TreeW.ok {w : List Int} (h : TreeW w) : okW w ∧ dpth w = 1 := by
  obtain ⟨fr, m, sg, on, ot, i, h1, h2, h3, h4, rfl⟩ := h
  have := okW_node h1 h2 i h3 h4 [] trivial
  rw [List.append_nil] at this
  exact this
set_option maxRecDepth 20000 in
theorem okW_drop : ∀ (k : Nat) (w : List Int), okW w → okW (w.drop k) := by
  intro k
  induction k with
  | zero => intro w h; exact h
  | succ k ih =>
    intro w h
    cases w with
    | nil => exact h
    | cons s w => exact ih w h.1
set_option maxRecDepth 20000 in
theorem evW_none {pl ch : Nat → Int} : ∀ (a b : List Int), evW pl ch b = none → evW pl ch (a ++ b) = none := by
  intro a
  induction a with
  | nil => intro b h; exact h
  | cons s a ih => intro b h; simp only [List.cons_append, evW, ih b h, Option.bind_none]
set_option maxRecDepth 20000 in
theorem evW_len {pl ch : Nat → Int} : ∀ (w st : List Int), okW w → evW pl ch w = some st → st.length = dpth w := by
  intro w
  induction w with
  | nil => intro st _ h; simp only [evW, Option.some.injEq] at h; rw [← h]; rfl
  | cons s w ih =>
    intro st ho h
    obtain ⟨o1, o2, o3⟩ := ho
    simp only [evW] at h
    cases he : evW pl ch w with
    | none => rw [he] at h; cases h
    | some st0 =>
      have hl := ih st0 o1 he
      rw [he] at h
      simp only [Option.bind_some] at h
      simp only [dpth]
      by_cases c7 : 7 ≤ s
      · rw [if_pos c7] at h
        rw [if_neg (by omega), if_neg (by omega)]
        split at h
        · cases h
        · rw [← Option.some.inj h, List.length_cons]; omega
      · rw [if_neg c7] at h
        by_cases c4 : s < 4
        · rw [if_pos c4] at h
          rw [if_neg (by omega), if_neg (by omega)]
          split at h
          · cases h
          · rw [← Option.some.inj h, List.length_cons]; omega
        · rw [if_neg c4] at h
          by_cases c6 : s < 6
          · rw [if_pos c6] at h
            rw [if_pos (by omega)]
            have := o2 (by omega) (by omega)
            split at h
            · cases h
            · rw [← Option.some.inj h, List.length_cons, List.length_drop]; omega
          · rw [if_neg c6] at h
            rw [if_neg (by omega), if_pos (by omega)]
            have := o3 (by omega)
            split at h
            · cases h
            · rw [← Option.some.inj h, List.length_cons, List.length_drop]; omega
-- CLASSES told are below n
set_option maxRecDepth 20000 in
theorem evW_in {pl ch : Nat → Int} {n : Nat} (hpl : ∀ K, K < 2604 → pl K < n) (hch : ∀ l, l < 3 → ch l < n) : ∀ (w st : List Int), (∀ s ∈ w, s ≤ 9) → evW pl ch w = some st → ∀ x ∈ st, 0 ≤ x ∧ x < n := by
  have hk : ∀ s a b : Int, ¬ plK pl (tmKey s a b) < 0 → plK pl (tmKey s a b) < n := fun s a b h => by
    have := tmKey_lt s a b
    unfold plK at h ⊢
    split
    · next z => rw [if_pos z] at h; omega
    · exact hpl _ (by omega)
  intro w
  induction w with
  | nil => intro st _ h x hx; simp only [evW, Option.some.injEq] at h; rw [← h] at hx; cases hx
  | cons s w ih =>
    intro st h9 h x hx
    simp only [evW] at h
    cases he : evW pl ch w with
    | none => rw [he] at h; cases h
    | some st0 =>
      have hl := ih st0 (fun y hy => h9 y (List.mem_cons_of_mem _ hy)) he
      rw [he] at h
      simp only [Option.bind_some] at h
      have h9s := h9 s List.mem_cons_self
      by_cases c7 : 7 ≤ s
      · rw [if_pos c7] at h
        split at h
        · cases h
        · next z =>
          rw [← Option.some.inj h] at hx
          rcases List.mem_cons.mp hx with q | q
          · have := hch (s - 7).toNat (by omega); rw [q]; omega
          · exact hl x q
      · rw [if_neg c7] at h
        by_cases c4 : s < 4
        · rw [if_pos c4] at h
          split at h
          · cases h
          · next z =>
            rw [← Option.some.inj h] at hx
            rcases List.mem_cons.mp hx with q | q
            · have := hk _ _ _ z; rw [q]; omega
            · exact hl x q
        · rw [if_neg c4] at h
          by_cases c6 : s < 6
          · rw [if_pos c6] at h
            split at h
            · cases h
            · next z =>
              rw [← Option.some.inj h] at hx
              rcases List.mem_cons.mp hx with q | q
              · have := hk _ _ _ z; rw [q]; omega
              · exact hl x (List.mem_of_mem_drop q)
          · rw [if_neg c6] at h
            split at h
            · cases h
            · next z =>
              rw [← Option.some.inj h] at hx
              rcases List.mem_cons.mp hx with q | q
              · have := hk _ _ _ z; rw [q]; omega
              · exact hl x (List.mem_of_mem_drop q)
set_option maxRecDepth 20000 in
theorem stk_len (v : Nat → Int) : ∀ d, (stk v d).length = d := by
  intro d
  induction d with
  | zero => rfl
  | succ d ih => simp only [stk, List.length_cons, ih]
abbrev plcW (pl ch : Nat → Int) (w : List Int) : Int := ((evW pl ch w).getD []).getD 0 (-1)
section S99e
variable {S : tmS} {I : Nat → Nat → Int} {L : Nat → Nat → Int64}
set_option maxRecDepth 20000 in
theorem plM_tab {K : Nat} (hK : K < 2604) : (K < 4 → plM I K = I 182 K) ∧ (4 ≤ K → K < 104 → plM I K = I 183 (K - 4)) ∧ (104 ≤ K → plM I K = I 184 (K - 104)) := by
  unfold plM
  exact ⟨fun h => by rw [if_pos h], fun h1 h2 => by rw [if_neg (by omega), if_pos h2], fun h => by rw [if_neg (by omega), if_neg (by omega)]⟩
set_option maxHeartbeats 1000000 in
set_option maxRecDepth 20000 in
theorem mplace_loop (hL : LX S) {r : Nat} {wl wr : List Int} (h : MW I r wl wr) (ho : okW wl) (hd1 : dpth wl = 1) (hpl : ∀ K, K < 2604 → plM I K < 50) (hch : ∀ l, l < 3 → I 189 l < 50) (hI0 : tmIR I) : ∀ (k n : Nat) (v : Nat → Int) (x y : Option tmV), k ≤ wl.length → (∀ j, inR (v j)) → evW (plM I) (I 189) (wl.drop k) = some (stk v n) →
    tmW kX12_placeOf 2 0 0 11 [some (tR 168), some (tI r), some (tI n), some (tI ((k : Int) - 1)), x, y] [] (S, va_up I 188 v, L) (fun q h' => q = some (tI (plcW (plM I) (I 189) wl)) ∧ ∃ v', h' = (S, va_up I 188 v', L)) := by
  intro k
  have o168 := oX168 hL
  have r168_0 := rX168_0 hL
  have r168_1 := rX168_1 hL
  have r168_3 := rX168_3 hL
  have r168_4 := rX168_4 hL
  have r168_5 := rX168_5 hL
  have r168_6 := rX168_6 hL
  have r168_7 := rX168_7 hL
  have r168_8 := rX168_8 hL
  have r168_11 := rX168_11 hL
  have r168_13 := rX168_13 hL
  have r168_17 := rX168_17 hL
  have r168_18 := rX168_18 hL
  have r168_19 := rX168_19 hL
  have r168_21 := rX168_21 hL
  have r168_22 := rX168_22 hL
  have r168_23 := rX168_23 hL
  have r168_24 := rX168_24 hL
  have r168_25 := rX168_25 hL
  have r168_26 := rX168_26 hL
  have r168_27 := rX168_27 hL
  have r168_28 := rX168_28 hL
  have r168_29 := rX168_29 hL
  have r168_30 := rX168_30 hL
  have o182 := oX182 hL
  have o183 := oX183 hL
  have o184 := oX184 hL
  have o188 := oX188 hL
  have o189 := oX189 hL
  obtain ⟨h6, h120, m1, m2, m3, m4, m5, m6⟩ := id h
  have f182 : ∀ v : Nat → Int, va_up I 188 v 182 = I 182 := fun v => vup_n (by decide)
  have f183 : ∀ v : Nat → Int, va_up I 188 v 183 = I 183 := fun v => vup_n (by decide)
  have f184 : ∀ v : Nat → Int, va_up I 188 v 184 = I 184 := fun v => vup_n (by decide)
  have f189 : ∀ v : Nat → Int, va_up I 188 v 189 = I 189 := fun v => vup_n (by decide)
  induction k with
  | zero =>
    intro n v x y hk hv he
    rw [List.drop_zero] at he
    have hl := evW_len wl _ ho he
    rw [stk_len, hd1] at hl
    subst hl
    have ans : plcW (plM I) (I 189) wl = v 0 := by unfold plcW; rw [he]; rfl
    rw [ans]
    refine wa_iload_n dX12_placeOf_11 rfl ?_
    refine wa_if_lt 154 dX12_placeOf_12 (by decide) (by exact ⟨by omega, by omega⟩) (fun c_12 => ?_) (fun c_12 => ?_)
    · refine wa_aload_n dX12_placeOf_154 rfl ?_
      refine wt_getR dX12_placeOf_155 FX12_67 (by assumption) (by assumption) ?_
      refine wa_iconst dX12_placeOf_158 ?_
      refine wt_iald 0 dX12_placeOf_159 (by assumption) rfl (by omega) ?_
      rw [vup_s]
      refine wa_ireturn dX12_placeOf_160 rfl ?_
      exact ⟨rfl, v, rfl⟩
    · omega
  | succ k ih =>
    intro n v x y hk hv he
    have hkl : k < wl.length := by omega
    have hMW : MW (va_up I 188 v) r wl wr := h.row (vup_n (by decide))
    have ka := c_msignL (I := va_up I 188 v) (L := L) hL hMW (k := k) hkl
    have hs := m5 _ (getD_mem (w := wl) (k := k) hkl)
    have hlen := evW_len _ _ (okW_drop (k + 1) wl ho) he
    rw [stk_len] at hlen
    have hdl := drop_at (w := wl) (k := k) hkl
    have hok := okW_drop k wl ho
    rw [hdl] at hok
    have hin : ∀ x ∈ stk v n, 0 ≤ x ∧ x < 50 := evW_in (n := 50) hpl hch _ _ (fun s hs => (m5 s (List.mem_of_mem_drop hs)).2) he
    have hn120 : n ≤ wl.length - (k + 1) ∨ n ≤ 119 := by
      right
      have : ∀ w : List Int, dpth w ≤ w.length := by
        intro w
        induction w with
        | nil => exact Nat.le_refl _
        | cons s w ih => simp only [dpth, List.length_cons]; split; omega; split <;> omega
      have := this (wl.drop (k + 1))
      rw [List.length_drop] at this
      omega
    have hn119 : n ≤ 119 := by
      have : ∀ w : List Int, dpth w ≤ w.length := by
        intro w
        induction w with
        | nil => exact Nat.le_refl _
        | cons s w ih => simp only [dpth, List.length_cons]; split; omega; split <;> omega
      have := this (wl.drop (k + 1))
      rw [List.length_drop] at this
      omega
    have hsplit : wl = wl.take k ++ wl.drop k := (List.take_append_drop k wl).symm
    generalize hsv : wl.getD k 0 = s at *
    -- behind the value: n1 is where it goes
    have rest : ∀ (val : Int) (n1 : Nat), n1 ≤ 119 → inR val → evW (plM I) (I 189) (wl.drop k) = (if val < 0 then none else some (val :: stk v n1)) → tmW kX12_placeOf 2 0 0 130 [some (tR 168), some (tI r), some (tI n1), some (tI (k : Int)), some (tI s), some (tI val)] [] (S, va_up I 188 v, L) (fun q h' => q = some (tI (plcW (plM I) (I 189) wl)) ∧ ∃ v', h' = (S, va_up I 188 v', L)) := by
      intro val n1 hn1 hvr hev
      by_cases c : val < 0
      · rw [if_pos c] at hev
        have ans : plcW (plM I) (I 189) wl = -1 := by
          have := evW_none (wl.take k) _ hev
          rw [← hsplit] at this
          unfold plcW; rw [this]; rfl
        rw [ans]
        refine wa_iload dX12_placeOf_130 rfl ?_
        refine wa_if_ge 137 dX12_placeOf_132 (by decide) (by exact hvr) (fun c_132 => ?_) (fun c_132 => ?_)
        · omega
        · refine wa_iconst dX12_placeOf_135 ?_
          refine wa_ireturn dX12_placeOf_136 rfl ?_
          exact ⟨rfl, v, rfl⟩
      · rw [if_neg c] at hev
        have nx := ih (n1 + 1) (va_up v n1 val) (some (tI s)) (some (tI val)) (by omega) (fun j => by
          by_cases e : j = n1
          · subst e; rw [vup_s]; exact hvr
          · rw [vup_n e]; exact hv j) (by
          rw [hev]
          congr 1
          simp only [stk, vup_s]
          rw [stk_cg n1 (fun j hj => vup_n (by omega))])
        refine wa_iload dX12_placeOf_130 rfl ?_
        refine wa_if_ge 137 dX12_placeOf_132 (by decide) (by exact hvr) (fun c_132 => ?_) (fun c_132 => ?_)
        · refine wa_aload_n dX12_placeOf_137 rfl ?_
          refine wt_getR dX12_placeOf_138 FX12_67 (by assumption) (by assumption) ?_
          refine wa_iload_n dX12_placeOf_141 rfl ?_
          refine wa_iload dX12_placeOf_142 rfl ?_
          refine wt_iast n1 dX12_placeOf_144 (by assumption) rfl (by omega) (by exact hvr) ?_
          rw [vup_s, vup_vup]
          refine wa_iinc dX12_placeOf_145 rfl (by decide) ?_
          refine wa_iinc dX12_placeOf_148 rfl (by decide) ?_
          refine wa_goto 11 dX12_placeOf_151 (by decide) ?_
          exact nx
        · omega
    have ek : ((k + 1 : Nat) : Int) - 1 = (k : Int) := by omega
    rw [ek]
    rw [hdl] at rest
    simp only [evW, he, Option.bind_some] at rest
    have ar := c_marity (h := (S, va_up I 188 v, L)) s ⟨by omega, by omega⟩
    by_cases c7 : 7 ≤ s
    · have r1 := rest (I 189 (s - 7).toNat) n hn119 (hI0 _ _) (by rw [if_pos c7])
      refine wa_iload_n dX12_placeOf_11 rfl ?_
      refine wa_if_lt 154 dX12_placeOf_12 (by decide) (by exact ⟨by omega, by omega⟩) (fun c_12 => ?_) (fun c_12 => ?_)
      · omega
      · refine wa_aload_n dX12_placeOf_15 rfl ?_
        refine wa_iload_n dX12_placeOf_16 rfl ?_
        refine wa_iconst dX12_placeOf_17 ?_
        refine wa_iload_n dX12_placeOf_18 rfl ?_
        refine wa_callVf (ci := 12) dX12_placeOf_19 KX12_signAt LX12_137 ⟨_, _, rfl, by decide⟩ o168 (ka) (by decide) rfl rfl (Nat.le_of_ble_eq_true rfl) rfl rfl ?_
        refine wa_istore dX12_placeOf_22 (by decide) ?_
        refine wa_iload dX12_placeOf_24 rfl ?_
        refine wa_bipush dX12_placeOf_26 rfl ?_
        refine wa_icmp_lt 46 dX12_placeOf_28 (by decide) (by exact ⟨by omega, by omega⟩) (by exact ⟨by omega, by omega⟩) (fun c_28 => ?_) (fun c_28 => ?_)
        · omega
        · refine wa_aload_n dX12_placeOf_31 rfl ?_
          refine wt_getR dX12_placeOf_32 FX12_70 (by assumption) (by assumption) ?_
          refine wa_iload dX12_placeOf_35 rfl ?_
          refine wa_bipush dX12_placeOf_37 rfl ?_
          refine wa_isub dX12_placeOf_39 ?_
          refine wt_iald (s - 7).toNat dX12_placeOf_40 (by assumption) (by omega) (by omega) ?_
          try first | rw [f189] | skip
          refine wa_istore dX12_placeOf_41 (by decide) ?_
          refine wa_goto 130 dX12_placeOf_43 (by decide) ?_
          exact r1
    · by_cases c4 : s < 4
      · have ea : arX s = 0 := by unfold arX; rw [if_pos (Or.inl c4)]
        rw [ea] at ar
        have ekey : plK (plM I) (tmKey s (-1) (-1)) = I 182 s.toNat := by
          unfold tmKey plK
          rw [if_neg (by omega), if_pos c4, if_neg (by omega)]
          exact (plM_tab (I := I) (K := s.toNat) (by omega)).1 (by omega)
        have r1 := rest (I 182 s.toNat) n hn119 (hI0 _ _) (by rw [if_neg c7, if_pos c4, ekey])
        refine wa_iload_n dX12_placeOf_11 rfl ?_
        refine wa_if_lt 154 dX12_placeOf_12 (by decide) (by exact ⟨by omega, by omega⟩) (fun c_12 => ?_) (fun c_12 => ?_)
        · omega
        · refine wa_aload_n dX12_placeOf_15 rfl ?_
          refine wa_iload_n dX12_placeOf_16 rfl ?_
          refine wa_iconst dX12_placeOf_17 ?_
          refine wa_iload_n dX12_placeOf_18 rfl ?_
          refine wa_callVf (ci := 12) dX12_placeOf_19 KX12_signAt LX12_137 ⟨_, _, rfl, by decide⟩ o168 (ka) (by decide) rfl rfl (Nat.le_of_ble_eq_true rfl) rfl rfl ?_
          refine wa_istore dX12_placeOf_22 (by decide) ?_
          refine wa_iload dX12_placeOf_24 rfl ?_
          refine wa_bipush dX12_placeOf_26 rfl ?_
          refine wa_icmp_lt 46 dX12_placeOf_28 (by decide) (by exact ⟨by omega, by omega⟩) (by exact ⟨by omega, by omega⟩) (fun c_28 => ?_) (fun c_28 => ?_)
          · refine wa_iload dX12_placeOf_46 rfl ?_
            refine wa_callSf dX12_placeOf_48 KX12_arity LX12_106 (ar) (by decide) rfl rfl (Nat.le_of_ble_eq_true rfl) rfl rfl ?_
            refine wa_if_ne 66 dX12_placeOf_51 (by decide) (by exact ⟨by omega, by omega⟩) (fun c_51 => ?_) (fun c_51 => ?_)
            · omega
            · refine wa_aload_n dX12_placeOf_54 rfl ?_
              refine wt_getR dX12_placeOf_55 FX12_49 (by assumption) (by assumption) ?_
              refine wa_iload dX12_placeOf_58 rfl ?_
              refine wt_iald s.toNat dX12_placeOf_60 (by assumption) (by omega) (by omega) ?_
              try first | rw [f182] | skip
              refine wa_istore dX12_placeOf_61 (by decide) ?_
              refine wa_goto 130 dX12_placeOf_63 (by decide) ?_
              exact r1
          · omega
      · by_cases c6 : s < 6
        · have ea : arX s = 1 := by unfold arX; rw [if_neg (by omega), if_pos c6]
          rw [ea] at ar
          obtain ⟨n1, rfl⟩ : ∃ n1, n = n1 + 1 := ⟨n - 1, by have := hok.2.1 (by omega) (by omega); omega⟩
          have hv0 := hin (v n1) (by simp only [stk]; exact List.mem_cons_self)
          have ekey : plK (plM I) (tmKey s (v n1) (-1)) = I 183 (50 * (s - 4) + v n1).toNat := by
            unfold tmKey plK
            rw [if_neg (by omega), if_neg c4, if_neg (by omega), if_pos c6, if_neg (by omega)]
            have := (plM_tab (I := I) (K := (4 + (s - 4) * 50 + v n1).toNat) (by omega)).2.1 (by omega) (by omega)
            rw [this]
            congr 1
            omega
          have r1 := rest (I 183 (50 * (s - 4) + v n1).toNat) n1 (by omega) (hI0 _ _) (by
            rw [if_neg c7, if_neg c4, if_pos c6]
            simp only [stk, List.getD_cons_zero, List.drop_succ_cons, List.drop_zero]
            rw [ekey])
          refine wa_iload_n dX12_placeOf_11 rfl ?_
          refine wa_if_lt 154 dX12_placeOf_12 (by decide) (by exact ⟨by omega, by omega⟩) (fun c_12 => ?_) (fun c_12 => ?_)
          · omega
          · refine wa_aload_n dX12_placeOf_15 rfl ?_
            refine wa_iload_n dX12_placeOf_16 rfl ?_
            refine wa_iconst dX12_placeOf_17 ?_
            refine wa_iload_n dX12_placeOf_18 rfl ?_
            refine wa_callVf (ci := 12) dX12_placeOf_19 KX12_signAt LX12_137 ⟨_, _, rfl, by decide⟩ o168 (ka) (by decide) rfl rfl (Nat.le_of_ble_eq_true rfl) rfl rfl ?_
            refine wa_istore dX12_placeOf_22 (by decide) ?_
            refine wa_iload dX12_placeOf_24 rfl ?_
            refine wa_bipush dX12_placeOf_26 rfl ?_
            refine wa_icmp_lt 46 dX12_placeOf_28 (by decide) (by exact ⟨by omega, by omega⟩) (by exact ⟨by omega, by omega⟩) (fun c_28 => ?_) (fun c_28 => ?_)
            · refine wa_iload dX12_placeOf_46 rfl ?_
              refine wa_callSf dX12_placeOf_48 KX12_arity LX12_106 (ar) (by decide) rfl rfl (Nat.le_of_ble_eq_true rfl) rfl rfl ?_
              refine wa_if_ne 66 dX12_placeOf_51 (by decide) (by exact ⟨by omega, by omega⟩) (fun c_51 => ?_) (fun c_51 => ?_)
              · refine wa_iload dX12_placeOf_66 rfl ?_
                refine wa_callSf dX12_placeOf_68 KX12_arity LX12_106 (ar) (by decide) rfl rfl (Nat.le_of_ble_eq_true rfl) rfl rfl ?_
                refine wa_iconst dX12_placeOf_71 ?_
                refine wa_icmp_ne 102 dX12_placeOf_72 (by decide) (by exact ⟨by omega, by omega⟩) (by exact ⟨by omega, by omega⟩) (fun c_72 => ?_) (fun c_72 => ?_)
                · omega
                · refine wa_iinc dX12_placeOf_75 rfl (by decide) ?_
                  rw [show ((n1 + 1 : Nat) : Int) + -1 = (n1 : Int) by omega]
                  refine wa_aload_n dX12_placeOf_78 rfl ?_
                  refine wt_getR dX12_placeOf_79 FX12_52 (by assumption) (by assumption) ?_
                  refine wa_bipush dX12_placeOf_82 rfl ?_
                  refine wa_iload dX12_placeOf_84 rfl ?_
                  refine wa_iconst dX12_placeOf_86 ?_
                  refine wa_isub dX12_placeOf_87 ?_
                  refine wa_imul dX12_placeOf_88 ?_
                  refine wa_aload_n dX12_placeOf_89 rfl ?_
                  refine wt_getR dX12_placeOf_90 FX12_67 (by assumption) (by assumption) ?_
                  refine wa_iload_n dX12_placeOf_93 rfl ?_
                  refine wt_iald n1 dX12_placeOf_94 (by assumption) rfl (by omega) ?_
                  try first | rw [f183] | rw [vup_s] | skip
                  refine wa_iadd dX12_placeOf_95 ?_
                  refine wt_iald (50 * (s - 4) + v n1).toNat dX12_placeOf_96 (by assumption) (by omega) (by omega) ?_
                  try first | rw [f183] | rw [vup_s] | skip
                  refine wa_istore dX12_placeOf_97 (by decide) ?_
                  refine wa_goto 130 dX12_placeOf_99 (by decide) ?_
                  exact r1
              · omega
            · omega
        · have ea : arX s = 2 := by unfold arX; rw [if_neg (by omega), if_neg c6]
          rw [ea] at ar
          obtain ⟨n1, rfl⟩ : ∃ n1, n = n1 + 2 := ⟨n - 2, by have := hok.2.2 (by omega); omega⟩
          have hv0 := hin (v (n1 + 1)) (by simp only [stk]; exact List.mem_cons_self)
          have hv1 := hin (v n1) (by simp only [stk]; exact List.mem_cons_of_mem _ List.mem_cons_self)
          have ekey : plK (plM I) (tmKey s (v (n1 + 1)) (v n1)) = I 184 (50 * v (n1 + 1) + v n1).toNat := by
            unfold tmKey plK
            rw [if_neg (by omega), if_neg c4, if_neg (by omega), if_neg c6, if_neg (by omega), if_neg (by omega)]
            have := (plM_tab (I := I) (K := (4 + (2 + v (n1 + 1)) * 50 + v n1).toNat) (by omega)).2.2 (by omega)
            rw [this]
            congr 1
            omega
          have r1 := rest (I 184 (50 * v (n1 + 1) + v n1).toNat) n1 (by omega) (hI0 _ _) (by
            rw [if_neg c7, if_neg c4, if_neg c6]
            simp only [stk, List.getD_cons_zero, List.getD_cons_succ, List.drop_succ_cons, List.drop_zero]
            rw [ekey])
          refine wa_iload_n dX12_placeOf_11 rfl ?_
          refine wa_if_lt 154 dX12_placeOf_12 (by decide) (by exact ⟨by omega, by omega⟩) (fun c_12 => ?_) (fun c_12 => ?_)
          · omega
          · refine wa_aload_n dX12_placeOf_15 rfl ?_
            refine wa_iload_n dX12_placeOf_16 rfl ?_
            refine wa_iconst dX12_placeOf_17 ?_
            refine wa_iload_n dX12_placeOf_18 rfl ?_
            refine wa_callVf (ci := 12) dX12_placeOf_19 KX12_signAt LX12_137 ⟨_, _, rfl, by decide⟩ o168 (ka) (by decide) rfl rfl (Nat.le_of_ble_eq_true rfl) rfl rfl ?_
            refine wa_istore dX12_placeOf_22 (by decide) ?_
            refine wa_iload dX12_placeOf_24 rfl ?_
            refine wa_bipush dX12_placeOf_26 rfl ?_
            refine wa_icmp_lt 46 dX12_placeOf_28 (by decide) (by exact ⟨by omega, by omega⟩) (by exact ⟨by omega, by omega⟩) (fun c_28 => ?_) (fun c_28 => ?_)
            · refine wa_iload dX12_placeOf_46 rfl ?_
              refine wa_callSf dX12_placeOf_48 KX12_arity LX12_106 (ar) (by decide) rfl rfl (Nat.le_of_ble_eq_true rfl) rfl rfl ?_
              refine wa_if_ne 66 dX12_placeOf_51 (by decide) (by exact ⟨by omega, by omega⟩) (fun c_51 => ?_) (fun c_51 => ?_)
              · refine wa_iload dX12_placeOf_66 rfl ?_
                refine wa_callSf dX12_placeOf_68 KX12_arity LX12_106 (ar) (by decide) rfl rfl (Nat.le_of_ble_eq_true rfl) rfl rfl ?_
                refine wa_iconst dX12_placeOf_71 ?_
                refine wa_icmp_ne 102 dX12_placeOf_72 (by decide) (by exact ⟨by omega, by omega⟩) (by exact ⟨by omega, by omega⟩) (fun c_72 => ?_) (fun c_72 => ?_)
                · refine wa_iinc dX12_placeOf_102 rfl (by decide) ?_
                  rw [show ((n1 + 2 : Nat) : Int) + -2 = (n1 : Int) by omega]
                  refine wa_aload_n dX12_placeOf_105 rfl ?_
                  refine wt_getR dX12_placeOf_106 FX12_55 (by assumption) (by assumption) ?_
                  refine wa_bipush dX12_placeOf_109 rfl ?_
                  refine wa_aload_n dX12_placeOf_111 rfl ?_
                  refine wt_getR dX12_placeOf_112 FX12_67 (by assumption) (by assumption) ?_
                  refine wa_iload_n dX12_placeOf_115 rfl ?_
                  refine wa_iconst dX12_placeOf_116 ?_
                  refine wa_iadd dX12_placeOf_117 ?_
                  refine wt_iald (n1 + 1) dX12_placeOf_118 (by assumption) (by omega) (by omega) ?_
                  try first | rw [f184] | rw [vup_s] | skip
                  refine wa_imul dX12_placeOf_119 ?_
                  refine wa_aload_n dX12_placeOf_120 rfl ?_
                  refine wt_getR dX12_placeOf_121 FX12_67 (by assumption) (by assumption) ?_
                  refine wa_iload_n dX12_placeOf_124 rfl ?_
                  refine wt_iald n1 dX12_placeOf_125 (by assumption) rfl (by omega) ?_
                  try first | rw [f184] | rw [vup_s] | skip
                  refine wa_iadd dX12_placeOf_126 ?_
                  refine wt_iald (50 * v (n1 + 1) + v n1).toNat dX12_placeOf_127 (by assumption) (by omega) (by omega) ?_
                  try first | rw [f184] | rw [vup_s] | skip
                  refine wa_istore dX12_placeOf_128 (by decide) ?_
                  exact r1
                · omega
              · omega
            · omega
set_option maxRecDepth 20000 in
theorem c_mplaceOf (hL : LX S) {r : Nat} {wl wr : List Int} (h : MW I r wl wr) (ho : okW wl) (hd1 : dpth wl = 1) (hpl : ∀ K, K < 2604 → plM I K < 50) (hch : ∀ l, l < 3 → I 189 l < 50) : tmC yX12_placeOf kX12_placeOf 2 0 0 [tR 168, tI r] (S, I, L) (fun q h' => q = some (tI (plcW (plM I) (I 189) wl)) ∧ ∃ v', h' = (S, va_up I 188 v', L)) := by
  refine tmC.mk (lv := [some (tR 168), some (tI r), none, none, none, none]) 4 ⟨rfl, by decide +kernel, by decide⟩ rfl rfl ?_
  refine wt_ir (fun hI => ?_)
  have o168 := oX168 hL
  have r168_0 := rX168_0 hL
  have r168_1 := rX168_1 hL
  have r168_3 := rX168_3 hL
  have r168_4 := rX168_4 hL
  have r168_5 := rX168_5 hL
  have r168_6 := rX168_6 hL
  have r168_7 := rX168_7 hL
  have r168_8 := rX168_8 hL
  have r168_11 := rX168_11 hL
  have r168_13 := rX168_13 hL
  have r168_17 := rX168_17 hL
  have r168_18 := rX168_18 hL
  have r168_19 := rX168_19 hL
  have r168_21 := rX168_21 hL
  have r168_22 := rX168_22 hL
  have r168_23 := rX168_23 hL
  have r168_24 := rX168_24 hL
  have r168_25 := rX168_25 hL
  have r168_26 := rX168_26 hL
  have r168_27 := rX168_27 hL
  have r168_28 := rX168_28 hL
  have r168_29 := rX168_29 hL
  have r168_30 := rX168_30 hL
  have ks := c_msizeL (L := L) hL h
  have lp := mplace_loop (L := L) hL h ho hd1 hpl hch hI wl.length 0 (I 188) none none (Nat.le_refl _) (hI 188) (by rw [List.drop_length]; rfl)
  rw [vup_self] at lp
  refine wa_iconst dX12_placeOf_0 ?_
  refine wa_istore_n dX12_placeOf_1 (by decide) ?_
  refine wa_aload_n dX12_placeOf_2 rfl ?_
  refine wa_iload_n dX12_placeOf_3 rfl ?_
  refine wa_iconst dX12_placeOf_4 ?_
  refine wa_callVf (ci := 12) dX12_placeOf_5 KX12_sizeOf LX12_133 ⟨_, _, rfl, by decide⟩ o168 (ks) (by decide) rfl rfl (Nat.le_of_ble_eq_true rfl) rfl rfl ?_
  refine wa_iconst dX12_placeOf_8 ?_
  refine wa_isub dX12_placeOf_9 ?_
  refine wa_istore_n dX12_placeOf_10 (by decide) ?_
  exact lp
end S99e
