/-! ===== 99f: the reference: meets, isStand, finds ===== -/
/-- FINDINGS of RULE r, as the reference holds them -/
def FM (I : Nat → Nat → Int) (r : Nat) (T : List E6) : Prop := I 187 r = (T.length : Int) ∧ T.length ≤ 200 ∧ ∀ (k : Nat) (e : E6), T[k]? = some e → I 186 (1000 * r + 5 * k) = e.2.1 ∧ I 186 (1000 * r + 5 * k + 1) = e.2.2.1 ∧ I 186 (1000 * r + 5 * k + 2) = e.2.2.2.1 ∧ I 186 (1000 * r + 5 * k + 3) = e.2.2.2.2.1 ∧ I 186 (1000 * r + 5 * k + 4) = e.2.2.2.2.2
set_option maxRecDepth 20000 in
theorem FM.cg {I J : Nat → Nat → Int} {r : Nat} {T : List E6} (h : FM I r T) (e1 : J 187 = I 187) (e2 : J 186 = I 186) : FM J r T := by unfold FM; rw [e1, e2]; exact h
/-- a FINDING with LETTERS ch -/
def mkE (ls pl : Nat → Int) (w : List Int) (r : Int) (ch : Nat → Int) : E6 := (r, ch 0, ch 1, ch 2, plcW pl ch w, gen3 ls (plcW pl ch w) ch 3 0 (svOf ls 50 0 (plcW pl ch w)) + 1)
/-- a FINDING is met: it comes, if it stands and there is room -/
def metT (ls pl : Nat → Int) (w : List Int) (r : Int) (ch : Nat → Int) (T : List E6) : List E6 := if 0 ≤ plcW pl ch w then (T ++ [mkE ls pl w r ch]).take 200 else T
/-- rows that meets and finds change -/
def FdFr (I I' : Nat → Nat → Int) : Prop := ∀ a, a ≠ 186 → a ≠ 187 → a ≠ 188 → a ≠ 189 → I' a = I a
-- CLASSES told keep what places and LETTERS keep
set_option maxRecDepth 20000 in
theorem evW_all {pl ch : Nat → Int} {P : Int → Prop} (hpl : ∀ K, K < 2604 → ¬ pl K < 0 → P (pl K)) (hch : ∀ l, l < 3 → ¬ ch l < 0 → P (ch l)) : ∀ (w st : List Int), (∀ s ∈ w, s ≤ 9) → evW pl ch w = some st → ∀ x ∈ st, P x := by
  have hk : ∀ s a b : Int, ¬ plK pl (tmKey s a b) < 0 → P (plK pl (tmKey s a b)) := fun s a b h => by
    have := tmKey_lt s a b
    unfold plK at h ⊢
    by_cases z : tmKey s a b < 0
    · rw [if_pos z] at h; exact absurd (by decide) h
    · rw [if_neg z] at h ⊢; exact hpl _ (by omega) h
  intro w
  induction w with
  | nil => intro st _ h x hx; simp only [evW, Option.some.injEq] at h; rw [← h] at hx; cases hx
  | cons s w ih =>
    intro st h9 h x hx
    simp only [evW] at h
    cases he : evW pl ch w with
    | none => rw [he] at h; cases h
    | some st0 =>
      have hl := ih st0 (fun y hy => h9 y (List.mem_cons_of_mem _ hy)) he
      rw [he] at h
      simp only [Option.bind_some] at h
      have h9s := h9 s List.mem_cons_self
      by_cases c7 : 7 ≤ s
      · rw [if_pos c7] at h
        split at h
        · cases h
        · next z =>
          rw [← Option.some.inj h] at hx
          rcases List.mem_cons.mp hx with q | q
          · rw [q]; exact hch (s - 7).toNat (by omega) z
          · exact hl x q
      · rw [if_neg c7] at h
        by_cases c4 : s < 4
        · rw [if_pos c4] at h
          split at h
          · cases h
          · next z =>
            rw [← Option.some.inj h] at hx
            rcases List.mem_cons.mp hx with q | q
            · rw [q]; exact hk _ _ _ z
            · exact hl x q
        · rw [if_neg c4] at h
          by_cases c6 : s < 6
          · rw [if_pos c6] at h
            split at h
            · cases h
            · next z =>
              rw [← Option.some.inj h] at hx
              rcases List.mem_cons.mp hx with q | q
              · rw [q]; exact hk _ _ _ z
              · exact hl x (List.mem_of_mem_drop q)
          · rw [if_neg c6] at h
            split at h
            · cases h
            · next z =>
              rw [← Option.some.inj h] at hx
              rcases List.mem_cons.mp hx with q | q
              · rw [q]; exact hk _ _ _ z
              · exact hl x (List.mem_of_mem_drop q)
section S99f
variable {S : tmS} {I : Nat → Nat → Int} {L : Nat → Nat → Int64}
set_option maxRecDepth 20000 in
theorem meets_loop (hL : LX S) {P : Int → Prop} (hls : ∀ c : Int, P c → 0 ≤ c ∧ c < 50 ∧ 0 ≤ I 185 c.toNat ∧ I 185 c.toNat ≤ 9) (hst : ∀ l, l < 3 → I 189 l = -1 ∨ P (I 189 l)) {r : Nat} {pl : Int} (Q : Option tmV → tmH → Prop) : ∀ (j k : Nat) (g : Int), k + j = 3 → 0 ≤ g ∧ g ≤ 9 →
    (∀ g' : Int, g' = gen3 (I 185) pl (I 189) j k g → 0 ≤ g' ∧ g' ≤ 9 → tmW kX12_meets 3 0 0 88 [some (tR 168), some (tI r), some (tI pl), some (tI g'), some (tI (3 : Nat))] [] (S, I, L) Q) →
    tmW kX12_meets 3 0 0 33 [some (tR 168), some (tI r), some (tI pl), some (tI g), some (tI k)] [] (S, I, L) Q := by
  intro j
  have o168 := oX168 hL
  have r168_0 := rX168_0 hL
  have r168_1 := rX168_1 hL
  have r168_3 := rX168_3 hL
  have r168_4 := rX168_4 hL
  have r168_5 := rX168_5 hL
  have r168_6 := rX168_6 hL
  have r168_7 := rX168_7 hL
  have r168_8 := rX168_8 hL
  have r168_11 := rX168_11 hL
  have r168_13 := rX168_13 hL
  have r168_17 := rX168_17 hL
  have r168_18 := rX168_18 hL
  have r168_19 := rX168_19 hL
  have r168_21 := rX168_21 hL
  have r168_22 := rX168_22 hL
  have r168_23 := rX168_23 hL
  have r168_24 := rX168_24 hL
  have r168_25 := rX168_25 hL
  have r168_26 := rX168_26 hL
  have r168_27 := rX168_27 hL
  have r168_28 := rX168_28 hL
  have r168_29 := rX168_29 hL
  have r168_30 := rX168_30 hL
  have o185 := oX185 hL
  have o189 := oX189 hL
  induction j with
  | zero =>
    intro k g hk hg kk
    obtain rfl : k = 3 := by omega
    have := kk g rfl hg
    refine wa_iload dX12_meets_33 rfl ?_
    refine wa_iconst dX12_meets_35 ?_
    refine wa_icmp_ge 88 dX12_meets_36 (by decide) (by exact ⟨by omega, by omega⟩) (by exact ⟨by omega, by omega⟩) (fun c_36 => ?_) (fun c_36 => ?_)
    · exact this
    · omega
  | succ j ih =>
    intro k g hk hg kk
    have hs := hst k (by omega)
    have hsb : -1 ≤ I 189 k ∧ I 189 k < 50 := by
      rcases hs with z | z
      · omega
      · have := hls _ z; omega
    simp only [gen3] at kk
    by_cases c0 : I 189 k < 0
    · have e : svOf (I 185) 50 0 (I 189 k) = 0 := svOf_neg c0
      rw [e, if_neg (by omega)] at kk
      have nx := ih (k + 1) g (by omega) hg kk
      refine wa_iload dX12_meets_33 rfl ?_
      refine wa_iconst dX12_meets_35 ?_
      refine wa_icmp_ge 88 dX12_meets_36 (by decide) (by exact ⟨by omega, by omega⟩) (by exact ⟨by omega, by omega⟩) (fun c_36 => ?_) (fun c_36 => ?_)
      · omega
      · refine wa_aload_n dX12_meets_39 rfl ?_
        refine wt_getR dX12_meets_40 FX12_70 (by assumption) (by assumption) ?_
        refine wa_iload dX12_meets_43 rfl ?_
        refine wt_iald k dX12_meets_45 (by assumption) rfl (by omega) ?_
        refine wa_if_lt 80 dX12_meets_46 (by decide) (by exact ⟨by omega, by omega⟩) (fun c_46 => ?_) (fun c_46 => ?_)
        · refine wa_iload_n dX12_meets_80 rfl ?_
          refine wa_istore_n dX12_meets_81 (by decide) ?_
          refine wa_iinc dX12_meets_82 rfl (by decide) ?_
          refine wa_goto 33 dX12_meets_85 (by decide) ?_
          exact nx
        · omega
    · obtain ⟨c, hc⟩ : ∃ c : Nat, I 189 k = (c : Int) := ⟨(I 189 k).toNat, by omega⟩
      have hpc : P (c : Int) := by
        rcases hs with z | z
        · omega
        · rw [hc] at z; exact z
      have hlc := hls c hpc
      rw [Int.toNat_natCast] at hlc
      have e : svOf (I 185) 50 0 (I 189 k) = I 185 c := by rw [hc]; exact svOf_in (by omega)
      rw [e] at kk
      by_cases z : g < I 185 c
      · rw [if_pos z] at kk
        have nx := ih (k + 1) (I 185 c) (by omega) ⟨hlc.2.2.1, hlc.2.2.2⟩ kk
        refine wa_iload dX12_meets_33 rfl ?_
        refine wa_iconst dX12_meets_35 ?_
        refine wa_icmp_ge 88 dX12_meets_36 (by decide) (by exact ⟨by omega, by omega⟩) (by exact ⟨by omega, by omega⟩) (fun c_36 => ?_) (fun c_36 => ?_)
        · omega
        · refine wa_aload_n dX12_meets_39 rfl ?_
          refine wt_getR dX12_meets_40 FX12_70 (by assumption) (by assumption) ?_
          refine wa_iload dX12_meets_43 rfl ?_
          refine wt_iald k dX12_meets_45 (by assumption) rfl (by omega) ?_
          try first | rw [hc] | skip
          refine wa_if_lt 80 dX12_meets_46 (by decide) (by exact ⟨by omega, by omega⟩) (fun c_46 => ?_) (fun c_46 => ?_)
          · omega
          · refine wa_aload_n dX12_meets_49 rfl ?_
            refine wt_getR dX12_meets_50 FX12_58 (by assumption) (by assumption) ?_
            refine wa_aload_n dX12_meets_53 rfl ?_
            refine wt_getR dX12_meets_54 FX12_70 (by assumption) (by assumption) ?_
            refine wa_iload dX12_meets_57 rfl ?_
            refine wt_iald k dX12_meets_59 (by assumption) rfl (by omega) ?_
            try first | rw [hc] | skip
            refine wt_iald c dX12_meets_60 (by assumption) rfl (by omega) ?_
            try first | rw [hc] | skip
            refine wa_iload_n dX12_meets_61 rfl ?_
            refine wa_icmp_le 80 dX12_meets_62 (by decide) (by exact ⟨by omega, by omega⟩) (by exact ⟨by omega, by omega⟩) (fun c_62 => ?_) (fun c_62 => ?_)
            · omega
            · refine wa_aload_n dX12_meets_65 rfl ?_
              refine wt_getR dX12_meets_66 FX12_58 (by assumption) (by assumption) ?_
              refine wa_aload_n dX12_meets_69 rfl ?_
              refine wt_getR dX12_meets_70 FX12_70 (by assumption) (by assumption) ?_
              refine wa_iload dX12_meets_73 rfl ?_
              refine wt_iald k dX12_meets_75 (by assumption) rfl (by omega) ?_
              try first | rw [hc] | skip
              refine wt_iald c dX12_meets_76 (by assumption) rfl (by omega) ?_
              try first | rw [hc] | skip
              refine wa_goto 81 dX12_meets_77 (by decide) ?_
              refine wa_istore_n dX12_meets_81 (by decide) ?_
              refine wa_iinc dX12_meets_82 rfl (by decide) ?_
              refine wa_goto 33 dX12_meets_85 (by decide) ?_
              exact nx
      · rw [if_neg z] at kk
        have nx := ih (k + 1) g (by omega) hg kk
        refine wa_iload dX12_meets_33 rfl ?_
        refine wa_iconst dX12_meets_35 ?_
        refine wa_icmp_ge 88 dX12_meets_36 (by decide) (by exact ⟨by omega, by omega⟩) (by exact ⟨by omega, by omega⟩) (fun c_36 => ?_) (fun c_36 => ?_)
        · omega
        · refine wa_aload_n dX12_meets_39 rfl ?_
          refine wt_getR dX12_meets_40 FX12_70 (by assumption) (by assumption) ?_
          refine wa_iload dX12_meets_43 rfl ?_
          refine wt_iald k dX12_meets_45 (by assumption) rfl (by omega) ?_
          try first | rw [hc] | skip
          refine wa_if_lt 80 dX12_meets_46 (by decide) (by exact ⟨by omega, by omega⟩) (fun c_46 => ?_) (fun c_46 => ?_)
          · omega
          · refine wa_aload_n dX12_meets_49 rfl ?_
            refine wt_getR dX12_meets_50 FX12_58 (by assumption) (by assumption) ?_
            refine wa_aload_n dX12_meets_53 rfl ?_
            refine wt_getR dX12_meets_54 FX12_70 (by assumption) (by assumption) ?_
            refine wa_iload dX12_meets_57 rfl ?_
            refine wt_iald k dX12_meets_59 (by assumption) rfl (by omega) ?_
            try first | rw [hc] | skip
            refine wt_iald c dX12_meets_60 (by assumption) rfl (by omega) ?_
            try first | rw [hc] | skip
            refine wa_iload_n dX12_meets_61 rfl ?_
            refine wa_icmp_le 80 dX12_meets_62 (by decide) (by exact ⟨by omega, by omega⟩) (by exact ⟨by omega, by omega⟩) (fun c_62 => ?_) (fun c_62 => ?_)
            · refine wa_iload_n dX12_meets_80 rfl ?_
              refine wa_istore_n dX12_meets_81 (by decide) ?_
              refine wa_iinc dX12_meets_82 rfl (by decide) ?_
              refine wa_goto 33 dX12_meets_85 (by decide) ?_
              exact nx
            · omega
/-- the reference may look: table, RULE, what LETTERS stand for -/
def LkP (I : Nat → Nat → Int) (P : Int → Prop) (r : Nat) (wl wr : List Int) : Prop := MW I r wl wr ∧ okW wl ∧ dpth wl = 1 ∧ (∀ K, K < 2604 → ¬ plM I K < 0 → P (plM I K)) ∧ (∀ c : Int, P c → 0 ≤ c ∧ c < 50 ∧ 0 ≤ I 185 c.toNat ∧ I 185 c.toNat ≤ 9)
set_option maxRecDepth 20000 in
theorem LkP.cg {J : Nat → Nat → Int} {P : Int → Prop} {r : Nat} {wl wr : List Int} (h : LkP I P r wl wr) (f : FdFr I J) : LkP J P r wl wr := by
  obtain ⟨h1, h2, h3, h5, h6⟩ := h
  refine ⟨h1.row (f 169 (by decide) (by decide) (by decide) (by decide)), h2, h3, ?_, ?_⟩
  · rw [plM_cg (f 182 (by decide) (by decide) (by decide) (by decide)) (f 183 (by decide) (by decide) (by decide) (by decide)) (f 184 (by decide) (by decide) (by decide) (by decide))]; exact h5
  · rw [f 185 (by decide) (by decide) (by decide) (by decide)]; exact h6
set_option maxRecDepth 20000 in
theorem c_meets (hL : LX S) {P : Int → Prop} {r : Nat} {wl wr : List Int} (h : LkP I P r wl wr) (hst : ∀ l, l < 3 → I 189 l = -1 ∨ P (I 189 l)) {T : List E6} (hT : FM I r T) : tmC yX12_meets kX12_meets 3 0 0 [tR 168, tI r] (S, I, L) (fun q h' => q = none ∧ ∃ I', h' = (S, I', L) ∧ FdFr I I' ∧ I' 189 = I 189 ∧ (∀ x, x ≠ r → I' 187 x = I 187 x) ∧ (∀ x, (x < 1000 * r ∨ 1000 * r + 1000 ≤ x) → I' 186 x = I 186 x) ∧ FM I' r (metT (I 185) (plM I) wl r (I 189) T)) := by
  refine tmC.mk (lv := [some (tR 168), some (tI r), none, none, none]) 3 ⟨rfl, by decide +kernel, by decide⟩ rfl rfl ?_
  have o168 := oX168 hL
  have r168_0 := rX168_0 hL
  have r168_1 := rX168_1 hL
  have r168_3 := rX168_3 hL
  have r168_4 := rX168_4 hL
  have r168_5 := rX168_5 hL
  have r168_6 := rX168_6 hL
  have r168_7 := rX168_7 hL
  have r168_8 := rX168_8 hL
  have r168_11 := rX168_11 hL
  have r168_13 := rX168_13 hL
  have r168_17 := rX168_17 hL
  have r168_18 := rX168_18 hL
  have r168_19 := rX168_19 hL
  have r168_21 := rX168_21 hL
  have r168_22 := rX168_22 hL
  have r168_23 := rX168_23 hL
  have r168_24 := rX168_24 hL
  have r168_25 := rX168_25 hL
  have r168_26 := rX168_26 hL
  have r168_27 := rX168_27 hL
  have r168_28 := rX168_28 hL
  have r168_29 := rX168_29 hL
  have r168_30 := rX168_30 hL
  have o185 := oX185 hL
  have o186 := oX186 hL
  have o187 := oX187 hL
  have o189 := oX189 hL
  obtain ⟨h1, h2, h3, h5, h6⟩ := id h
  have hr6 := h1.1
  have hstb : ∀ l, l < 3 → -1 ≤ I 189 l ∧ I 189 l < 50 := fun l hl => by
    rcases hst l hl with z | z
    · omega
    · have := h6 _ z; omega
  have hplb : ∀ K, K < 2604 → plM I K < 50 := fun K hK => by
    by_cases z : plM I K < 0
    · omega
    · have := h6 _ (h5 K hK z); omega
  have kp := c_mplaceOf (L := L) hL h1 h2 h3 (fun K hK => by have := hplb K hK; omega) (fun l hl => by have := hstb l hl; omega)
  obtain ⟨t1, t2, t3⟩ := id hT
  have hpin : plcW (plM I) (I 189) wl = -1 ∨ P (plcW (plM I) (I 189) wl) := by
    unfold plcW
    cases he : evW (plM I) (I 189) wl with
    | none => exact Or.inl rfl
    | some st =>
      have hl := evW_len wl st h2 he
      rw [h3] at hl
      have hin := evW_all (P := P) h5 (fun l hl z => by
        rcases hst l hl with y | y
        · omega
        · exact y) wl st (fun s hs => (h1.2.2.2.2.2.2.1 s hs).2) he
      simp only [Option.getD_some]
      exact Or.inr (hin (st.getD 0 (-1)) (by
        cases st with
        | nil => simp at hl
        | cons a b => simp))
  have hpb : -1 ≤ plcW (plM I) (I 189) wl ∧ plcW (plM I) (I 189) wl < 50 := by
    rcases hpin with z | z
    · omega
    · have := h6 _ z; omega
  generalize hpl : plcW (plM I) (I 189) wl = pz at *
  have rest : ∀ v : Nat → Int, tmW kX12_meets 3 0 0 5 [some (tR 168), some (tI r), none, none, none] [tI pz] (S, va_up I 188 v, L) (fun q h' => q = none ∧ ∃ I', h' = (S, I', L) ∧ FdFr I I' ∧ I' 189 = I 189 ∧ (∀ x, x ≠ r → I' 187 x = I 187 x) ∧ (∀ x, (x < 1000 * r ∨ 1000 * r + 1000 ≤ x) → I' 186 x = I 186 x) ∧ FM I' r (metT (I 185) (plM I) wl r (I 189) T)) := by
    intro v
    generalize hJ : va_up I 188 v = J
    have gJ : ∀ a, a ≠ 188 → J a = I a := fun a ha => by rw [← hJ]; exact vup_n ha
    have j187 := gJ 187 (by decide)
    have j185 := gJ 185 (by decide)
    have j189 := gJ 189 (by decide)
    have j186 := gJ 186 (by decide)
    have fJ : FdFr I J := fun a _ _ a3 _ => gJ a a3
    have jr : J 187 r = (T.length : Int) := by rw [j187]; exact t1
    unfold metT
    rw [hpl]
    by_cases c0 : pz < 0
    · rw [if_neg (by omega)]
      refine wa_istore_n dX12_meets_5 (by decide) ?_
      refine wa_iload_n dX12_meets_6 rfl ?_
      refine wa_if_lt 22 dX12_meets_7 (by decide) (by exact ⟨by omega, by omega⟩) (fun c_7 => ?_) (fun c_7 => ?_)
      · refine wa_return dX12_meets_22 rfl ?_
        exact ⟨rfl, J, rfl, fJ, j189, fun x _ => by rw [j187], fun x _ => by rw [j186], hT.cg j187 j186⟩
      · omega
    · rw [if_pos (by omega)]
      by_cases c2 : T.length = 200
      · have et : (T ++ [mkE (I 185) (plM I) wl r (I 189)]).take 200 = T := by rw [List.take_append_of_le_length (by omega), List.take_of_length_le (by omega)]
        rw [et]
        refine wa_istore_n dX12_meets_5 (by decide) ?_
        refine wa_iload_n dX12_meets_6 rfl ?_
        refine wa_if_lt 22 dX12_meets_7 (by decide) (by exact ⟨by omega, by omega⟩) (fun c_7 => ?_) (fun c_7 => ?_)
        · omega
        · refine wa_aload_n dX12_meets_10 rfl ?_
          refine wt_getR dX12_meets_11 FX12_64 (by assumption) (by assumption) ?_
          refine wa_iload_n dX12_meets_14 rfl ?_
          refine wt_iald r dX12_meets_15 (by assumption) rfl (by omega) ?_
          try first | rw [jr] | skip
          refine wa_sipush dX12_meets_16 rfl ?_
          refine wa_icmp_ne 23 dX12_meets_19 (by decide) (by exact ⟨by omega, by omega⟩) (by exact ⟨by omega, by omega⟩) (fun c_19 => ?_) (fun c_19 => ?_)
          · omega
          · refine wa_return dX12_meets_22 rfl ?_
            exact ⟨rfl, J, rfl, fJ, j189, fun x _ => by rw [j187], fun x _ => by rw [j186], hT.cg j187 j186⟩
      · have et : (T ++ [mkE (I 185) (plM I) wl r (I 189)]).take 200 = T ++ [mkE (I 185) (plM I) wl r (I 189)] := List.take_of_length_le (by simp; omega)
        rw [et]
        obtain ⟨c, rfl⟩ : ∃ c : Nat, pz = (c : Int) := ⟨pz.toNat, by omega⟩
        have hpc : P (c : Int) := by
          rcases hpin with z | z
          · omega
          · exact z
        have hlc := h6 c hpc
        rw [Int.toNat_natCast] at hlc
        have lp := meets_loop (I := J) (L := L) hL (P := P) (by rw [j185]; exact h6) (by rw [j189]; exact hst) (r := r) (pl := (c : Int)) (fun q h' => q = none ∧ ∃ I', h' = (S, I', L) ∧ FdFr I I' ∧ I' 189 = I 189 ∧ (∀ x, x ≠ r → I' 187 x = I 187 x) ∧ (∀ x, (x < 1000 * r ∨ 1000 * r + 1000 ≤ x) → I' 186 x = I 186 x) ∧ FM I' r (T ++ [mkE (I 185) (plM I) wl r (I 189)])) 3 0 (I 185 c) (by omega) ⟨hlc.2.2.1, hlc.2.2.2⟩ (fun g' eg hg => by
          have eg' : g' + 1 = (mkE (I 185) (plM I) wl r (I 189)).2.2.2.2.2 := by
            unfold mkE
            simp only
            rw [eg, j185, j189, hpl, svOf_in (show c < 50 by omega)]
          generalize hV : va_up (va_up J 186 (va_up (va_up (va_up (va_up (va_up (J 186) (1000 * r + 5 * T.length) (I 189 0)) (1000 * r + 5 * T.length + 1) (I 189 1)) (1000 * r + 5 * T.length + 2) (I 189 2)) (1000 * r + 5 * T.length + 3) (c : Int)) (1000 * r + 5 * T.length + 4) (g' + 1))) 187 (va_up (J 187) r ((T.length : Int) + 1)) = V
          have gV : ∀ a, a ≠ 186 → a ≠ 187 → V a = J a := fun a a1 a2 => by rw [← hV, vup_n a2, vup_n a1]
          have v187 : V 187 = va_up (J 187) r ((T.length : Int) + 1) := by rw [← hV, vup_s]
          have v186 : V 186 = va_up (va_up (va_up (va_up (va_up (J 186) (1000 * r + 5 * T.length) (I 189 0)) (1000 * r + 5 * T.length + 1) (I 189 1)) (1000 * r + 5 * T.length + 2) (I 189 2)) (1000 * r + 5 * T.length + 3) (c : Int)) (1000 * r + 5 * T.length + 4) (g' + 1) := by rw [← hV, vup_n (by decide), vup_s]
          have s0 := hstb 0 (by decide)
          have s1 := hstb 1 (by decide)
          have s2 := hstb 2 (by decide)
          have fin : FM V r (T ++ [mkE (I 185) (plM I) wl r (I 189)]) := by
            refine ⟨by rw [v187, vup_s, List.length_append]; simp, by simp; omega, fun k e he => ?_⟩
            rw [v186]
            by_cases ck : k < T.length
            · rw [List.getElem?_append_left ck] at he
              have := t3 k e he
              simp (disch := omega) only [vup_n]
              rw [j186]
              exact this
            · rw [List.getElem?_append_right (by omega)] at he
              have e0 : k = T.length := by
                by_cases y : k - T.length = 0
                · omega
                · rw [List.getElem?_eq_none (by simp; omega)] at he; cases he
              subst e0
              simp only [Nat.sub_self, List.getElem?_cons_zero, Option.some.injEq] at he
              subst he
              simp (disch := omega) only [vup_n, vup_s]
              refine ⟨rfl, rfl, rfl, ?_, eg'⟩
              unfold mkE
              simp only
              rw [hpl]
          have k0 : J 189 0 = I 189 0 := by rw [j189]
          have k1 : J 189 1 = I 189 1 := by rw [j189]
          have k2 : J 189 2 = I 189 2 := by rw [j189]
          refine wa_sipush dX12_meets_88 rfl ?_
          refine wa_iload_n dX12_meets_91 rfl ?_
          refine wa_imul dX12_meets_92 ?_
          refine wa_iconst dX12_meets_93 ?_
          refine wa_aload_n dX12_meets_94 rfl ?_
          refine wt_getR dX12_meets_95 FX12_64 (by assumption) (by assumption) ?_
          refine wa_iload_n dX12_meets_98 rfl ?_
          refine wt_iald r dX12_meets_99 (by assumption) rfl (by omega) ?_
          try first | rw [jr] | rw [k0] | skip
          refine wa_imul dX12_meets_100 ?_
          refine wa_iadd dX12_meets_101 ?_
          refine wa_istore dX12_meets_102 (by decide) ?_
          refine wa_aload_n dX12_meets_104 rfl ?_
          refine wt_getR dX12_meets_105 FX12_61 (by assumption) (by assumption) ?_
          refine wa_iload dX12_meets_108 rfl ?_
          refine wa_aload_n dX12_meets_110 rfl ?_
          refine wt_getR dX12_meets_111 FX12_70 (by assumption) (by assumption) ?_
          refine wa_iconst dX12_meets_114 ?_
          refine wt_iald 0 dX12_meets_115 (by assumption) rfl (by omega) ?_
          try first | rw [jr] | rw [k0] | skip
          refine wt_iast (1000 * r + 5 * T.length) dX12_meets_116 (by assumption) (by omega) (by omega) (by exact ⟨by omega, by omega⟩) ?_
          refine wa_aload_n dX12_meets_117 rfl ?_
          refine wt_getR dX12_meets_118 FX12_61 (by assumption) (by assumption) ?_
          refine wa_iload dX12_meets_121 rfl ?_
          refine wa_iconst dX12_meets_123 ?_
          refine wa_iadd dX12_meets_124 ?_
          refine wa_aload_n dX12_meets_125 rfl ?_
          refine wt_getR dX12_meets_126 FX12_70 (by assumption) (by assumption) ?_
          refine wa_iconst dX12_meets_129 ?_
          refine wt_iald 1 dX12_meets_130 (by assumption) rfl (by omega) ?_
          try first | rw [jr] | rw [k0] | skip
          rw [vup_n (show 189 ≠ 186 by decide), k1]
          refine wt_iast (1000 * r + 5 * T.length + 1) dX12_meets_131 (by assumption) (by omega) (by omega) (by exact ⟨by omega, by omega⟩) ?_
          rw [vup_s, vup_vup]
          refine wa_aload_n dX12_meets_132 rfl ?_
          refine wt_getR dX12_meets_133 FX12_61 (by assumption) (by assumption) ?_
          refine wa_iload dX12_meets_136 rfl ?_
          refine wa_iconst dX12_meets_138 ?_
          refine wa_iadd dX12_meets_139 ?_
          refine wa_aload_n dX12_meets_140 rfl ?_
          refine wt_getR dX12_meets_141 FX12_70 (by assumption) (by assumption) ?_
          refine wa_iconst dX12_meets_144 ?_
          refine wt_iald 2 dX12_meets_145 (by assumption) rfl (by omega) ?_
          try first | rw [jr] | rw [k0] | skip
          rw [vup_n (show 189 ≠ 186 by decide), k2]
          refine wt_iast (1000 * r + 5 * T.length + 2) dX12_meets_146 (by assumption) (by omega) (by omega) (by exact ⟨by omega, by omega⟩) ?_
          rw [vup_s, vup_vup]
          refine wa_aload_n dX12_meets_147 rfl ?_
          refine wt_getR dX12_meets_148 FX12_61 (by assumption) (by assumption) ?_
          refine wa_iload dX12_meets_151 rfl ?_
          refine wa_iconst dX12_meets_153 ?_
          refine wa_iadd dX12_meets_154 ?_
          refine wa_iload_n dX12_meets_155 rfl ?_
          refine wt_iast (1000 * r + 5 * T.length + 3) dX12_meets_156 (by assumption) (by omega) (by omega) (by exact ⟨by omega, by omega⟩) ?_
          rw [vup_s, vup_vup]
          refine wa_aload_n dX12_meets_157 rfl ?_
          refine wt_getR dX12_meets_158 FX12_61 (by assumption) (by assumption) ?_
          refine wa_iload dX12_meets_161 rfl ?_
          refine wa_iconst dX12_meets_163 ?_
          refine wa_iadd dX12_meets_164 ?_
          refine wa_iload_n dX12_meets_165 rfl ?_
          refine wa_iconst dX12_meets_166 ?_
          refine wa_iadd dX12_meets_167 ?_
          refine wt_iast (1000 * r + 5 * T.length + 4) dX12_meets_168 (by assumption) (by omega) (by omega) (by exact ⟨by omega, by omega⟩) ?_
          rw [vup_s, vup_vup]
          refine wa_aload_n dX12_meets_169 rfl ?_
          refine wt_getR dX12_meets_170 FX12_64 (by assumption) (by assumption) ?_
          refine wa_iload_n dX12_meets_173 rfl ?_
          refine wa_dup2 dX12_meets_174 rfl rfl ?_
          refine wt_iald r dX12_meets_175 (by assumption) rfl (by omega) ?_
          try first | rw [jr] | rw [k0] | skip
          rw [vup_n (show 187 ≠ 186 by decide), jr]
          refine wa_iconst dX12_meets_176 ?_
          refine wa_iadd dX12_meets_177 ?_
          refine wt_iast r dX12_meets_178 (by assumption) rfl (by omega) (by exact ⟨by omega, by omega⟩) ?_
          rw [vup_n (show 187 ≠ 186 by decide), hV]
          refine wa_return dX12_meets_179 rfl ?_
          exact ⟨rfl, V, rfl, fun a a1 a2 a3 a4 => by rw [gV a a1 a2, gJ a a3], by rw [gV 189 (by decide) (by decide), j189], fun x hx => by rw [v187, vup_n hx, j187], fun x hx => by
            rw [v186]
            simp (disch := omega) only [vup_n]
            rw [j186], fin⟩
          )
        have j185c : J 185 c = I 185 c := by rw [j185]
        refine wa_istore_n dX12_meets_5 (by decide) ?_
        refine wa_iload_n dX12_meets_6 rfl ?_
        refine wa_if_lt 22 dX12_meets_7 (by decide) (by exact ⟨by omega, by omega⟩) (fun c_7 => ?_) (fun c_7 => ?_)
        · omega
        · refine wa_aload_n dX12_meets_10 rfl ?_
          refine wt_getR dX12_meets_11 FX12_64 (by assumption) (by assumption) ?_
          refine wa_iload_n dX12_meets_14 rfl ?_
          refine wt_iald r dX12_meets_15 (by assumption) rfl (by omega) ?_
          try first | rw [jr] | rw [j185c] | skip
          refine wa_sipush dX12_meets_16 rfl ?_
          refine wa_icmp_ne 23 dX12_meets_19 (by decide) (by exact ⟨by omega, by omega⟩) (by exact ⟨by omega, by omega⟩) (fun c_19 => ?_) (fun c_19 => ?_)
          · refine wa_aload_n dX12_meets_23 rfl ?_
            refine wt_getR dX12_meets_24 FX12_58 (by assumption) (by assumption) ?_
            refine wa_iload_n dX12_meets_27 rfl ?_
            refine wt_iald c dX12_meets_28 (by assumption) rfl (by omega) ?_
            try first | rw [jr] | rw [j185c] | skip
            refine wa_istore_n dX12_meets_29 (by decide) ?_
            refine wa_iconst dX12_meets_30 ?_
            refine wa_istore dX12_meets_31 (by decide) ?_
            exact lp
          · omega
  refine wa_aload_n dX12_meets_0 rfl ?_
  refine wa_iload_n dX12_meets_1 rfl ?_
  refine wa_callV (ci := 12) dX12_meets_2 KX12_placeOf LX12_141 ⟨_, _, rfl, by decide⟩ o168 (kp) (by decide) rfl (Nat.le_of_ble_eq_true rfl) rfl rfl (fun r h' hq => ?_)
  obtain ⟨rfl, v, rfl⟩ := hq
  exact rest v
end S99f
