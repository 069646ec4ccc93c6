/-! ===== 99o: the reference: builds ===== -/
def bT (y : Bool) (lt : Nat → Int) (g : Int) : List Int → WSt → Int → TS → Bool → WSt × Int × TS × Bool
  | [], st, t, X, ov => (st, t, X, ov)
  | s :: w, st, t, X, ov => if 4 ≤ s ∧ s ≤ 6 then bT y lt g w ((s, -1) :: st) t X ov else
    bT y lt g w (wtT y g st (if 7 ≤ s then (lt (s - 7).toNat, X, false) else comeT X s (-1) (-1) g).1 (mdY y (if 7 ≤ s then (lt (s - 7).toNat, X, false) else comeT X s (-1) (-1) g).2.1 (if 7 ≤ s then (lt (s - 7).toNat, X, false) else comeT X s (-1) (-1) g).1) (ov || (if 7 ≤ s then (lt (s - 7).toNat, X, false) else comeT X s (-1) (-1) g).2.2)).1
      (wtT y g st (if 7 ≤ s then (lt (s - 7).toNat, X, false) else comeT X s (-1) (-1) g).1 (mdY y (if 7 ≤ s then (lt (s - 7).toNat, X, false) else comeT X s (-1) (-1) g).2.1 (if 7 ≤ s then (lt (s - 7).toNat, X, false) else comeT X s (-1) (-1) g).1) (ov || (if 7 ≤ s then (lt (s - 7).toNat, X, false) else comeT X s (-1) (-1) g).2.2)).2.1
      (wtT y g st (if 7 ≤ s then (lt (s - 7).toNat, X, false) else comeT X s (-1) (-1) g).1 (mdY y (if 7 ≤ s then (lt (s - 7).toNat, X, false) else comeT X s (-1) (-1) g).2.1 (if 7 ≤ s then (lt (s - 7).toNat, X, false) else comeT X s (-1) (-1) g).1) (ov || (if 7 ≤ s then (lt (s - 7).toNat, X, false) else comeT X s (-1) (-1) g).2.2)).2.2.1
      (wtT y g st (if 7 ≤ s then (lt (s - 7).toNat, X, false) else comeT X s (-1) (-1) g).1 (mdY y (if 7 ≤ s then (lt (s - 7).toNat, X, false) else comeT X s (-1) (-1) g).2.1 (if 7 ≤ s then (lt (s - 7).toNat, X, false) else comeT X s (-1) (-1) g).1) (ov || (if 7 ≤ s then (lt (s - 7).toNat, X, false) else comeT X s (-1) (-1) g).2.2)).2.2.2
abbrev BtPost (S : tmS) (I : Nat → Nat → Int) (L : Nat → Nat → Int64) (o : WSt × Int × TS × Bool) : Option tmV → tmH → Prop := fun r h' => r = some (tI o.2.1) ∧ ∃ I', h' = (S, I', L) ∧ MT I' o.2.2.1 ∧ I' 168 20 = ovI o.2.2.2 ∧ BF I I'
section S99o
variable {S : tmS} {I : Nat → Nat → Int} {L : Nat → Nat → Int64}
set_option maxRecDepth 20000 in
theorem mbuild_loop (hL : LX S) {y : Bool} {g : Int} (hg : inR g) {ρ ln fr : Nat} (hρ : tmArr S ρ 13 ln) {W : List Int} (hfr : fr + W.length ≤ ln) (hln : ln ≤ 984) (h120 : W.length ≤ 120) (h9 : ∀ s ∈ W, 0 ≤ s ∧ s ≤ 9) (hrow : ∀ J, BF I J → ∀ i, i < W.length → J ρ (fr + i) = W.getD i 0) {n0 : Nat} (hlt : ∀ s ∈ W, 7 ≤ s → 0 ≤ I 189 (s - 7).toNat ∧ I 189 (s - 7).toNat < n0) : ∀ (j d : Nat) (st : WSt) (t : Int) (X : TS) (J : Nat → Nat → Int) (ov : Bool) (a8 a9 : Option tmV), d + j = W.length → SkW J st → WOK st → st.length ≤ d → X.1 ≤ 50 → n0 ≤ X.1 → -1 ≤ t ∧ t < 50 → MT J X → BF I J → J 168 20 = ovI ov → J 168 32 = ovI y →
    tmW kX12_builds 4 0 0 9 [some (tR 168), some (tR ρ), some (tI fr), some (tI (W.length : Nat)), some (tI g), some (tI (st.length : Nat)), some (tI t), some (tI (fr + d : Nat)), a8, a9] [] (S, J, L) (BtPost S I L (bT y (I 189) g (W.drop d) st t X ov)) := by
  intro j
  have o168 := oX168 hL
  have r168_0 := rX168_0 hL
  have r168_1 := rX168_1 hL
  have r168_3 := rX168_3 hL
  have r168_4 := rX168_4 hL
  have r168_5 := rX168_5 hL
  have r168_6 := rX168_6 hL
  have r168_7 := rX168_7 hL
  have r168_8 := rX168_8 hL
  have r168_11 := rX168_11 hL
  have r168_13 := rX168_13 hL
  have r168_17 := rX168_17 hL
  have r168_18 := rX168_18 hL
  have r168_19 := rX168_19 hL
  have r168_21 := rX168_21 hL
  have r168_22 := rX168_22 hL
  have r168_23 := rX168_23 hL
  have r168_24 := rX168_24 hL
  have r168_25 := rX168_25 hL
  have r168_26 := rX168_26 hL
  have r168_27 := rX168_27 hL
  have r168_28 := rX168_28 hL
  have r168_29 := rX168_29 hL
  have r168_30 := rX168_30 hL
  have o179 := oX179 hL
  have o180 := oX180 hL
  have o189 := oX189 hL
  induction j with
  | zero =>
    intro d st t X J ov a8 a9 hd hs hw hl h50 hn0 ht hM hf ho hy
    rw [List.drop_of_length_le (by omega)]
    simp only [bT]
    refine wa_iload dX12_builds_9 rfl ?_
    refine wa_iload_n dX12_builds_11 rfl ?_
    refine wa_iload_n dX12_builds_12 rfl ?_
    refine wa_iadd dX12_builds_13 ?_
    refine wa_icmp_ge 116 dX12_builds_14 (by decide) (by exact ⟨by omega, by omega⟩) (by exact ⟨by omega, by omega⟩) (fun c_14 => ?_) (fun c_14 => ?_)
    · refine wa_iload dX12_builds_116 rfl ?_
      refine wa_ireturn dX12_builds_118 rfl ?_
      exact ⟨rfl, J, rfl, hM, ho, hf⟩
    · omega
  | succ j ih =>
    intro d st t X J ov a8 a9 hd hs hw hl h50 hn0 ht hM hf ho hy
    have hdl : d < W.length := by omega
    rw [drop_at hdl]
    have es := hrow J hf d hdl
    have hsm := getD_mem hdl
    have hs9 := h9 _ hsm
    have hls := hlt _ hsm
    generalize W.getD d 0 = s at *
    simp only [bT]
    have ka := c_marity (h := (S, J, L)) s ⟨by omega, by omega⟩
    by_cases c : 4 ≤ s ∧ s ≤ 6
    · rw [if_pos c]
      have har : 1 ≤ arX s ∧ arX s ≤ 2 := by
        unfold arX
        rw [if_neg (by omega)]
        split <;> omega
      generalize hV : va_up (va_up J 179 (va_up (J 179) st.length s)) 180 (va_up (J 180) st.length (-1)) = V
      have v179 : V 179 = va_up (J 179) st.length s := by rw [← hV, vup_n (by decide), vup_s]
      have v180 : V 180 = va_up (J 180) st.length (-1) := by rw [← hV, vup_s]
      have gV : ∀ a, a ≠ 179 → a ≠ 180 → V a = J a := fun a a1 a2 => by rw [← hV, vup_n a2, vup_n a1]
      have nx := ih (d + 1) ((s, -1) :: st) t X V ov (some (tI s)) a9 (by omega) ⟨by rw [v179, vup_s], by rw [v180, vup_s], hs.cg (fun i hi => ⟨by rw [v179, vup_n (by omega)], by rw [v180, vup_n (by omega)]⟩)⟩ (fun p hp => by
        rcases List.mem_cons.mp hp with e | e
        · rw [e]; exact ⟨c, by simp only; omega⟩
        · exact hw p e) (by rw [List.length_cons]; omega) h50 hn0 ht (by unfold MT; rw [gV 169 (by decide) (by decide)]; exact hM) (hf.trans' ⟨fun a _ _ a3 a4 => gV a a3 a4, fun k _ _ => by rw [gV 168 (by decide) (by decide)], fun k _ => by rw [gV 169 (by decide) (by decide)]⟩) (by rw [gV 168 (by decide) (by decide)]; exact ho) (by rw [gV 168 (by decide) (by decide)]; exact hy)
      refine wa_iload dX12_builds_9 rfl ?_
      refine wa_iload_n dX12_builds_11 rfl ?_
      refine wa_iload_n dX12_builds_12 rfl ?_
      refine wa_iadd dX12_builds_13 ?_
      refine wa_icmp_ge 116 dX12_builds_14 (by decide) (by exact ⟨by omega, by omega⟩) (by exact ⟨by omega, by omega⟩) (fun c_14 => ?_) (fun c_14 => ?_)
      · omega
      · refine wa_aload_n dX12_builds_17 rfl ?_
        refine wa_iload dX12_builds_18 rfl ?_
        refine wt_iald (fr + d) dX12_builds_20 hρ (by omega) (by omega) ?_
        try first | rw [es] | skip
        refine wa_istore dX12_builds_21 (by decide) ?_
        refine wa_iload dX12_builds_23 rfl ?_
        refine wa_callSf dX12_builds_25 KX12_arity LX12_106 (ka) (by decide) rfl rfl (Nat.le_of_ble_eq_true rfl) rfl rfl ?_
        refine wa_if_le 54 dX12_builds_28 (by decide) (by exact ⟨by omega, by omega⟩) (fun c_28 => ?_) (fun c_28 => ?_)
        · omega
        · refine wa_aload_n dX12_builds_31 rfl ?_
          refine wt_getR dX12_builds_32 FX12_40 (by assumption) (by assumption) ?_
          refine wa_iload dX12_builds_35 rfl ?_
          refine wa_iload dX12_builds_37 rfl ?_
          refine wt_iast st.length dX12_builds_39 (by assumption) (by omega) (by omega) (by exact ⟨by omega, by omega⟩) ?_
          refine wa_aload_n dX12_builds_40 rfl ?_
          refine wt_getR dX12_builds_41 FX12_43 (by assumption) (by assumption) ?_
          refine wa_iload dX12_builds_44 rfl ?_
          refine wa_iconst dX12_builds_46 ?_
          refine wt_iast st.length dX12_builds_47 (by assumption) (by omega) (by omega) (by exact ⟨by omega, by omega⟩) ?_
          rw [vup_n (show 180 ≠ 179 by decide), hV]
          refine wa_iinc dX12_builds_48 rfl (by decide) ?_
          refine wa_goto 110 dX12_builds_51 (by decide) ?_
          refine wa_iinc dX12_builds_110 rfl (by decide) ?_
          refine wa_goto 9 dX12_builds_113 (by decide) ?_
          exact nx
    · rw [if_neg c]
      have har : arX s = 0 := by
        unfold arX
        rw [if_pos (by omega)]
      rw [har] at ka
      have beh : ∀ (o : Int × TS × Bool) (K : Nat → Nat → Int), 0 ≤ o.1 → o.1 < o.2.1.1 → o.2.1.1 ≤ 50 → X.1 ≤ o.2.1.1 → MT K o.2.1 → BF J K → K 168 20 = ovI (ov || o.2.2) → K 179 = J 179 → K 180 = J 180 → tmW kX12_builds 4 0 0 84 [some (tR 168), some (tR ρ), some (tI fr), some (tI (W.length : Nat)), some (tI g), some (tI (st.length : Nat)), some (tI t), some (tI (fr + d : Nat)), some (tI s), a9] [tI o.1] (S, K, L) (BtPost S I L (bT y (I 189) g (W.drop (d + 1)) (wtT y g st o.1 (mdY y o.2.1 o.1) (ov || o.2.2)).1 (wtT y g st o.1 (mdY y o.2.1 o.1) (ov || o.2.2)).2.1 (wtT y g st o.1 (mdY y o.2.1 o.1) (ov || o.2.2)).2.2.1 (wtT y g st o.1 (mdY y o.2.1 o.1) (ov || o.2.2)).2.2.2)) := fun o K o1 o2 o3 o4 k1 k2 k3 k4 k5 => by
        have ky : K 168 32 = ovI y := by rw [k2.2.1 32 (by decide) (by decide)]; exact hy
        have km := c_mmade (I := K) (L := L) hL k1 o3 ky (t := o.1) ⟨o1, o2⟩
        have wok := wtT_ok (y := y) (g := g) st o.1 (mdY y o.2.1 o.1) (ov || o.2.2) hw (by rw [mdY_1]; exact o3) (by rw [mdY_1]; exact ⟨o1, o2⟩)
        have fin : ∀ W2 : Nat → Nat → Int, MT W2 (wtT y g st o.1 (mdY y o.2.1 o.1) (ov || o.2.2)).2.2.1 → SkW W2 (wtT y g st o.1 (mdY y o.2.1 o.1) (ov || o.2.2)).1 → W2 168 20 = ovI (wtT y g st o.1 (mdY y o.2.1 o.1) (ov || o.2.2)).2.2.2 → W2 168 31 = ((wtT y g st o.1 (mdY y o.2.1 o.1) (ov || o.2.2)).1.length : Int) → BF K W2 → tmW kX12_builds 4 0 0 102 [some (tR 168), some (tR ρ), some (tI fr), some (tI (W.length : Nat)), some (tI g), some (tI (st.length : Nat)), some (tI t), some (tI (fr + d : Nat)), some (tI s), some (tI o.1)] [tI (wtT y g st o.1 (mdY y o.2.1 o.1) (ov || o.2.2)).2.1] (S, W2, L) (BtPost S I L (bT y (I 189) g (W.drop (d + 1)) (wtT y g st o.1 (mdY y o.2.1 o.1) (ov || o.2.2)).1 (wtT y g st o.1 (mdY y o.2.1 o.1) (ov || o.2.2)).2.1 (wtT y g st o.1 (mdY y o.2.1 o.1) (ov || o.2.2)).2.2.1 (wtT y g st o.1 (mdY y o.2.1 o.1) (ov || o.2.2)).2.2.2)) := by
          rw [mdY_1] at wok
          generalize wtT y g st o.1 (mdY y o.2.1 o.1) (ov || o.2.2) = z at *
          intro W2 z1 z2 z3 z4 z5
          obtain ⟨q1, q2, q3, q4, q5, q6⟩ := wok
          have nx := ih (d + 1) z.1 z.2.1 z.2.2.1 W2 z.2.2.2 (some (tI s)) (some (tI o.1)) (by omega) z2 q1 (by omega) q3 (by omega) ⟨q5, by omega⟩ z1 ((hf.trans' k2).trans' z5) z3 (by rw [z5.2.1 32 (by decide) (by decide)]; exact ky)
          refine wa_istore dX12_builds_102 (by decide) ?_
          refine wa_aload_n dX12_builds_104 rfl ?_
          refine wt_getI dX12_builds_105 FX12_166 (by assumption) ?_
          try first | rw [z4] | skip
          refine wa_istore dX12_builds_108 (by decide) ?_
          refine wa_iinc dX12_builds_110 rfl (by decide) ?_
          refine wa_goto 9 dX12_builds_113 (by decide) ?_
          exact nx
        have mid : ∀ W1 : Nat → Nat → Int, MT W1 (mdY y o.2.1 o.1) → BF K W1 → W1 168 = K 168 → W1 179 = K 179 → W1 180 = K 180 → tmW kX12_builds 4 0 0 92 [some (tR 168), some (tR ρ), some (tI fr), some (tI (W.length : Nat)), some (tI g), some (tI (st.length : Nat)), some (tI t), some (tI (fr + d : Nat)), some (tI s), some (tI o.1)] [] (S, W1, L) (BtPost S I L (bT y (I 189) g (W.drop (d + 1)) (wtT y g st o.1 (mdY y o.2.1 o.1) (ov || o.2.2)).1 (wtT y g st o.1 (mdY y o.2.1 o.1) (ov || o.2.2)).2.1 (wtT y g st o.1 (mdY y o.2.1 o.1) (ov || o.2.2)).2.2.1 (wtT y g st o.1 (mdY y o.2.1 o.1) (ov || o.2.2)).2.2.2)) := fun W1 w1 w2 w3 w4 w5 => by
          have kw := c_mwaiting (I := W1) (L := L) hL (y := y) hg (st := st) (t := o.1) (X := mdY y o.2.1 o.1) (ov := ov || o.2.2) (hs.cg (fun i _ => ⟨by rw [w4, k4], by rw [w5, k5]⟩)) hw (by omega) (by rw [mdY_1]; exact ⟨o1, o2⟩) (by rw [mdY_1]; exact o3) w1 (by rw [w3]; exact k3) (by rw [w3]; exact ky)
          refine wa_aload_n dX12_builds_92 rfl ?_
          refine wa_iload dX12_builds_93 rfl ?_
          refine wa_iload dX12_builds_95 rfl ?_
          refine wa_iload dX12_builds_97 rfl ?_
          refine wa_callV (ci := 12) dX12_builds_99 KX12_waiting LX12_175 ⟨_, _, rfl, by decide⟩ o168 (kw) (by decide) rfl (Nat.le_of_ble_eq_true rfl) rfl rfl (fun r h' hq => ?_)
          obtain ⟨rfl, W2, rfl, z1, z2, z3, z4, z5⟩ := hq
          exact fin W2 z1 z2 z3 z4 (w2.trans' z5)
        refine wa_istore dX12_builds_84 (by decide) ?_
        refine wa_aload_n dX12_builds_86 rfl ?_
        refine wa_iload dX12_builds_87 rfl ?_
        refine wa_callV (ci := 12) dX12_builds_89 KX12_made LX12_169 ⟨_, _, rfl, by decide⟩ o168 (km) (by decide) rfl (Nat.le_of_ble_eq_true rfl) rfl rfl (fun r h' hq => ?_)
        obtain ⟨rfl, W1, rfl, w1, w2, w3, w4, w5⟩ := hq
        exact mid W1 w1 w2 w3 w4 w5
      by_cases c7 : 7 ≤ s
      · rw [if_pos c7]
        have hl7 := hls c7
        have e9 : J 189 (s - 7).toNat = I 189 (s - 7).toNat := by rw [hf.1 189 (by decide) (by decide) (by decide) (by decide)]
        have bh := beh (I 189 (s - 7).toNat, X, false) J hl7.1 (by simp only; omega) h50 (Nat.le_refl _) hM BF.rfl' (by rw [ho]; simp) rfl rfl
        refine wa_iload dX12_builds_9 rfl ?_
        refine wa_iload_n dX12_builds_11 rfl ?_
        refine wa_iload_n dX12_builds_12 rfl ?_
        refine wa_iadd dX12_builds_13 ?_
        refine wa_icmp_ge 116 dX12_builds_14 (by decide) (by exact ⟨by omega, by omega⟩) (by exact ⟨by omega, by omega⟩) (fun c_14 => ?_) (fun c_14 => ?_)
        · omega
        · refine wa_aload_n dX12_builds_17 rfl ?_
          refine wa_iload dX12_builds_18 rfl ?_
          refine wt_iald (fr + d) dX12_builds_20 hρ (by omega) (by omega) ?_
          try first | rw [es] | rw [e9] | skip
          refine wa_istore dX12_builds_21 (by decide) ?_
          refine wa_iload dX12_builds_23 rfl ?_
          refine wa_callSf dX12_builds_25 KX12_arity LX12_106 (ka) (by decide) rfl rfl (Nat.le_of_ble_eq_true rfl) rfl rfl ?_
          refine wa_if_le 54 dX12_builds_28 (by decide) (by exact ⟨by omega, by omega⟩) (fun c_28 => ?_) (fun c_28 => ?_)
          · refine wa_iload dX12_builds_54 rfl ?_
            refine wa_bipush dX12_builds_56 rfl ?_
            refine wa_icmp_lt 74 dX12_builds_58 (by decide) (by exact ⟨by omega, by omega⟩) (by exact ⟨by omega, by omega⟩) (fun c_58 => ?_) (fun c_58 => ?_)
            · omega
            · refine wa_aload_n dX12_builds_61 rfl ?_
              refine wt_getR dX12_builds_62 FX12_70 (by assumption) (by assumption) ?_
              refine wa_iload dX12_builds_65 rfl ?_
              refine wa_bipush dX12_builds_67 rfl ?_
              refine wa_isub dX12_builds_69 ?_
              refine wt_iald (s - 7).toNat dX12_builds_70 (by assumption) (by omega) (by omega) ?_
              try first | rw [es] | rw [e9] | skip
              refine wa_goto 84 dX12_builds_71 (by decide) ?_
              exact bh
          · omega
      · rw [if_neg c7]
        have hin := comeT_in h50 s (-1) (-1) g
        have kc := c_mcomeT (I := J) (L := L) hL hM h50 s (-1) (-1) g ⟨by omega, by omega⟩ ⟨by decide, by decide⟩ ⟨by decide, by decide⟩ hg ho
        have bh := fun K => beh (comeT X s (-1) (-1) g) K hin.1 hin.2.1 hin.2.2.1 hin.2.2.2
        refine wa_iload dX12_builds_9 rfl ?_
        refine wa_iload_n dX12_builds_11 rfl ?_
        refine wa_iload_n dX12_builds_12 rfl ?_
        refine wa_iadd dX12_builds_13 ?_
        refine wa_icmp_ge 116 dX12_builds_14 (by decide) (by exact ⟨by omega, by omega⟩) (by exact ⟨by omega, by omega⟩) (fun c_14 => ?_) (fun c_14 => ?_)
        · omega
        · refine wa_aload_n dX12_builds_17 rfl ?_
          refine wa_iload dX12_builds_18 rfl ?_
          refine wt_iald (fr + d) dX12_builds_20 hρ (by omega) (by omega) ?_
          try first | rw [es] | skip
          refine wa_istore dX12_builds_21 (by decide) ?_
          refine wa_iload dX12_builds_23 rfl ?_
          refine wa_callSf dX12_builds_25 KX12_arity LX12_106 (ka) (by decide) rfl rfl (Nat.le_of_ble_eq_true rfl) rfl rfl ?_
          refine wa_if_le 54 dX12_builds_28 (by decide) (by exact ⟨by omega, by omega⟩) (fun c_28 => ?_) (fun c_28 => ?_)
          · refine wa_iload dX12_builds_54 rfl ?_
            refine wa_bipush dX12_builds_56 rfl ?_
            refine wa_icmp_lt 74 dX12_builds_58 (by decide) (by exact ⟨by omega, by omega⟩) (by exact ⟨by omega, by omega⟩) (fun c_58 => ?_) (fun c_58 => ?_)
            · refine wa_aload_n dX12_builds_74 rfl ?_
              refine wa_iload dX12_builds_75 rfl ?_
              refine wa_iconst dX12_builds_77 ?_
              refine wa_iconst dX12_builds_78 ?_
              refine wa_iload dX12_builds_79 rfl ?_
              refine wa_callV (ci := 12) dX12_builds_81 KX12_comes LX12_119 ⟨_, _, rfl, by decide⟩ o168 (kc) (by decide) rfl (Nat.le_of_ble_eq_true rfl) rfl rfl (fun r h' hq => ?_)
              obtain ⟨rfl, K, rfl, k1, k2, k3, _, k4, k5⟩ := hq
              exact bh K k1 k2 k3 k4 k5
            · omega
          · omega
set_option maxRecDepth 20000 in
theorem c_mbuilds (hL : LX S) {y : Bool} {g : Int} (hg : inR g) {ρ ln fr : Nat} (hρ : tmArr S ρ 13 ln) {W : List Int} (hfr : fr + W.length ≤ ln) (hln : ln ≤ 984) (h120 : W.length ≤ 120) (h9 : ∀ s ∈ W, 0 ≤ s ∧ s ≤ 9) (hrow : ∀ J, BF I J → ∀ i, i < W.length → J ρ (fr + i) = W.getD i 0) {X : TS} (h50 : X.1 ≤ 50) (hlt : ∀ s ∈ W, 7 ≤ s → 0 ≤ I 189 (s - 7).toNat ∧ I 189 (s - 7).toNat < X.1) {ov : Bool} (hM : MT I X) (ho : I 168 20 = ovI ov) (hy : I 168 32 = ovI y) : tmC yX12_builds kX12_builds 4 0 0 [tR 168, tR ρ, tI fr, tI (W.length : Nat), tI g] (S, I, L) (BtPost S I L (bT y (I 189) g W [] (-1) X ov)) := by
  refine tmC.mk (lv := [some (tR 168), some (tR ρ), some (tI fr), some (tI (W.length : Nat)), some (tI g), none, none, none, none, none]) 5 ⟨rfl, by decide +kernel, by decide⟩ rfl rfl ?_
  have lp := mbuild_loop (I := I) (L := L) hL (y := y) hg hρ hfr hln h120 h9 hrow (n0 := X.1) hlt W.length 0 [] (-1) X I ov none none (by omega) trivial (fun p hp => by cases hp) (Nat.le_refl _) h50 (Nat.le_refl _) (by omega) hM BF.rfl' ho hy
  rw [List.drop_zero] at lp
  refine wa_iconst dX12_builds_0 ?_
  refine wa_istore dX12_builds_1 (by decide) ?_
  refine wa_iconst dX12_builds_3 ?_
  refine wa_istore dX12_builds_4 (by decide) ?_
  refine wa_iload_n dX12_builds_6 rfl ?_
  refine wa_istore dX12_builds_7 (by decide) ?_
  exact lp
end S99o
