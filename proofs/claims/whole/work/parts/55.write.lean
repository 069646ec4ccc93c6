/-! ===== 55: Writer.write ===== -/
def skPush (st : Nat → Int) (dp : Nat) : List Int → Nat → Int
  | [] => st
  | x :: l => skPush (va_up st dp x) (dp + 1) l
theorem pshL_f : ∀ (l : List Int) (I : Nat → Nat → Int) (dp : Nat), I 164 2 = (dp : Int) → pshL I dp l 166 = skPush (I 166) dp l ∧ pshL I dp l 164 2 = ((dp + l.length : Nat) : Int) ∧ (∀ k, k ≠ 2 → pshL I dp l 164 k = I 164 k) ∧ ∀ a, a ≠ 164 → a ≠ 166 → pshL I dp l a = I a := by
  intro l
  induction l with
  | nil => intro I dp h; exact ⟨rfl, h, fun _ _ => rfl, fun _ _ _ => rfl⟩
  | cons x l ih =>
    intro I dp h
    obtain ⟨a1, a2, a3, a4⟩ := ih (psh I dp x) (dp + 1) (psh_2 _ _ _)
    simp only [pshL]
    refine ⟨?_, ?_, fun k hk => ?_, fun a h1 h2 => ?_⟩
    · rw [a1]; simp only [skPush]; congr 1
    · rw [a2]; simp only [List.length_cons]; congr 1; omega
    · rw [a3 k hk]; exact psh_3 _ _ _ _ hk
    · rw [a4 a h1 h2]; exact psh_n _ _ _ _ h1 h2
theorem skPush_n : ∀ (l : List Int) (st : Nat → Int) (dp k : Nat), k < dp → skPush st dp l k = st k := by
  intro l
  induction l with
  | nil => intro st dp k _; rfl
  | cons x l ih => intro st dp k h; simp only [skPush]; rw [ih _ _ _ (by omega), vup_n (by omega)]
theorem skPush_at : ∀ (l : List Int) (st : Nat → Int) (dp k : Nat) (x : Int), l[k]? = some x → skPush st dp l (dp + k) = x := by
  intro l
  induction l with
  | nil => intro st dp k x h; cases h
  | cons y l ih =>
    intro st dp k x h
    simp only [skPush]
    cases k with
    | zero =>
      simp only [Nat.add_zero]
      rw [skPush_n _ _ _ _ (by omega), vup_s]
      simpa using h
    | succ k =>
      rw [show dp + (k + 1) = dp + 1 + k by omega]
      exact ih _ _ _ _ (by simpa using h)
/-- the writing goes on: how long it is then, and the page -/
def wrR (sg on ot : Nat → Int) : Nat → Nat → (Nat → Int) → Nat → (Nat → Int) → Nat × (Nat → Int)
  | 0, _, _, ln, pg => (ln, pg)
  | _ + 1, 0, _, ln, pg => (ln, pg)
  | k + 1, dp + 1, st, ln, pg => if 0 ≤ st dp then wrR sg on ot k (dp + (wrL (sg (st dp).toNat) (on (st dp).toNat) (ot (st dp).toNat)).length) (skPush st dp (wrL (sg (st dp).toNat) (on (st dp).toNat) (ot (st dp).toNat))) (ln + 1) (va_up pg ln (sgI (sg (st dp).toNat).toNat)) else wrR sg on ot k dp st (ln + 1) (va_up pg ln (-1 - st dp))
/-- what the stack holds while T is written -/
def SkI (n T dp : Nat) (st : Nat → Int) : Prop := dp ≤ 4 * T + 5 ∧ ∀ k, k < dp → (0 ≤ st k → st k < n ∧ (k : Int) + 4 * st k ≤ 4 * T) ∧ (st k < 0 → -45 ≤ st k)
theorem wrL_len (s a b : Int) : (wrL s a b).length ≤ 5 := by
  unfold wrL
  split
  · simp
  · split <;> simp
theorem SkI.push {n T dp : Nat} {st : Nat → Int} {sg on ot : Nat → Int} (hw : WFT n sg on ot) (h : SkI n T (dp + 1) st) (h0 : 0 ≤ st dp) : SkI n T (dp + (wrL (sg (st dp).toNat) (on (st dp).toNat) (ot (st dp).toNat)).length) (skPush st dp (wrL (sg (st dp).toNat) (on (st dp).toNat) (ot (st dp).toNat))) := by
  obtain ⟨h1, h2⟩ := h
  have hd := (h2 dp (by omega)).1 h0
  have w := hw (st dp).toNat (by omega)
  have ht : (((st dp).toNat : Nat) : Int) = st dp := by omega
  generalize (st dp).toNat = t at w ht ⊢
  have hnew : ∀ (l : List Int), l.length ≤ 5 → (∀ (q : Nat) (x : Int), l[q]? = some x → (0 ≤ x → x < n ∧ ((dp + q : Nat) : Int) + 4 * x ≤ 4 * T) ∧ (x < 0 → -45 ≤ x)) → SkI n T (dp + l.length) (skPush st dp l) := by
    intro l hl hq
    refine ⟨by omega, fun k hk => ?_⟩
    by_cases z : k < dp
    · rw [skPush_n _ _ _ _ z]; exact h2 k (by omega)
    · obtain ⟨q, rfl⟩ : ∃ q, k = dp + q := ⟨k - dp, by omega⟩
      have he : l[q]? = some l[q] := List.getElem?_eq_getElem (by omega)
      rw [skPush_at _ _ _ _ _ he]
      exact hq q _ he
  refine hnew _ (wrL_len _ _ _) ?_
  unfold wrL
  split
  · intro q x hx; cases hx
  · split
    · intro q x hx
      have a := w.2.2.2.2.2.2.2.1 (by omega)
      have b := w.2.2.2.2.2.2.2.2.2 (by assumption)
      match q, hx with
      | 0, hx => simp at hx; subst hx; exact ⟨fun z => by omega, fun _ => by omega⟩
      | 1, hx => simp at hx; subst hx; exact ⟨fun z => ⟨by omega, by omega⟩, fun z => by omega⟩
      | 2, hx => simp at hx; subst hx; exact ⟨fun z => by omega, fun _ => by omega⟩
      | 3, hx => simp at hx; subst hx; exact ⟨fun z => ⟨by omega, by omega⟩, fun z => by omega⟩
      | 4, hx => simp at hx; subst hx; exact ⟨fun z => by omega, fun _ => by omega⟩
      | q + 5, hx => simp at hx
    · intro q x hx
      have a := w.2.2.2.2.2.2.2.1 (by omega)
      match q, hx with
      | 0, hx => simp at hx; subst hx; exact ⟨fun z => by omega, fun _ => by omega⟩
      | 1, hx => simp at hx; subst hx; exact ⟨fun z => ⟨by omega, by omega⟩, fun z => by omega⟩
      | 2, hx => simp at hx; subst hx; exact ⟨fun z => by omega, fun _ => by omega⟩
      | q + 3, hx => simp at hx
section S55
variable {S : tmS} {L : Nat → Nat → Int64}
abbrev WrPost (S : tmS) (I : Nat → Nat → Int) (L : Nat → Nat → Int64) (res : Nat × (Nat → Int)) : Option tmV → tmH → Prop := fun q h' => ∃ I', q = some (tI (res.1 : Nat)) ∧ h' = (S, I', L) ∧ (∀ a, a ≠ 164 → a ≠ 165 → a ≠ 166 → I' a = I a) ∧ I' 165 = res.2
set_option maxRecDepth 20000 in
set_option maxHeartbeats 2000000 in
theorem write_loop (hL : LX S) {n T : Nat} (hn5 : n ≤ 50) (hT : T < 50) (t0 : Int) : ∀ (k : Nat) (I : Nat → Nat → Int) (dp ln : Nat) (x : Option tmV), ln + k = 300 → I 2 0 = (n : Int) → WFT n (I 3) (I 4) (I 5) → I 164 2 = (dp : Int) → I 164 3 = (ln : Int) → SkI n T dp (I 166) →
    tmW kX10_write 6 0 0 15 [some (tR 164), some (tR 2), some (tI t0), x] [] (S, I, L) (WrPost S I L (wrR (I 3) (I 4) (I 5) k dp (I 166) ln (I 165))) := by
  intro k
  have o164 := oX164 hL
  have r164_0 := rX164_0 hL
  have r164_1 := rX164_1 hL
  have o165 := oX165 hL
  have o166 := oX166 hL
  have o2 := oX2 hL
  have r2_1 := rX2_1 hL
  have r2_2 := rX2_2 hL
  have r2_3 := rX2_3 hL
  have r2_4 := rX2_4 hL
  have r2_5 := rX2_5 hL
  induction k with
  | zero =>
    intro I dp ln x hk hn hw hd hl hi
    have h1 := hi.1
    have hres : wrR (I 3) (I 4) (I 5) 0 dp (I 166) ln (I 165) = (ln, I 165) := rfl
    rw [hres]
    refine wa_aload_n dX10_write_15 rfl ?_
    refine wt_getI dX10_write_16 FX10_18 (by assumption) ?_
    try first | rw [hd] | rw [hl]
    refine wa_if_le 94 dX10_write_19 (by decide) (by exact ⟨by omega, by omega⟩) (fun c_19 => ?_) (fun c_19 => ?_)
    · refine wa_aload_n dX10_write_94 rfl ?_
      refine wt_getI dX10_write_95 FX10_22 (by assumption) ?_
      try first | rw [hd] | rw [hl]
      refine wa_ireturn dX10_write_98 rfl ?_
      exact ⟨I, rfl, rfl, fun _ _ _ _ => rfl, rfl⟩
    · refine wa_aload_n dX10_write_22 rfl ?_
      refine wt_getI dX10_write_23 FX10_22 (by assumption) ?_
      try first | rw [hd] | rw [hl]
      refine wa_sipush dX10_write_26 rfl ?_
      refine wa_icmp_ge 94 dX10_write_29 (by decide) (by exact ⟨by omega, by omega⟩) (by exact ⟨by omega, by omega⟩) (fun c_29 => ?_) (fun c_29 => ?_)
      · refine wa_aload_n dX10_write_94 rfl ?_
        refine wt_getI dX10_write_95 FX10_22 (by assumption) ?_
        try first | rw [hd] | rw [hl]
        refine wa_ireturn dX10_write_98 rfl ?_
        exact ⟨I, rfl, rfl, fun _ _ _ _ => rfl, rfl⟩
      · omega
  | succ k ih =>
    intro I dp ln x hk hn hw hd hl hi
    have h1 := hi.1
    cases dp with
    | zero =>
      have hres : wrR (I 3) (I 4) (I 5) (k + 1) 0 (I 166) ln (I 165) = (ln, I 165) := rfl
      rw [hres]
      refine wa_aload_n dX10_write_15 rfl ?_
      refine wt_getI dX10_write_16 FX10_18 (by assumption) ?_
      try first | rw [hd] | rw [hl]
      refine wa_if_le 94 dX10_write_19 (by decide) (by exact ⟨by omega, by omega⟩) (fun c_19 => ?_) (fun c_19 => ?_)
      · refine wa_aload_n dX10_write_94 rfl ?_
        refine wt_getI dX10_write_95 FX10_22 (by assumption) ?_
        try first | rw [hd] | rw [hl]
        refine wa_ireturn dX10_write_98 rfl ?_
        exact ⟨I, rfl, rfl, fun _ _ _ _ => rfl, rfl⟩
      · omega
    | succ dp =>
      generalize hJ : va_up I 164 (va_up (I 164) 2 (dp : Int)) = J
      have gJ : ∀ a, a ≠ 164 → J a = I a := fun a ha => by rw [← hJ]; exact vup_n ha
      have j2 : J 164 2 = (dp : Int) := by rw [← hJ, vup_s, vup_s]
      have j3 : J 164 3 = (ln : Int) := by rw [← hJ, vup_s, vup_n (by decide)]; exact hl
      have j166 : J 166 = I 166 := gJ 166 (by decide)
      have hx := hi.2 dp (by omega)
      have hxr : inR (I 166 dp) := by
        by_cases z : 0 ≤ I 166 dp
        · have := hx.1 z; exact ⟨by omega, by omega⟩
        · have := hx.2 (by omega); exact ⟨by omega, by omega⟩
      have hhas := c_has (I := J) (L := L) hL (n := n) (by rw [gJ 2 (by decide)]; exact hn) (I 166 dp) hxr
      have at81 : ∀ (K : Nat → Nat → Int) (dp' : Nat) (st' pg' : Nat → Int) (y : Option tmV), (∀ a, a ≠ 164 → a ≠ 165 → a ≠ 166 → K a = I a) → K 164 2 = (dp' : Int) → K 164 3 = (ln : Int) → K 166 = st' → K 165 = pg' → SkI n T dp' st' → tmW kX10_write 6 0 0 81 [some (tR 164), some (tR 2), some (tI t0), y] [] (S, K, L) (WrPost S I L (wrR (I 3) (I 4) (I 5) k dp' st' (ln + 1) pg')) := by
        intro K dp' st' pg' y kf k2 k3 k4 k5 k6
        generalize hV : va_up K 164 (va_up (K 164) 3 ((ln + 1 : Nat) : Int)) = V
        have gV : ∀ a, a ≠ 164 → V a = K a := fun a ha => by rw [← hV]; exact vup_n ha
        have nx := ih V dp' (ln + 1) y (by omega) (by rw [gV 2 (by decide), kf 2 (by decide) (by decide) (by decide)]; exact hn) (by rw [gV 3 (by decide), gV 4 (by decide), gV 5 (by decide), kf 3 (by decide) (by decide) (by decide), kf 4 (by decide) (by decide) (by decide), kf 5 (by decide) (by decide) (by decide)]; exact hw) (by rw [← hV, vup_s, vup_n (by decide)]; exact k2) (by rw [← hV, vup_s, vup_s]) (by rw [gV 166 (by decide), k4]; exact k6)
        rw [gV 3 (by decide), gV 4 (by decide), gV 5 (by decide), kf 3 (by decide) (by decide) (by decide), kf 4 (by decide) (by decide) (by decide), kf 5 (by decide) (by decide) (by decide), gV 166 (by decide), gV 165 (by decide), k4, k5] at nx
        refine wa_aload_n dX10_write_81 rfl ?_
        refine wa_dup dX10_write_82 rfl ?_
        refine wt_getI dX10_write_83 FX10_22 (by assumption) ?_
        try try rw [k3]
        refine wa_iconst dX10_write_86 ?_
        refine wa_iadd dX10_write_87 ?_
        refine wt_putI dX10_write_88 FX10_22 (WX10_3 _ _) (by assumption) (by exact ⟨by omega, by omega⟩) ?_
        refine wa_goto 15 dX10_write_91 (by decide) ?_
        rw [show (ln : Int) + 1 = ((ln + 1 : Nat) : Int) by omega, hV]
        refine nx.wk ?_
        rintro q h'' ⟨I3, r1, r2, r3, r4⟩
        exact ⟨I3, r1, r2, fun a a1 a2 a3 => by rw [r3 a a1 a2 a3, gV a a1]; exact kf a a1 a2 a3, r4⟩
      by_cases h0 : 0 ≤ I 166 dp
      · have hres : wrR (I 3) (I 4) (I 5) (k + 1) (dp + 1) (I 166) ln (I 165) = wrR (I 3) (I 4) (I 5) k (dp + (wrL (I 3 (I 166 dp).toNat) (I 4 (I 166 dp).toNat) (I 5 (I 166 dp).toNat)).length) (skPush (I 166) dp (wrL (I 3 (I 166 dp).toNat) (I 4 (I 166 dp).toNat) (I 5 (I 166 dp).toNat))) (ln + 1) (va_up (I 165) ln (sgI (I 3 (I 166 dp).toNat).toNat)) := by
          simp only [wrR]; rw [if_pos h0]
        rw [hres]
        have hxn := hx.1 h0
        rw [if_pos ⟨h0, hxn.1⟩] at hhas
        have hxt : (((I 166 dp).toNat : Nat) : Int) = I 166 dp := by omega
        have hwt := c_writeTerm (I := J) (L := L) hL (t := (I 166 dp).toNat) hn5 (by rw [gJ 3 (by decide), gJ 4 (by decide), gJ 5 (by decide)]; exact hw) (by omega) j2 (by omega) j3 (by omega)
        rw [gJ 3 (by decide), gJ 4 (by decide), gJ 5 (by decide), gJ 165 (by decide), hxt] at hwt
        obtain ⟨f1, f2, f3, f4⟩ := pshL_f (wrL (I 3 (I 166 dp).toNat) (I 4 (I 166 dp).toNat) (I 5 (I 166 dp).toNat)) (va_up J 165 (va_up (I 165) ln (sgI (I 3 (I 166 dp).toNat).toNat))) dp (by rw [vup_n (by decide)]; exact j2)
        generalize hK : pshL (va_up J 165 (va_up (I 165) ln (sgI (I 3 (I 166 dp).toNat).toNat))) dp (wrL (I 3 (I 166 dp).toNat) (I 4 (I 166 dp).toNat) (I 5 (I 166 dp).toNat)) = K at f1 f2 f3 f4 hwt
        have fin := fun y => at81 K _ _ _ y (fun a a1 a2 a3 => by rw [f4 a a1 a3, vup_n a2]; exact gJ a a1) f2 (by rw [f3 3 (by decide), vup_n (by decide)]; exact j3) (by rw [f1, vup_n (by decide), j166]) (by rw [f4 165 (by decide) (by decide), vup_s]) (hi.push hw h0)
        refine wa_aload_n dX10_write_15 rfl ?_
        refine wt_getI dX10_write_16 FX10_18 (by assumption) ?_
        try first | rw [hd] | rw [hl] | rw [j2] | rw [j166] | skip
        refine wa_if_le 94 dX10_write_19 (by decide) (by first | exact hxr | exact ⟨by omega, by omega⟩) (fun c_19 => ?_) (fun c_19 => ?_)
        · omega
        · refine wa_aload_n dX10_write_22 rfl ?_
          refine wt_getI dX10_write_23 FX10_22 (by assumption) ?_
          try first | rw [hd] | rw [hl] | rw [j2] | rw [j166] | skip
          refine wa_sipush dX10_write_26 rfl ?_
          refine wa_icmp_ge 94 dX10_write_29 (by decide) (by first | exact hxr | exact ⟨by omega, by omega⟩) (by first | exact hxr | exact ⟨by omega, by omega⟩) (fun c_29 => ?_) (fun c_29 => ?_)
          · omega
          · refine wa_aload_n dX10_write_32 rfl ?_
            refine wa_dup dX10_write_33 rfl ?_
            refine wt_getI dX10_write_34 FX10_18 (by assumption) ?_
            try first | rw [hd] | rw [hl] | rw [j2] | rw [j166] | skip
            refine wa_iconst dX10_write_37 ?_
            refine wa_isub dX10_write_38 ?_
            refine wt_putI dX10_write_39 FX10_18 (WX10_2 _ _) (by assumption) (by first | exact hxr | exact ⟨by omega, by omega⟩) ?_
            rw [show ((dp + 1 : Nat) : Int) - 1 = (dp : Int) by omega, hJ]
            refine wa_aload_n dX10_write_42 rfl ?_
            refine wt_getR dX10_write_43 FX10_15 (by assumption) (by assumption) ?_
            refine wa_aload_n dX10_write_46 rfl ?_
            refine wt_getI dX10_write_47 FX10_18 (by assumption) ?_
            try first | rw [hd] | rw [hl] | rw [j2] | rw [j166] | skip
            refine wt_iald dp dX10_write_50 (by assumption) rfl (by omega) ?_
            try first | rw [hd] | rw [hl] | rw [j2] | rw [j166] | skip
            refine wa_istore_n dX10_write_51 (by decide) ?_
            refine wa_aload_n dX10_write_52 rfl ?_
            refine wa_iload_n dX10_write_53 rfl ?_
            refine wa_callVf (ci := 8) dX10_write_54 KX8_has LX10_29 ⟨_, _, rfl, by decide⟩ o2 (hhas) (by decide) rfl rfl (Nat.le_of_ble_eq_true rfl) rfl rfl ?_
            refine wa_if_eq 69 dX10_write_57 (by decide) (by first | exact hxr | exact ⟨by omega, by omega⟩) (fun c_57 => ?_) (fun c_57 => ?_)
            · omega
            · refine wa_aload_n dX10_write_60 rfl ?_
              refine wa_aload_n dX10_write_61 rfl ?_
              refine wa_iload_n dX10_write_62 rfl ?_
              refine wa_callVf (ci := 10) dX10_write_63 KX10_writeTerm LX10_35 ⟨_, _, rfl, by decide⟩ o164 (hwt) (by decide) rfl rfl (Nat.le_of_ble_eq_true rfl) rfl rfl ?_
              refine wa_goto 81 dX10_write_66 (by decide) ?_
              exact fin _
      · have hres : wrR (I 3) (I 4) (I 5) (k + 1) (dp + 1) (I 166) ln (I 165) = wrR (I 3) (I 4) (I 5) k dp (I 166) (ln + 1) (va_up (I 165) ln (-1 - I 166 dp)) := by
          simp only [wrR]; rw [if_neg h0]
        rw [hres]
        have hxn := hx.2 (by omega)
        rw [if_neg (fun z => h0 z.1)] at hhas
        have fin := fun y => at81 (va_up J 165 (va_up (I 165) ln (-1 - I 166 dp))) dp (I 166) _ y (fun a a1 a2 a3 => by rw [vup_n a2]; exact gJ a a1) (by rw [vup_n (by decide)]; exact j2) (by rw [vup_n (by decide)]; exact j3) (by rw [vup_n (by decide)]; exact j166) (by rw [vup_s]) ⟨by omega, fun q hq => hi.2 q (by omega)⟩
        refine wa_aload_n dX10_write_15 rfl ?_
        refine wt_getI dX10_write_16 FX10_18 (by assumption) ?_
        try first | rw [hd] | rw [hl] | rw [j2] | rw [j3] | rw [j166] | skip
        refine wa_if_le 94 dX10_write_19 (by decide) (by first | exact hxr | exact ⟨by omega, by omega⟩) (fun c_19 => ?_) (fun c_19 => ?_)
        · omega
        · refine wa_aload_n dX10_write_22 rfl ?_
          refine wt_getI dX10_write_23 FX10_22 (by assumption) ?_
          try first | rw [hd] | rw [hl] | rw [j2] | rw [j3] | rw [j166] | skip
          refine wa_sipush dX10_write_26 rfl ?_
          refine wa_icmp_ge 94 dX10_write_29 (by decide) (by first | exact hxr | exact ⟨by omega, by omega⟩) (by first | exact hxr | exact ⟨by omega, by omega⟩) (fun c_29 => ?_) (fun c_29 => ?_)
          · omega
          · refine wa_aload_n dX10_write_32 rfl ?_
            refine wa_dup dX10_write_33 rfl ?_
            refine wt_getI dX10_write_34 FX10_18 (by assumption) ?_
            try first | rw [hd] | rw [hl] | rw [j2] | rw [j3] | rw [j166] | skip
            refine wa_iconst dX10_write_37 ?_
            refine wa_isub dX10_write_38 ?_
            refine wt_putI dX10_write_39 FX10_18 (WX10_2 _ _) (by assumption) (by first | exact hxr | exact ⟨by omega, by omega⟩) ?_
            rw [show ((dp + 1 : Nat) : Int) - 1 = (dp : Int) by omega, hJ]
            refine wa_aload_n dX10_write_42 rfl ?_
            refine wt_getR dX10_write_43 FX10_15 (by assumption) (by assumption) ?_
            refine wa_aload_n dX10_write_46 rfl ?_
            refine wt_getI dX10_write_47 FX10_18 (by assumption) ?_
            try first | rw [hd] | rw [hl] | rw [j2] | rw [j3] | rw [j166] | skip
            refine wt_iald dp dX10_write_50 (by assumption) rfl (by omega) ?_
            try first | rw [hd] | rw [hl] | rw [j2] | rw [j3] | rw [j166] | skip
            refine wa_istore_n dX10_write_51 (by decide) ?_
            refine wa_aload_n dX10_write_52 rfl ?_
            refine wa_iload_n dX10_write_53 rfl ?_
            refine wa_callVf (ci := 8) dX10_write_54 KX8_has LX10_29 ⟨_, _, rfl, by decide⟩ o2 (hhas) (by decide) rfl rfl (Nat.le_of_ble_eq_true rfl) rfl rfl ?_
            refine wa_if_eq 69 dX10_write_57 (by decide) (by first | exact hxr | exact ⟨by omega, by omega⟩) (fun c_57 => ?_) (fun c_57 => ?_)
            · refine wa_aload_n dX10_write_69 rfl ?_
              refine wt_getR dX10_write_70 FX10_9 (by assumption) (by assumption) ?_
              refine wa_aload_n dX10_write_73 rfl ?_
              refine wt_getI dX10_write_74 FX10_22 (by assumption) ?_
              try first | rw [hd] | rw [hl] | rw [j2] | rw [j3] | rw [j166] | skip
              refine wa_iconst dX10_write_77 ?_
              refine wa_iload_n dX10_write_78 rfl ?_
              refine wa_isub dX10_write_79 ?_
              refine wt_iast ln dX10_write_80 (by assumption) rfl (by omega) (by first | exact hxr | exact ⟨by omega, by omega⟩) ?_
              rw [gJ 165 (by decide)]
              exact fin _
            · omega
/-- a TERM written out -/
def wrT (sg on ot : Nat → Int) (st pg : Nat → Int) (t : Nat) : Nat × (Nat → Int) := wrR sg on ot 300 1 (va_up st 0 (t : Int)) 0 pg
set_option maxRecDepth 20000 in
theorem c_write (hL : LX S) {n t : Nat} {I : Nat → Nat → Int} (hn5 : n ≤ 50) (ht : t < n) (hn : I 2 0 = (n : Int)) (hw : WFT n (I 3) (I 4) (I 5)) : tmC yX10_write kX10_write 6 0 0 [tR 164, tR 2, tI t] (S, I, L) (WrPost S I L (wrT (I 3) (I 4) (I 5) (I 166) (I 165) t)) := by
  refine tmC.mk (lv := [some (tR 164), some (tR 2), some (tI t), none]) 1 ⟨rfl, by decide +kernel, by decide⟩ rfl rfl ?_
  have o164 := oX164 hL
  have r164_0 := rX164_0 hL
  have r164_1 := rX164_1 hL
  have o165 := oX165 hL
  have o166 := oX166 hL
  have o2 := oX2 hL
  have r2_1 := rX2_1 hL
  have r2_2 := rX2_2 hL
  have r2_3 := rX2_3 hL
  have r2_4 := rX2_4 hL
  have r2_5 := rX2_5 hL
  generalize hJ : va_up I 164 (va_up (va_up (I 164) 2 0) 3 0) = J
  have gJ : ∀ a, a ≠ 164 → J a = I a := fun a ha => by rw [← hJ]; exact vup_n ha
  have j2 : J 164 2 = ((0 : Nat) : Int) := by rw [← hJ, vup_s, vup_n (by decide), vup_s]; rfl
  have j3 : J 164 3 = ((0 : Nat) : Int) := by rw [← hJ, vup_s, vup_s]; rfl
  have hp := c_push (I := J) (L := L) hL j2 (by omega) (t : Int) ⟨by omega, by omega⟩
  have e166 : psh J 0 (t : Int) 166 = va_up (I 166) 0 (t : Int) := by unfold psh; rw [vup_n (by decide), vup_s, gJ 166 (by decide)]
  have en : ∀ a, a ≠ 164 → a ≠ 166 → psh J 0 (t : Int) a = I a := fun a h1 h2 => by rw [psh_n _ _ _ _ h1 h2]; exact gJ a h1
  have h0 := write_loop (L := L) hL (T := t) hn5 (by omega) (t : Int) 300 (psh J 0 (t : Int)) 1 0 none (by omega) (by rw [en 2 (by decide) (by decide)]; exact hn) (by rw [en 3 (by decide) (by decide), en 4 (by decide) (by decide), en 5 (by decide) (by decide)]; exact hw) (psh_2 _ _ _) (by rw [psh_3 _ _ _ _ (by decide)]; exact j3) ⟨by omega, fun k hk => by
    have : k = 0 := by omega
    subst this
    rw [e166, vup_s]
    exact ⟨fun _ => ⟨by omega, by omega⟩, fun z => by omega⟩⟩
  rw [en 3 (by decide) (by decide), en 4 (by decide) (by decide), en 5 (by decide) (by decide), en 165 (by decide) (by decide), e166] at h0
  refine wa_aload_n dX10_write_0 rfl ?_
  refine wa_iconst dX10_write_1 ?_
  refine wt_putI dX10_write_2 FX10_18 (WX10_2 _ _) (by assumption) (by exact ⟨by omega, by omega⟩) ?_
  refine wa_aload_n dX10_write_5 rfl ?_
  refine wa_iconst dX10_write_6 ?_
  refine wt_putI dX10_write_7 FX10_22 (WX10_3 _ _) (by assumption) (by exact ⟨by omega, by omega⟩) ?_
  rw [show va_up (va_up I 164 (va_up (I 164) 2 0)) 164 (va_up (va_up I 164 (va_up (I 164) 2 0) 164) 3 0) = J by rw [vup_s, vup_vup, hJ]]
  refine wa_aload_n dX10_write_10 rfl ?_
  refine wa_iload_n dX10_write_11 rfl ?_
  refine wa_callVf (ci := 10) dX10_write_12 KX10_push LX10_25 ⟨_, _, rfl, by decide⟩ o164 (hp) (by decide) rfl rfl (Nat.le_of_ble_eq_true rfl) rfl rfl ?_
  refine h0.wk ?_
  rintro q h'' ⟨I3, r1, r2, r3, r4⟩
  exact ⟨I3, r1, r2, fun a a1 a2 a3 => by rw [r3 a a1 a2 a3]; exact en a a1 a3, r4⟩
end S55
