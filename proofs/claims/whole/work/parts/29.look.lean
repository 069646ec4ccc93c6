/-! ===== 29: Search.look ===== -/
theorem svOf_congr {v v' : Nat → Int} {m : Nat} {d x : Int} (h : ∀ c, c < m → v c = v' c) : svOf v m d x = svOf v' m d x := by
  unfold svOf; split
  · exact h _ (by omega)
  · rfl
theorem gen3_congr {ls ls' ch : Nat → Int} {pl : Int} (h : ∀ c, c < 50 → ls c = ls' c) : ∀ (k l : Nat) (g : Int), gen3 ls pl ch k l g = gen3 ls' pl ch k l g := by
  intro k
  induction k with
  | zero => intro l g; rfl
  | succ k ih => intro l g; simp only [gen3]; rw [ih, svOf_congr h]
theorem fGn_congr {lf : Nat} {ls ls' pl sg on ot : Nat → Int} (h : ∀ c, c < 50 → ls c = ls' c) : fGn lf ls pl sg on ot = fGn lf ls' pl sg on ot := by
  funext q
  unfold fGn
  rw [gen3_congr h, svOf_congr h]
theorem gnRun_congr {ho ge : Nat → Int} {n : Nat} (hh : HO n ho) (hn : n ≤ 50) : ∀ (k t : Nat) (c c' : Nat → Int), t + k ≤ n → (∀ x, x < 50 → c x = c' x) → ∀ x, x < 50 → gnRun ho ge k t c x = gnRun ho ge k t c' x := by
  intro k
  induction k with
  | zero => intro t c c' _ h x hx; exact h x hx
  | succ k ih =>
    intro t c c' ht h x hx
    have := hh t (by omega)
    simp only [gnRun]
    refine ih (t + 1) _ _ (by omega) (fun y hy => ?_) x hx
    rw [h (ho t).toNat (by omega)]
    by_cases z : y = (ho t).toNat
    · subst z; rw [vup_s, vup_s]
    · rw [vup_n z, vup_n z]; exact h y hy
theorem gnRun_b {ho ge : Nat → Int} {n : Nat} (hg : ∀ t, t < n → 0 ≤ ge t ∧ ge t ≤ 9) : ∀ (k t : Nat) (c : Nat → Int), t + k ≤ n → (∀ x, x < 50 → 0 ≤ c x ∧ c x ≤ 9) → (∀ t, t < n → (ho t).toNat < 50) → ∀ x, x < 50 → 0 ≤ gnRun ho ge k t c x ∧ gnRun ho ge k t c x ≤ 9 := by
  intro k
  induction k with
  | zero => intro t c _ h _ x hx; exact h x hx
  | succ k ih =>
    intro t c ht h h5 x hx
    simp only [gnRun]
    refine ih (t + 1) _ (by omega) (fun y hy => ?_) h5 x hx
    by_cases z : y = (ho t).toNat
    · subst z; rw [vup_s]
      split
      · exact hg t (by omega)
      · exact h _ hy
    · rw [vup_n z]; exact h y hy
/-- the least GENERATIONS of CLASSES -/
abbrev lsOf (I : Nat → Nat → Int) (n : Nat) : Nat → Int := gnRun (I 7) (I 6) n 0 (fun _ => 9)
/-- the FINDINGS of a RULE that count, and what Search tells of them -/
def FNDS (I : Nat → Nat → Int) (p lf n : Nat) : List (Int × Int × Int) := (ENr I p lf n (tmLet (I (p + 1)) lf 0 0) 3 (fun _ => 0)).take 200
abbrev PlF (I : Nat → Nat → Int) (p lf : Nat) : Int × Int × Int → Int := fPl lf (I 134) (I (p + 1)) (I (p + 2)) (I (p + 3))
abbrev GnF (I : Nat → Nat → Int) (p lf n : Nat) : Int × Int × Int → Int := fGn lf (lsOf I n) (I 134) (I (p + 1)) (I (p + 2)) (I (p + 3))
def Found (I : Nat → Nat → Int) (L : Nat → Nat → Int64) (p lf n : Nat) (r : Int) : Prop := FnOK (I 144 1) (L 145) r (PlF I p lf) (GnF I p lf n) (FNDS I p lf n)
/-- TERMS and CLASSES as they are between two calls -/
def TInv (I : Nat → Nat → Int) (n : Nat) : Prop := I 2 0 = (n : Int) ∧ n ≤ 50 ∧ WFT n (I 3) (I 4) (I 5) ∧ HO n (I 7) ∧ TabOK n (I 3) (I 4) (I 5) (I 7) (I 134) ∧ (∀ t, t < n → 0 ≤ I 6 t ∧ I 6 t ≤ 9)
/-- the rows that looking changes -/
def LkFr (I I' : Nat → Nat → Int) (L L' : Nat → Nat → Int64) : Prop := (∀ a, a ≠ 143 → a ≠ 144 → a ≠ 146 → a ≠ 147 → a ≠ 148 → I' a = I a) ∧ ∀ a, a ≠ 133 → a ≠ 136 → a ≠ 137 → a ≠ 138 → a ≠ 145 → L' a = L a
theorem LkFr.found {I I' : Nat → Nat → Int} {L L' : Nat → Nat → Int64} (h : LkFr I I' L L') {p lf n : Nat} (hp : 192 ≤ p) : FNDS I' p lf n = FNDS I p lf n ∧ PlF I' p lf = PlF I p lf ∧ GnF I' p lf n = GnF I p lf n := by
  have E := h.1
  have e7 := E 7 (by decide) (by decide) (by decide) (by decide) (by decide)
  have e6 := E 6 (by decide) (by decide) (by decide) (by decide) (by decide)
  have e134 := E 134 (by decide) (by decide) (by decide) (by decide) (by decide)
  have e1 := E (p + 1) (by omega) (by omega) (by omega) (by omega) (by omega)
  have e2 := E (p + 2) (by omega) (by omega) (by omega) (by omega) (by omega)
  have e3 := E (p + 3) (by omega) (by omega) (by omega) (by omega) (by omega)
  simp only [FNDS, ENr, PlF, GnF, lsOf, e7, e6, e134, e1, e2, e3, and_self]
section S29
variable {S : tmS} {I : Nat → Nat → Int} {L : Nat → Nat → Int64}
abbrev LkPost (S : tmS) (I : Nat → Nat → Int) (L : Nat → Nat → Int64) (p lf n : Nat) (r : Int) : Option tmV → tmH → Prop := fun q h' => q = some (tR 144) ∧ ∃ I' L', h' = (S, I', L') ∧ LkFr I I' L L' ∧ I' 143 3 = r ∧ Found I' L' p lf n r
set_option maxRecDepth 20000 in
set_option maxHeartbeats 2000000 in
theorem c_look (hL : LX S) {n k : Nat} (ht : TInv I n) (hk : I 1 2 = (k : Int)) (hk6 : k ≤ 6) {r : Nat} (hr : r < k) {p sz lf : Nat} (hp : S.2.2.2 8 r = some p) (hw : RuleW S I p sz lf) (hch : I 143 3 = (r : Int) → Found I L p lf n r) :
    tmC yX4_look kX4_look 8 0 0 [tR 143, tI r] (S, I, L) (LkPost S I L p lf n r) := by
  refine tmC.mk (lv := [some (tR 143), some (tI r), none]) 1 ⟨rfl, by decide +kernel, by decide⟩ rfl rfl ?_
  obtain ⟨hn, hn5, hwt, hh, htab, hge⟩ := id ht
  obtain ⟨q1, q2, q3, q4, q5, q6, q7, q8, q9, q10, q11⟩ := id hw
  refine wt_ir (fun hI => ?_)
  have o143 := oX143 hL
  have r143_0 := rX143_0 hL
  have r143_1 := rX143_1 hL
  have r143_2 := rX143_2 hL
  have r143_4 := rX143_4 hL
  have r143_5 := rX143_5 hL
  have r143_6 := rX143_6 hL
  have o144 := oX144 hL
  have r144_0 := rX144_0 hL
  have o145 := oX145 hL
  have o1 := oX1 hL
  have r1_0 := rX1_0 hL
  have r1_1 := rX1_1 hL
  have r1_3 := rX1_3 hL
  have o133 := oX133 hL
  have r133_0 := rX133_0 hL
  have r133_1 := rX133_1 hL
  have r133_3 := rX133_3 hL
  have r133_5 := rX133_5 hL
  have r133_6 := rX133_6 hL
  have r133_7 := rX133_7 hL
  have o2 := oX2 hL
  have r2_1 := rX2_1 hL
  have r2_2 := rX2_2 hL
  have r2_3 := rX2_3 hL
  have r2_4 := rX2_4 hL
  have r2_5 := rX2_5 hL
  have hpo := q2.1
  generalize hJ : va_up (va_up I 144 (va_up (I 144) 1 0)) 143 (va_up (I 143) 3 (r : Int)) = J
  have gJ : ∀ a, a ≠ 143 → a ≠ 144 → J a = I a := fun a a1 a2 => by rw [← hJ, vup_n a1, vup_n a2]
  have j2 := gJ 2 (by decide) (by decide)
  have j7 := gJ 7 (by decide) (by decide)
  have j6 := gJ 6 (by decide) (by decide)
  have hls : ∀ c, c < 50 → gnRun (I 7) (I 6) n 0 (tmFill (J 146) 50 9) c = lsOf I n c := fun c hc => gnRun_congr hh hn5 n 0 _ _ (by omega) (fun x hx => by simp [tmFill, hx]) c hc
  generalize hK : va_up J 146 (gnRun (I 7) (I 6) n 0 (tmFill (J 146) 50 9)) = K
  have gK : ∀ a, a ≠ 143 → a ≠ 144 → a ≠ 146 → K a = I a := fun a a1 a2 a3 => by rw [← hK, vup_n a3]; exact gJ a a1 a2
  have k146 : K 146 = gnRun (I 7) (I 6) n 0 (tmFill (J 146) 50 9) := by rw [← hK, vup_s]
  have k143 : K 143 3 = (r : Int) := by rw [← hK, vup_n (by decide), ← hJ, vup_s, vup_s]
  have k144 : K 144 1 = 0 := by rw [← hK, vup_n (by decide), ← hJ, vup_n (by decide), vup_s, vup_s]
  have kk : ∀ a, a ≠ 143 → a ≠ 144 → a ≠ 146 → K a = I a := gK
  have c2 := gK 2 (by decide) (by decide) (by decide)
  have c3 := gK 3 (by decide) (by decide) (by decide)
  have c4 := gK 4 (by decide) (by decide) (by decide)
  have c5 := gK 5 (by decide) (by decide) (by decide)
  have c7 := gK 7 (by decide) (by decide) (by decide)
  have c1 := gK 1 (by decide) (by decide) (by decide)
  have c134 := gK 134 (by decide) (by decide) (by decide)
  have cp1 := gK (p + 1) (by omega) (by omega) (by omega)
  have cp2 := gK (p + 2) (by omega) (by omega) (by omega)
  have cp3 := gK (p + 3) (by omega) (by omega) (by omega)
  have cp4 := gK (p + 4) (by omega) (by omega) (by omega)
  have cp := gK p (by omega) (by omega) (by omega)
  have hwK : RuleW S K p sz lf := hw.fr (fun a ha => gK a (by omega) (by omega) (by omega))
  have eG : ∀ X : Nat → Nat → Int, X 146 = K 146 → fGn lf (X 146) (I 134) (I (p + 1)) (I (p + 2)) (I (p + 3)) = GnF I p lf n := fun X hX => by rw [hX, k146]; exact fGn_congr hls
  generalize hset : tmLet (I (p + 1)) lf 0 0 = set
  -- the end, by what choose or stands left
  have fin : ∀ (I' : Nat → Nat → Int) (L2 L' : Nat → Nat → Int64), MkFr L L2 → (∀ a, a ≠ 144 → a ≠ 147 → a ≠ 148 → I' a = K a) → (∀ a, a ≠ 145 → L' a = L2 a) → FnOK (I' 144 1) (L' 145) r (PlF I p lf) (GnF I p lf n) (FNDS I p lf n) → tmW kX4_look 8 0 0 77 [some (tR 143), some (tI r), some (tR p)] [] (S, I', L') (LkPost S I L p lf n r) := by
    intro I' L2 L' m1 m2 m3 m4
    have hfr : LkFr I I' L L' := ⟨fun a a1 a2 a3 a4 a5 => by rw [m2 a a2 a4 a5]; exact gK a a1 a2 a3, fun a a1 a2 a3 a4 a5 => by rw [m3 a a5]; exact m1 a a1 a2 a3 a4⟩
    obtain ⟨f1, f2, f3⟩ := hfr.found (lf := lf) (n := n) q1
    refine wa_aload_n dX4_look_77 rfl ?_
    refine wt_getR dX4_look_78 FX4_14 (by assumption) (by assumption) ?_
    refine wa_areturn dX4_look_81 rfl ?_
    exact ⟨rfl, I', L', rfl, hfr, by rw [m2 143 (by decide) (by decide) (by decide)]; exact k143, by rw [Found, f1, f2, f3]; exact m4⟩
  have eEN : ∀ ch, ENr I p lf n set 3 ch = ENr I p lf n set 3 (fun _ => 0) := fun ch => EN_congr q8 q9 (by omega) 3 _ _ (by omega) (fun j hj => by omega)
  have hsg : ∀ i, i < sz → 0 ≤ K (p + 1) i ∧ K (p + 1) i ≤ 9 := fun i hi => by rw [cp1]; have := q8 i hi; exact ⟨this.1, this.2.1⟩
  refine wa_iload_n dX4_look_0 rfl ?_
  refine wa_aload_n dX4_look_1 rfl ?_
  refine wt_getI dX4_look_2 FX4_20 (by assumption) ?_
  try try rw [cp, q4]
  refine wa_icmp_ne 13 dX4_look_5 (by decide) (by first | exact hI _ _ | exact ⟨by omega, by omega⟩) (by first | exact hI _ _ | exact ⟨by omega, by omega⟩) (fun c_5 => ?_) (fun c_5 => ?_)
  · refine wa_aload_n dX4_look_13 rfl ?_
    refine wt_getR dX4_look_14 FX4_14 (by assumption) (by assumption) ?_
    refine wa_iconst dX4_look_17 ?_
    refine wt_putI dX4_look_18 FX4_42 (WX1_1 _ _) (by assumption) (by first | exact hI _ _ | exact ⟨by omega, by omega⟩) ?_
    refine wa_aload_n dX4_look_21 rfl ?_
    refine wa_iload_n dX4_look_22 rfl ?_
    refine wt_putI dX4_look_23 FX4_20 (WX4_3 _ _) (by assumption) (by first | exact hI _ _ | exact ⟨by omega, by omega⟩) ?_
    rw [show va_up I 144 (va_up (I 144) 1 0) 143 = I 143 from vup_n (by decide), hJ]
    refine wa_aload_n dX4_look_26 rfl ?_
    refine wa_callVf (ci := 4) dX4_look_27 KX4_markGenerations LX4_45 ⟨_, _, rfl, by decide⟩ o143 (by have := c_markGenerations (I := J) (L := L) hL (by rw [j2]; exact hn) hn5 (by rw [j7]; exact hh); rw [j7, j6] at this; exact this) (by decide) rfl rfl (Nat.le_of_ble_eq_true rfl) rfl rfl ?_
    rw [hK]
    refine wa_aload_n dX4_look_30 rfl ?_
    refine wt_getR dX4_look_31 FX4_38 (by assumption) (by assumption) ?_
    refine wa_aload_n dX4_look_34 rfl ?_
    refine wt_getR dX4_look_35 FX4_34 (by assumption) (by assumption) ?_
    refine wt_getR dX4_look_38 FX4_48 (by assumption) (by assumption) ?_
    refine wa_callV (ci := 5) dX4_look_41 KX5_markParts LX4_54 ⟨_, _, rfl, by decide⟩ o133 (c_markParts hL (by rw [c2]; exact hn) hn5 (by rw [c3, c4, c5]; exact hwt) (by rw [c7]; exact hh)) (by decide) rfl (Nat.le_of_ble_eq_true rfl) rfl rfl (fun r h' hq => ?_)
    obtain ⟨rfl, L2, rfl, m1, m2⟩ := hq
    have hcs : ChS S K L2 p sz lf n set r := ⟨hwK, by rw [c2]; exact hn, hn5, by rw [c7]; exact hh, by rw [c3, c4, c5]; exact hwt, by rw [c3, c4, c5, c7, c134]; exact htab, m2, fun c hc => by rw [k146, hls c hc]; exact gnRun_b hge n 0 _ (by omega) (fun _ _ => by omega) (fun t ht => by have := hh t ht; omega) c hc, k143, by omega, by omega, by rw [cp1, hset]⟩
    refine wa_aload_n dX4_look_44 rfl ?_
    refine wt_getR dX4_look_45 FX4_34 (by assumption) (by assumption) ?_
    refine wa_iload_n dX4_look_48 rfl ?_
    refine wa_callVf (ci := 6) dX4_look_49 KX6_ruleAt LX4_60 ⟨_, _, rfl, by decide⟩ o1 (c_ruleAt hL (by rw [c1]; exact hk) hk6 r hr hp) (by decide) rfl rfl (Nat.le_of_ble_eq_true rfl) rfl rfl ?_
    refine wa_astore_n dX4_look_52 (by decide) ?_
    refine wa_aload_n dX4_look_53 rfl ?_
    refine wa_aload_n dX4_look_54 rfl ?_
    refine wa_iconst dX4_look_55 ?_
    refine wa_callV (ci := 4) dX4_look_56 KX4_stands LX4_64 ⟨_, _, rfl, by decide⟩ o143 (c_stands hL hwK 0 ⟨by omega, by omega⟩ (fun i hi hs => by have := (hwK.2.2.2.2.2.2.2.2.1 i (by omega)).1; omega)) (by decide) rfl (Nat.le_of_ble_eq_true rfl) rfl rfl (fun r h' hq => ?_)
    obtain ⟨u, v, rfl, hu, rfl, v1, v2, v3⟩ := hq.u
    refine wa_if_eq 77 dX4_look_59 (by decide) (by exact ⟨by omega, by omega⟩) (fun c_59 => ?_) (fun c_59 => ?_)
    · obtain ⟨j, j1, j2', j3⟩ := v3 c_59
      rw [c134, cp1, cp2, cp3] at j3
      rw [cp4] at j2'
      have hnil : FNDS I p lf n = [] := by
        unfold FNDS
        rw [hset, ← eEN (K 148), ENr, EN_nil (by omega)]
        · rfl
        · intro ch' _ b
          rw [SA_iff] at b
          have := tv_dep (pl := I 134) q8 q9 (ch := K 148) (ch' := ch') j (by omega) (fun l hl => by omega)
          exact b j j1 (by rw [← this]; exact j3)
      refine fin _ L2 L2 m1 (fun a _ a2 _ => vup_n a2) (fun _ _ => rfl) ?_
      rw [hnil, vup_n (by decide), k144]
      exact ⟨rfl, by simp, fun k q hq => by simp at hq⟩
    · have v2' := v2 (hu.resolve_left c_59)
      clear v2 v3
      refine wa_aload_n dX4_look_62 rfl ?_
      refine wa_aload_n dX4_look_63 rfl ?_
      refine wa_aload_n dX4_look_64 rfl ?_
      refine wa_iconst dX4_look_65 ?_
      refine wa_aload_n dX4_look_66 rfl ?_
      refine wt_getI dX4_look_67 FX4_68 (by assumption) ?_
      try try rw [cp, q4]
      try rw [show va_up K 147 v p 1 = (lf : Int) by rw [vup_n (by omega), cp]; exact q4]
      refine wa_callVf (ci := 2) dX4_look_70 KX2_lettersIn LX4_73 ⟨_, _, rfl, by decide⟩ hpo (by have := c_lettersIn (I := va_up K 147 v) (L := L2) q2 (sz := sz) (by rw [vup_n (by omega), cp]; exact q3) (by omega) q7 0 lf (by omega) (by omega) (by rw [vup_n (by omega)]; exact hsg); rw [vup_n (show p + 1 ≠ 147 by omega), cp1, Nat.sub_zero, hset] at this; exact this) (by decide) rfl rfl (Nat.le_of_ble_eq_true rfl) rfl rfl ?_
      refine wa_iconst dX4_look_73 ?_
      refine wa_callV (ci := 4) dX4_look_74 KX4_choose LX4_77 ⟨_, _, rfl, by decide⟩ o143 (choose_all hL 3 (by omega) (va_up K 147 v) L2 p sz lf n set r [] ⟨hcs.fr (fun a _ a2 _ => vup_n a2) (fun _ _ => rfl), by (simp (disch := omega) only [vup_n, vup_s]; exact v2'), fun j hj => by omega, by (rw [vup_n (by decide), k144]; exact ⟨rfl, by simp, fun k q hq => by simp at hq⟩)⟩ (by simp)) (by decide) rfl (Nat.le_of_ble_eq_true rfl) rfl rfl (fun r h' hq => ?_)
      obtain ⟨rfl, I3, L3, rfl, t1, t2, t3, t4, t5⟩ := hq
      simp only [ENr, List.nil_append] at t5
      simp (disch := omega) only [vup_n, vup_s] at t5
      rw [c7, c134, cp1, cp2, cp3, eG K rfl] at t5
      refine fin I3 L2 L3 m1 (fun a a1 a2 a3 => by rw [t1 a a1 a2 a3, vup_n a2]) t2 ?_
      unfold FNDS
      rw [hset, ← eEN (K 148)]
      exact t5
  · refine wa_aload_n dX4_look_8 rfl ?_
    refine wt_getR dX4_look_9 FX4_14 (by assumption) (by assumption) ?_
    refine wa_areturn dX4_look_12 rfl ?_
    exact ⟨rfl, I, L, rfl, ⟨fun _ _ _ _ _ _ => rfl, fun _ _ _ _ _ _ => rfl⟩, c_5.symm, hch c_5.symm⟩
end S29
