/-! ===== 39: Round.run, whole ===== -/
theorem ENT_fr {I I' : Nat → Nat → Int} {pr lfr : Nat → Nat} {n : Nat} (e : ∀ a, a < 8 ∨ a = 134 ∨ 192 ≤ a → I' a = I a) {r : Nat} (hp : 192 ≤ pr r) : ENT I' pr lfr n r = ENT I pr lfr n r := by
  have e7 := e 7 (by omega)
  have e6 := e 6 (by omega)
  have e134 := e 134 (by omega)
  have e1 := e (pr r + 1) (by omega)
  have e2 := e (pr r + 2) (by omega)
  have e3 := e (pr r + 3) (by omega)
  unfold ENT
  have : entOf I' (pr r) (lfr r) n r = entOf I (pr r) (lfr r) n r := by
    funext q
    simp only [entOf, PlF, GnF, lsOf, e7, e6, e134, e1, e2, e3]
  rw [this]
  simp only [FNDS, ENr, e7, e6, e134, e1, e2, e3]
theorem TDS_fr {I I' : Nat → Nat → Int} {pr lfr : Nat → Nat} {n : Nat} (e : ∀ a, a < 8 ∨ a = 134 ∨ 192 ≤ a → I' a = I a) (lim : Int) : ∀ r, (∀ k, k < r → 192 ≤ pr k) → TDS I' pr lfr n lim r = TDS I pr lfr n lim r ∧ nLate I' pr lfr n lim r = nLate I pr lfr n lim r := by
  intro r
  induction r with
  | zero => intro _; exact ⟨rfl, rfl⟩
  | succ r ih =>
    intro hp
    obtain ⟨i1, i2⟩ := ih (fun k hk => hp k (by omega))
    have := ENT_fr (lfr := lfr) (n := n) e (hp r (by omega))
    simp only [TDS_s, nLate, i1, i2, this, and_self]
theorem RunS_fr {I I' : Nat → Nat → Int} {pr szr lfr : Nat → Nat} : ∀ (l : List E6) (X : TS) (C : Nat → Int) (u : Int) (X' : TS) (C' : Nat → Int) (u' : Int), (∀ e ∈ l, I' (pr e.1.toNat + 1) = I (pr e.1.toNat + 1) ∧ I' (pr e.1.toNat + 2) = I (pr e.1.toNat + 2) ∧ I' (pr e.1.toNat + 3) = I (pr e.1.toNat + 3)) → RunS I pr szr lfr l X C u X' C' u' → RunS I' pr szr lfr l X C u X' C' u' := by
  intro l
  induction l with
  | nil => intro X C u X' C' u' _ h; exact h
  | cons e l ih =>
    rintro X C u X' C' u' he ⟨X1, C1, v, h1, h2⟩
    refine ⟨X1, C1, v, ?_, ih _ _ _ _ _ _ (fun x hx => he x (by simp [hx])) h2⟩
    obtain ⟨a, b, c⟩ := he e (by simp)
    unfold DoS at h1 ⊢
    rw [a, b, c]; exact h1
theorem RuleR.fr {I I' : Nat → Nat → Int} {p sz lf : Nat} (h : RuleR I p sz lf) (e : ∀ a, 192 ≤ a → I' a = I a) (hp : 192 ≤ p) : RuleR I' p sz lf := by
  unfold RuleR at h ⊢
  rw [e (p + 1) (by omega), e (p + 2) (by omega), e (p + 3) (by omega)]; exact h
theorem TDS_good' {I I' : Nat → Nat → Int} {pr lfr : Nat → Nat} {n nr : Nat} {T : List E6} (h : ∀ e ∈ T, TdGood I pr lfr n nr e) (e : ∀ a, 192 ≤ a → I' a = I a) (hp : ∀ k, k < nr → 192 ≤ pr k) {x : E6} (hx : x ∈ T) : TdGood I' pr lfr n nr x := by
  obtain ⟨a, b⟩ := h x hx
  refine ⟨a, ?_⟩
  have := hp x.1.toNat (by have := a.1; omega)
  unfold ELet at b ⊢
  rw [e _ (by omega)]; exact b
theorem ORD_mem {od : Int} {T : List E6} {e : E6} (h : e ∈ ORD od T) : e ∈ T := by
  simp only [ORD, List.mem_filterMap] at h
  obtain ⟨j, _, hj⟩ := h
  exact List.mem_of_getElem? hj
theorem ORD_len {od : Int} {T : List E6} (h : ∀ e ∈ T, 0 ≤ kf od e ∧ kf od e ≤ 49) : (ORD od T).length = T.length := by
  have h1 : (SQK (kyOf od T) T.length 50).length = T.length := SQK_all _ _ (fun j hj => by
    have he : T[j]? = some T[j] := List.getElem?_eq_getElem hj
    rw [kyOf_eq he]
    have := h _ (List.mem_of_getElem? he)
    omega)
  rw [← h1]
  unfold ORD
  rw [List.length_filterMap_eq_countP]
  exact List.countP_eq_length.mpr (fun a ha => by rw [List.getElem?_eq_getElem (SQK_mem ha)]; rfl)
def RuFr (I I' : Nat → Nat → Int) (L L' : Nat → Nat → Int64) : Prop := (∀ a, (a < 2 ∨ (8 ≤ a ∧ a < 133) ∨ (136 ≤ a ∧ a < 141) ∨ a = 145 ∨ a = 149 ∨ a = 151 ∨ 155 ≤ a) → I' a = I a) ∧ ∀ a, a ≠ 133 → a ≠ 136 → a ≠ 137 → a ≠ 138 → a ≠ 145 → a ≠ 151 → L' a = L a
section S39
variable {S : tmS} {I : Nat → Nat → Int} {L : Nat → Nat → Int64}
abbrev RuPost (S : tmS) (I : Nat → Nat → Int) (L : Nat → Nat → Int64) (pr szr lfr : Nat → Nat) (n nr : Nat) (od lim : Int) : Option tmV → tmH → Prop := fun q h' => ∃ I2 L2 n2 u2 C, q = some (tI u2) ∧ h' = (S, I2, L2) ∧ RuFr I I2 L L2 ∧ I2 143 3 = -1 ∧ TInv I2 n2 ∧ (∃ us, PlOK I2 us) ∧ n ≤ n2 ∧ C 0 = 0 ∧ C 1 = (nLate I pr lfr n lim nr : Int) ∧ C 2 = 0 ∧ C 3 = 0 ∧ C 4 = 0 ∧ RunS I pr szr lfr (ORD od (TDS I pr lfr n lim nr)) (tsOf I n) C 0 (tsOf I2 n2) (I2 154) u2
set_option maxRecDepth 20000 in
set_option maxHeartbeats 2000000 in
theorem c_run (hL : LX S) {n nr us : Nat} {pr szr lfr : Nat → Nat} (ht : TInv I n) (hpl : PlOK I us) (hrk : RulesOK S I nr pr szr lfr) (hrr : RuleRs I nr pr szr lfr) (od lim : Int) (hod : inR od) (hlim : 0 ≤ lim ∧ lim ≤ 9) (hca : CacheOK I L pr lfr n nr) :
    tmC yX3_run kX3_run 10 0 0 [tR 149, tI od, tI lim] (S, I, L) (RuPost S I L pr szr lfr n nr od lim) := by
  refine tmC.mk (lv := [some (tR 149), some (tI od), some (tI lim), none, none]) 2 ⟨rfl, by decide +kernel, by decide⟩ rfl rfl ?_
  have o149 := oX149 hL
  have r149_0 := rX149_0 hL
  have r149_1 := rX149_1 hL
  have r149_2 := rX149_2 hL
  have r149_3 := rX149_3 hL
  have r149_4 := rX149_4 hL
  have r149_5 := rX149_5 hL
  have r149_6 := rX149_6 hL
  have r149_7 := rX149_7 hL
  have o150 := oX150 hL
  have r150_0 := rX150_0 hL
  have o151 := oX151 hL
  have o152 := oX152 hL
  have o153 := oX153 hL
  have o154 := oX154 hL
  have o143 := oX143 hL
  have r143_0 := rX143_0 hL
  have r143_1 := rX143_1 hL
  have r143_2 := rX143_2 hL
  have r143_4 := rX143_4 hL
  have r143_5 := rX143_5 hL
  have r143_6 := rX143_6 hL
  have hp192 : ∀ k, k < nr → 192 ≤ pr k := fun k hk => (hrk.2.2 k hk).2.1
  generalize hJ : va_up I 154 (tmFill (I 154) 5 0) = J
  have gJ : ∀ a, a ≠ 154 → J a = I a := fun a ha => by rw [← hJ]; exact vup_n ha
  have j154 : ∀ k, k < 5 → J 154 k = 0 := fun k hk => by rw [← hJ, vup_s]; unfold tmFill; rw [if_pos hk]
  obtain ⟨td1, td2⟩ := TDS_fr (I := I) (I' := J) (pr := pr) (lfr := lfr) (n := n) (fun a ha => gJ a (by omega)) lim nr hp192
  have htJ : TInv J n := ht.fr (fun a ha => gJ a (by omega))
  have hrkJ : RulesOK S J nr pr szr lfr := hrk.fr (gJ 1 (by decide)) (fun a ha => gJ a (by omega))
  have hcaJ : CacheOK J L pr lfr n nr := fun r' hr' e => by
    rw [gJ 143 (by decide)] at e
    have := hca r' hr' e
    unfold Found at this ⊢
    have hco : CoFr I J L L := ⟨fun a _ _ _ _ _ _ a7 => gJ a a7, fun _ _ _ _ _ _ _ => rfl⟩
    obtain ⟨t1, t2, t3⟩ := hco.static (lf := lfr r') (n := n) (hp192 r' hr')
    rw [gJ 144 (by decide), t1, t2, t3]; exact this
  have hco := c_collect (I := J) (L := L) hL htJ hrkJ lim hlim (by rw [j154 1 (by decide)]; exact ⟨by decide, by decide⟩) hcaJ
  have hnl := nLate_le I pr lfr n lim nr
  have hnr6 := hrk.2.1
  have hfill := c_fillI (I := I) (L := L) o154 0 ⟨by decide, by decide⟩
  rw [hJ] at hfill
  refine wa_aload_n dX3_run_0 rfl ?_
  refine wt_getR dX3_run_1 FX3_27 (by assumption) (by assumption) ?_
  refine wa_iconst dX3_run_4 ?_
  refine wa_callSf dX3_run_5 KJ7_fill_53178 LX3_46 (hfill) (by decide) rfl rfl (Nat.le_of_ble_eq_true rfl) rfl rfl ?_
  refine wa_aload_n dX3_run_8 rfl ?_
  refine wa_iload_n dX3_run_9 rfl ?_
  refine wa_callV (ci := 3) dX3_run_10 KX3_collect LX3_52 ⟨_, _, rfl, by decide⟩ (by assumption) (hco) (by decide) rfl (Nat.le_of_ble_eq_true rfl) rfl rfl (fun r h' hq => ?_)
  obtain ⟨rfl, K, M, rfl, kf1, kf2, kf3, kf4⟩ := hq
  rw [td1] at kf2
  rw [td2] at kf3
  have htK : TInv K n := htJ.fr (fun a ha => kf1.1 a (by omega) (by omega) (by omega) (by omega) (by omega) (by omega) (by omega))
  have hgd : ∀ e ∈ TDS I pr lfr n lim nr, TdGood I pr lfr n nr e := fun e he => TDS_good ht hrk hlim.2 he
  have har := c_arrange (I := K) (L := M) hL ht.2.1 hnr6 od hod (fun e he => (hgd e he).1) kf2
  refine wa_aload_n dX3_run_13 rfl ?_
  refine wa_iload_n dX3_run_14 rfl ?_
  refine wa_callV (ci := 3) dX3_run_15 KX3_arrange LX3_55 ⟨_, _, rfl, by decide⟩ (by assumption) (har) (by decide) rfl (Nat.le_of_ble_eq_true rfl) rfl rfl (fun r h' hq => ?_)
  obtain ⟨rfl, V, rfl, vf1, vf2⟩ := hq
  have gV : ∀ a, a ≠ 143 → a ≠ 144 → a ≠ 146 → a ≠ 147 → a ≠ 148 → a ≠ 150 → a ≠ 152 → a ≠ 153 → a ≠ 154 → V a = I a := fun a a1 a2 a3 a4 a5 a6 a7 a8 a9 => by rw [vf1 a a7 a8, kf1.1 a a1 a2 a3 a4 a5 a6 a9, gJ a a9]
  have v192 : ∀ a, 192 ≤ a → V a = I a := fun a ha => gV a (by omega) (by omega) (by omega) (by omega) (by omega) (by omega) (by omega) (by omega) (by omega)
  have v150 : V 150 = K 150 := vf1 150 (by decide) (by decide)
  have v154 : V 154 = va_up (J 154) 1 (J 154 1 + nLate I pr lfr n lim nr) := by rw [vf1 154 (by decide) (by decide)]; exact kf3
  have v8 : ∀ a, a < 8 ∨ a = 134 → V a = I a := fun a ha => gV a (by omega) (by omega) (by omega) (by omega) (by omega) (by omega) (by omega) (by omega) (by omega)
  have htV : TInv V n := ht.fr v8
  have hrkV : RulesOK S V nr pr szr lfr := hrk.fr (v8 1 (by omega)) v192
  have hgdV : ∀ e ∈ TDS I pr lfr n lim nr, TdGood V pr lfr n nr e := fun e he => TDS_good' hgd v192 hp192 he
  have hln : (ORD od (TDS I pr lfr n lim nr)).length = (TDS I pr lfr n lim nr).length := ORD_len (fun e he => kf_rng ht.2.1 hnr6 (hgd e he).1 od)
  have hplV : ∃ us, PlOK V us := by
    obtain ⟨w1, w2, w3, w4⟩ := hpl
    refine ⟨us, w1, ?_, ?_, ?_⟩
    · rw [gV 133 (by decide) (by decide) (by decide) (by decide) (by decide) (by decide) (by decide) (by decide) (by decide)]; exact w2
    · rw [gV 135 (by decide) (by decide) (by decide) (by decide) (by decide) (by decide) (by decide) (by decide) (by decide)]; exact w3
    · rw [gV 135 (by decide) (by decide) (by decide) (by decide) (by decide) (by decide) (by decide) (by decide) (by decide), v8 134 (by omega)]; exact w4
  refine wa_iconst dX3_run_18 ?_
  refine wa_istore_n dX3_run_19 (by decide) ?_
  refine wa_iconst dX3_run_20 ?_
  refine wa_istore dX3_run_21 (by decide) ?_
  refine (run_loop (I := V) (L := M) (n := n) hL hrkV (fun r hr => RuleR.fr (hrr r hr) v192 (hp192 r hr)) (by rw [v150]; exact kf2) hgdV od lim hln vf2 (TDS I pr lfr n lim nr).length 0 V n 0 (by omega) (fun _ _ _ _ _ _ _ _ _ _ _ _ _ => rfl) htV (Nat.le_refl _) hplV ?_ ⟨by omega, by omega⟩).wk ?_
  · intro j hj
    rw [v154]
    by_cases z : j = 1
    · subst z; rw [vup_s, j154 1 (by decide)]; omega
    · rw [vup_n z, j154 j hj]; omega
  · rintro q h'' ⟨I3, n3, u3, rfl, rfl, w1, w2, w3, w4, w5, w6⟩
    refine ⟨I3, M, n3, u3, V 154, rfl, rfl, ⟨fun a ha => ?_, fun a a1 a2 a3 a4 a5 a6 => kf1.2 a a1 a2 a3 a4 a5 a6⟩, ?_, w3, w4, w5, ?_, ?_, ?_, ?_, ?_, ?_⟩
    · rw [w1 a (by omega) (by omega) (by omega) (by omega) (by omega) (by omega) (by omega) (by omega) (by omega) (by omega) (by omega) (by omega) (by omega)]
      exact gV a (by omega) (by omega) (by omega) (by omega) (by omega) (by omega) (by omega) (by omega) (by omega)
    · rw [w2, vup_s]
    · rw [v154, vup_n (by decide), j154 0 (by decide)]
    · rw [v154, vup_s, j154 1 (by decide)]; omega
    · rw [v154, vup_n (by decide), j154 2 (by decide)]
    · rw [v154, vup_n (by decide), j154 3 (by decide)]
    · rw [v154, vup_n (by decide), j154 4 (by decide)]
    · have et : tsOf V n = tsOf I n := by simp only [tsOf, v8 3 (by omega), v8 4 (by omega), v8 5 (by omega), v8 6 (by omega), v8 7 (by omega)]
      rw [et] at w6
      refine RunS_fr _ _ _ _ _ _ _ (fun e he => ?_) w6
      have hm : e ∈ TDS I pr lfr n lim nr := ORD_mem he
      obtain ⟨⟨⟨g1, g2⟩, _⟩, _⟩ := hgd e hm
      have := hp192 e.1.toNat (by omega)
      exact ⟨(v192 _ (by omega)).symm, (v192 _ (by omega)).symm, (v192 _ (by omega)).symm⟩
end S39
