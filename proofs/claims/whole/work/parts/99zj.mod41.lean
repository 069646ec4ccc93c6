/-! ===== 99zj: the reference: writing ===== -/
/-- a thing to write, as the reference holds it -/
def phi (x : Int) : Int := if 0 ≤ x then x else x + 1
def PH (g st : Nat → Int) (dp : Nat) : Prop := ∀ i, i < dp → g i = phi (st i) ∧ (st i < 0 → st i ≤ -41)
set_option maxRecDepth 20000 in
theorem PH.push {g st : Nat → Int} {dp : Nat} {x y : Int} (h : PH g st dp) (e : y = phi x) (hx : x < 0 → x ≤ -41) : PH (va_up g dp y) (va_up st dp x) (dp + 1) := fun i hi => by
  by_cases z : i = dp
  · subst z; rw [vup_s, vup_s]; exact ⟨e, hx⟩
  · rw [vup_n z, vup_n z]; exact h i (by omega)
/-- the answer of writing, ln written, out yet to write -/
def wrA (k : Int) (ln : Nat) (out : List Int) : Int := if k = -1 then ((ln + out.length : Nat) : Int) else if k < ((ln + out.length : Nat) : Int) then out.getD (k - ln).toNat 0 else -5
set_option maxRecDepth 20000 in
theorem wrA_hit {ln : Nat} {x : Int} {out : List Int} : wrA (ln : Int) ln (x :: out) = x := by
  unfold wrA
  rw [if_neg (by omega), if_pos (by rw [List.length_cons]; omega), show ((ln : Int) - ln).toNat = 0 by omega]
  rfl
set_option maxRecDepth 20000 in
theorem wrA_next {k : Int} {ln : Nat} {x : Int} {out : List Int} (h : k = -1 ∨ (ln : Int) < k) : wrA k ln (x :: out) = wrA k (ln + 1) out := by
  unfold wrA
  rw [List.length_cons, show ln + (out.length + 1) = ln + 1 + out.length by omega]
  by_cases c : k = -1
  · rw [if_pos c, if_pos c]
  · rw [if_neg c, if_neg c, show (k - ln).toNat = (k - ((ln + 1 : Nat) : Int)).toNat + 1 by omega]
    rfl
set_option maxRecDepth 20000 in
theorem sgI_lt : ∀ s : Nat, s < 7 → sgI s = (if s < 4 then 97 + (s : Int) else 102 + (s : Int) - 4) := by decide
section S99zj
variable {S : tmS} {I : Nat → Nat → Int} {L : Nat → Nat → Int64}
set_option maxRecDepth 20000 in
theorem c_mletterOf {h : tmH} {s : Nat} (hs : s < 7) : tmC yX12_letterOf kX12_letterOf 1 0 0 [tI s] h (tmF (some (tI (sgI s))) h) := by
  refine tmC.mk (lv := [some (tI s)]) 0 ⟨rfl, by decide +kernel, by decide⟩ rfl rfl ?_
  rw [sgI_lt s hs]
  by_cases c : s < 4
  · rw [if_pos c]
    refine wa_iload_n dX12_letterOf_0 rfl ?_
    refine wa_iconst dX12_letterOf_1 ?_
    refine wa_icmp_ge 12 dX12_letterOf_2 (by decide) (by exact ⟨by omega, by omega⟩) (by exact ⟨by omega, by omega⟩) (fun c_2 => ?_) (fun c_2 => ?_)
    · omega
    · refine wa_bipush dX12_letterOf_5 rfl ?_
      refine wa_iload_n dX12_letterOf_7 rfl ?_
      refine wa_iadd dX12_letterOf_8 ?_
      refine wa_goto 18 dX12_letterOf_9 (by decide) ?_
      refine wa_ireturn dX12_letterOf_18 rfl ?_
      exact ⟨rfl, rfl⟩
  · rw [if_neg c]
    refine wa_iload_n dX12_letterOf_0 rfl ?_
    refine wa_iconst dX12_letterOf_1 ?_
    refine wa_icmp_ge 12 dX12_letterOf_2 (by decide) (by exact ⟨by omega, by omega⟩) (by exact ⟨by omega, by omega⟩) (fun c_2 => ?_) (fun c_2 => ?_)
    · refine wa_bipush dX12_letterOf_12 rfl ?_
      refine wa_iload_n dX12_letterOf_14 rfl ?_
      refine wa_iadd dX12_letterOf_15 ?_
      refine wa_iconst dX12_letterOf_16 ?_
      refine wa_isub dX12_letterOf_17 ?_
      refine wa_ireturn dX12_letterOf_18 rfl ?_
      exact ⟨rfl, rfl⟩
    · omega
abbrev WgPost (S : tmS) (I : Nat → Nat → Int) (L : Nat → Nat → Int64) (v : Int) : Option tmV → tmH → Prop := fun q h' => q = some (tI v) ∧ ∃ J, h' = (S, J, L) ∧ ∀ a, a ≠ 191 → J a = I a
-- the end of the loop
set_option maxRecDepth 20000 in
theorem mwr_end (hL : LX S) {J : Nat → Nat → Int} (hJ : ∀ a, a ≠ 191 → J a = I a) {t k : Int} (hk : inR k) {ln : Nat} (hkl : k = -1 ∨ (ln : Int) ≤ k) (a4 a5 a6 : Option tmV) : tmW kX12_writing 3 0 0 203 [some (tR 168), some (tI t), some (tI k), some (tI ln), a4, a5, a6] [] (S, J, L) (WgPost S I L (wrA k ln [])) := by
  by_cases c : k = -1
  · have e : wrA k ln [] = (ln : Int) := by unfold wrA; rw [if_pos c]; rfl
    rw [e]
    refine wa_iload_n dX12_writing_203 rfl ?_
    refine wa_iconst dX12_writing_204 ?_
    refine wa_icmp_ne 212 dX12_writing_205 (by decide) (by first | exact hk | exact ⟨by omega, by omega⟩) (by first | exact hk | exact ⟨by omega, by omega⟩) (fun c_205 => ?_) (fun c_205 => ?_)
    · omega
    · refine wa_iload_n dX12_writing_208 rfl ?_
      refine wa_goto 214 dX12_writing_209 (by decide) ?_
      refine wa_ireturn dX12_writing_214 rfl ?_
      exact ⟨rfl, J, rfl, hJ⟩
  · have e : wrA k ln [] = -5 := by unfold wrA; rw [if_neg c, if_neg (by rw [List.length_nil]; omega)]
    rw [e]
    refine wa_iload_n dX12_writing_203 rfl ?_
    refine wa_iconst dX12_writing_204 ?_
    refine wa_icmp_ne 212 dX12_writing_205 (by decide) (by first | exact hk | exact ⟨by omega, by omega⟩) (by first | exact hk | exact ⟨by omega, by omega⟩) (fun c_205 => ?_) (fun c_205 => ?_)
    · refine wa_bipush dX12_writing_212 rfl ?_
      refine wa_ireturn dX12_writing_214 rfl ?_
      exact ⟨rfl, J, rfl, hJ⟩
    · omega
set_option maxRecDepth 20000 in
theorem mwr_lp (hL : LX S) {X : TS} (hX : TsOK X) (hM : MT I X) {T : Nat} (hT : T < 50) {t k : Int} (hk : inR k) : ∀ (f ln dp : Nat) (st : Nat → Int) (J : Nat → Nat → Int) (a5 a6 : Option tmV), ln + f = 300 → SkI X.1 T dp st → PH (J 191) st dp → (∀ a, a ≠ 191 → J a = I a) → (k = -1 ∨ (ln : Int) ≤ k) → tmW kX12_writing 3 0 0 35 [some (tR 168), some (tI t), some (tI k), some (tI ln), some (tI dp), a5, a6] [] (S, J, L) (WgPost S I L (wrA k ln (outW X.2.1 X.2.2.1 X.2.2.2.1 f (stk st dp)))) := by
  intro f
  have o168 := oX168 hL
  have r168_0 := rX168_0 hL
  have r168_1 := rX168_1 hL
  have r168_3 := rX168_3 hL
  have r168_4 := rX168_4 hL
  have r168_5 := rX168_5 hL
  have r168_6 := rX168_6 hL
  have r168_7 := rX168_7 hL
  have r168_8 := rX168_8 hL
  have r168_11 := rX168_11 hL
  have r168_13 := rX168_13 hL
  have r168_17 := rX168_17 hL
  have r168_18 := rX168_18 hL
  have r168_19 := rX168_19 hL
  have r168_21 := rX168_21 hL
  have r168_22 := rX168_22 hL
  have r168_23 := rX168_23 hL
  have r168_24 := rX168_24 hL
  have r168_25 := rX168_25 hL
  have r168_26 := rX168_26 hL
  have r168_27 := rX168_27 hL
  have r168_28 := rX168_28 hL
  have r168_29 := rX168_29 hL
  have r168_30 := rX168_30 hL
  have o169 := oX169 hL
  have o191 := oX191 hL
  have h50 := hX.1
  induction f with
  | zero =>
    intro ln dp st J a5 a6 hf hs hp hJ hkl
    have := mwr_end (I := I) (L := L) hL hJ (t := t) hk hkl (some (tI dp)) a5 a6
    have d1 := hs.1
    have e0 : outW X.2.1 X.2.2.1 X.2.2.2.1 0 (stk st dp) = [] := by simp [outW]
    rw [e0]
    refine wa_iload dX12_writing_35 rfl ?_
    refine wa_if_le 203 dX12_writing_37 (by decide) (by exact ⟨by omega, by omega⟩) (fun c_37 => ?_) (fun c_37 => ?_)
    · exact this
    · refine wa_iload_n dX12_writing_40 rfl ?_
      refine wa_sipush dX12_writing_41 rfl ?_
      refine wa_icmp_ge 203 dX12_writing_44 (by decide) (by exact ⟨by omega, by omega⟩) (by exact ⟨by omega, by omega⟩) (fun c_44 => ?_) (fun c_44 => ?_)
      · exact this
      · omega
  | succ f ih =>
    intro ln dp st J a5 a6 hf hs hp hJ hkl
    have d1 := hs.1
    cases dp with
    | zero =>
      have := mwr_end (I := I) (L := L) hL hJ (t := t) hk hkl (some (tI ((0 : Nat) : Int))) a5 a6
      have e0 : outW X.2.1 X.2.2.1 X.2.2.2.1 (f + 1) (stk st 0) = [] := by simp [outW, stk]
      rw [e0]
      refine wa_iload dX12_writing_35 rfl ?_
      refine wa_if_le 203 dX12_writing_37 (by decide) (by exact ⟨by omega, by omega⟩) (fun c_37 => ?_) (fun c_37 => ?_)
      · exact this
      · omega
    | succ dp =>
      have el : ((dp + 1 : Nat) : Int) + -1 = ((dp : Nat) : Int) := by omega
      obtain ⟨h1, h2⟩ := hp dp (by omega)
      obtain ⟨s1, s2⟩ := hs.2 dp (by omega)
      have j9 : J 169 = I 169 := hJ 169 (by decide)
      simp only [stk, outW]
      by_cases c : 0 ≤ st dp
      · rw [if_pos c]
        obtain ⟨x, hx⟩ : ∃ x : Nat, st dp = (x : Int) := ⟨(st dp).toNat, by omega⟩
        have hxn : x < X.1 := by have := (s1 c).1; omega
        have h1 : J 191 dp = (x : Int) := by rw [h1, hx]; unfold phi; rw [if_pos (by omega)]
        have sp := hs.push hX.2.1 c
        rw [hx, Int.toNat_natCast] at sp ⊢
        obtain ⟨w1, w2, w3, w4, w5, w6, w7, w8, w9, w10⟩ := hX.2.1 x hxn
        obtain ⟨m1, m2, m3, _⟩ := hM.2 x hxn
        obtain ⟨s, hsn⟩ : ∃ s : Nat, X.2.1 x = (s : Int) := ⟨(X.2.1 x).toNat, by omega⟩
        have g2 : J 169 (2 + x) = (s : Int) := by rw [j9, m1]; exact hsn
        have g52 : J 169 (52 + x) = X.2.2.1 x := by rw [j9]; exact m2
        have g102 : J 169 (102 + x) = X.2.2.2.1 x := by rw [j9]; exact m3
        have kl := c_mletterOf (h := (S, J, L)) (s := s) (by omega)
        rw [hsn, Int.toNat_natCast]
        rw [hsn] at sp w7 w8 w9 w10
        have sr : inR (sgI s) := sgI_r s (by omega)
        have pl : PH (J 191) st dp := fun i hi => hp i (by omega)
        -- what is pushed
        have nx : ∀ K : Nat → Nat → Int, (∀ a, a ≠ 191 → K a = I a) → (k = -1 ∨ (ln : Int) < k) → PH (K 191) (skPush st dp (wrL (s : Int) (X.2.2.1 x) (X.2.2.2.1 x))) (dp + (wrL (s : Int) (X.2.2.1 x) (X.2.2.2.1 x)).length) → tmW kX12_writing 3 0 0 35 [some (tR 168), some (tI t), some (tI k), some (tI ((ln + 1 : Nat) : Int)), some (tI ((dp + (wrL (s : Int) (X.2.2.1 x) (X.2.2.2.1 x)).length : Nat) : Int)), some (tI x), some (tI (sgI s))] [] (S, K, L) (WgPost S I L (wrA k ln (sgI s :: outW X.2.1 X.2.2.1 X.2.2.2.1 f ((wrL (s : Int) (X.2.2.1 x) (X.2.2.2.1 x)).reverse ++ stk st dp)))) := fun K k1 k2 k3 => by
          rw [wrA_next k2, ← stk_push]
          exact ih (ln + 1) _ _ K _ _ (by omega) sp k3 k1 (by omega)
        generalize hout : outW X.2.1 X.2.2.1 X.2.2.2.1 f ((wrL (s : Int) (X.2.2.1 x) (X.2.2.2.1 x)).reverse ++ stk st dp) = out at nx ⊢
        have p92 : (k = -1 ∨ (ln : Int) < k) → tmW kX12_writing 3 0 0 92 [some (tR 168), some (tI t), some (tI k), some (tI ln), some (tI dp), some (tI x), some (tI (sgI s))] [] (S, J, L) (WgPost S I L (wrA k ln (sgI s :: out))) := fun hkk => by
          by_cases c4 : s < 4
          · have e : wrL (s : Int) (X.2.2.1 x) (X.2.2.2.1 x) = [] := by unfold wrL; rw [if_pos (by omega)]
            rw [e] at nx
            have nx := nx J hJ hkk pl
            simp only [List.length_nil, Nat.add_zero] at nx
            refine wa_iinc dX12_writing_92 rfl (by decide) ?_
            refine wa_iload dX12_writing_95 rfl ?_
            refine wa_if_lt 200 dX12_writing_97 (by decide) (by exact ⟨by omega, by omega⟩) (fun c_97 => ?_) (fun c_97 => ?_)
            · omega
            · refine wa_aload_n dX12_writing_100 rfl ?_
              refine wt_getR dX12_writing_101 FX12_7 (by assumption) (by assumption) ?_
              refine wa_bipush dX12_writing_104 rfl ?_
              refine wa_iload dX12_writing_106 rfl ?_
              refine wa_iadd dX12_writing_108 ?_
              refine wt_iald (52 + x) dX12_writing_109 (by assumption) (by omega) (by omega) ?_
              try first | rw [g52] | skip
              refine wa_if_lt 200 dX12_writing_110 (by decide) (by exact ⟨by omega, by omega⟩) (fun c_110 => ?_) (fun c_110 => ?_)
              · refine wa_goto 35 dX12_writing_200 (by decide) ?_
                exact nx
              · omega
          · by_cases c6 : s = 6
            · have e : wrL (s : Int) (X.2.2.1 x) (X.2.2.2.1 x) = [-42, X.2.2.2.1 x, -45, X.2.2.1 x, -41] := by unfold wrL; rw [if_neg (by omega), if_pos (by omega)]
              rw [e] at nx
              generalize hV : va_up J 191 (va_up (va_up (va_up (va_up (va_up (J 191) dp (-41)) (dp + 1) (X.2.2.2.1 x)) (dp + 1 + 1) (-44)) (dp + 1 + 1 + 1) (X.2.2.1 x)) (dp + 1 + 1 + 1 + 1) (-40)) = V
              have nx := nx V (fun a ha => by rw [← hV, vup_n ha]; exact hJ a ha) hkk (by
                rw [← hV, vup_s]
                simp only [skPush, List.length_cons, List.length_nil]
                exact ((((pl.push (x := -42) (y := -41) (by decide) (by decide)).push (x := X.2.2.2.1 x) (by unfold phi; rw [if_pos (by omega)]) (by omega)).push (x := -45) (y := -44) (by decide) (by decide)).push (x := X.2.2.1 x) (by unfold phi; rw [if_pos (by omega)]) (by omega)).push (x := -41) (y := -40) (by decide) (by decide))
              simp only [List.length_cons, List.length_nil] at nx
              have e5 : (dp : Int) + 1 + 2 + 2 = ((dp + (0 + 1 + 1 + 1 + 1 + 1) : Nat) : Int) := by omega
              have f52 : ∀ g : Nat → Int, va_up J 191 g 169 (52 + x) = X.2.2.1 x := fun g => by rw [vup_n (by decide)]; exact g52
              have f102 : ∀ g : Nat → Int, va_up J 191 g 169 (102 + x) = X.2.2.2.1 x := fun g => by rw [vup_n (by decide)]; exact g102
              refine wa_iinc dX12_writing_92 rfl (by decide) ?_
              refine wa_iload dX12_writing_95 rfl ?_
              refine wa_if_lt 200 dX12_writing_97 (by decide) (by exact ⟨by omega, by omega⟩) (fun c_97 => ?_) (fun c_97 => ?_)
              · omega
              · refine wa_aload_n dX12_writing_100 rfl ?_
                refine wt_getR dX12_writing_101 FX12_7 (by assumption) (by assumption) ?_
                refine wa_bipush dX12_writing_104 rfl ?_
                refine wa_iload dX12_writing_106 rfl ?_
                refine wa_iadd dX12_writing_108 ?_
                refine wt_iald (52 + x) dX12_writing_109 (by assumption) (by omega) (by omega) ?_
                try first | rw [g52] | rw [f52] | rw [f102] | skip
                refine wa_if_lt 200 dX12_writing_110 (by decide) (by exact ⟨by omega, by omega⟩) (fun c_110 => ?_) (fun c_110 => ?_)
                · omega
                · refine wa_aload_n dX12_writing_113 rfl ?_
                  refine wt_getR dX12_writing_114 FX12_76 (by assumption) (by assumption) ?_
                  refine wa_iload dX12_writing_117 rfl ?_
                  refine wa_bipush dX12_writing_119 rfl ?_
                  refine wt_iast dp dX12_writing_121 (by assumption) rfl (by omega) (by exact ⟨by omega, by omega⟩) ?_
                  refine wa_iinc dX12_writing_122 rfl (by decide) ?_
                  refine wa_aload_n dX12_writing_125 rfl ?_
                  refine wt_getR dX12_writing_126 FX12_7 (by assumption) (by assumption) ?_
                  refine wa_bipush dX12_writing_129 rfl ?_
                  refine wa_iload dX12_writing_131 rfl ?_
                  refine wa_iadd dX12_writing_133 ?_
                  refine wt_iald (102 + x) dX12_writing_134 (by assumption) (by omega) (by omega) ?_
                  try first | rw [g52] | rw [f52] | rw [f102] | skip
                  refine wa_if_lt 169 dX12_writing_135 (by decide) (by exact ⟨by omega, by omega⟩) (fun c_135 => ?_) (fun c_135 => ?_)
                  · omega
                  · refine wa_aload_n dX12_writing_138 rfl ?_
                    refine wt_getR dX12_writing_139 FX12_76 (by assumption) (by assumption) ?_
                    refine wa_iload dX12_writing_142 rfl ?_
                    refine wa_aload_n dX12_writing_144 rfl ?_
                    refine wt_getR dX12_writing_145 FX12_7 (by assumption) (by assumption) ?_
                    refine wa_bipush dX12_writing_148 rfl ?_
                    refine wa_iload dX12_writing_150 rfl ?_
                    refine wa_iadd dX12_writing_152 ?_
                    refine wt_iald (102 + x) dX12_writing_153 (by assumption) (by omega) (by omega) ?_
                    try first | rw [g52] | rw [f52] | rw [f102] | skip
                    refine wt_iast (dp + 1) dX12_writing_154 (by assumption) (by omega) (by omega) (by exact ⟨by omega, by omega⟩) ?_
                    rw [vup_s, vup_vup]
                    refine wa_aload_n dX12_writing_155 rfl ?_
                    refine wt_getR dX12_writing_156 FX12_76 (by assumption) (by assumption) ?_
                    refine wa_iload dX12_writing_159 rfl ?_
                    refine wa_iconst dX12_writing_161 ?_
                    refine wa_iadd dX12_writing_162 ?_
                    refine wa_bipush dX12_writing_163 rfl ?_
                    refine wt_iast (dp + 1 + 1) dX12_writing_165 (by assumption) (by omega) (by omega) (by exact ⟨by omega, by omega⟩) ?_
                    rw [vup_s, vup_vup]
                    refine wa_iinc dX12_writing_166 rfl (by decide) ?_
                    refine wa_aload_n dX12_writing_169 rfl ?_
                    refine wt_getR dX12_writing_170 FX12_76 (by assumption) (by assumption) ?_
                    refine wa_iload dX12_writing_173 rfl ?_
                    refine wa_aload_n dX12_writing_175 rfl ?_
                    refine wt_getR dX12_writing_176 FX12_7 (by assumption) (by assumption) ?_
                    refine wa_bipush dX12_writing_179 rfl ?_
                    refine wa_iload dX12_writing_181 rfl ?_
                    refine wa_iadd dX12_writing_183 ?_
                    refine wt_iald (52 + x) dX12_writing_184 (by assumption) (by omega) (by omega) ?_
                    try first | rw [g52] | rw [f52] | rw [f102] | skip
                    refine wt_iast (dp + 1 + 1 + 1) dX12_writing_185 (by assumption) (by omega) (by omega) (by exact ⟨by omega, by omega⟩) ?_
                    rw [vup_s, vup_vup]
                    refine wa_aload_n dX12_writing_186 rfl ?_
                    refine wt_getR dX12_writing_187 FX12_76 (by assumption) (by assumption) ?_
                    refine wa_iload dX12_writing_190 rfl ?_
                    refine wa_iconst dX12_writing_192 ?_
                    refine wa_iadd dX12_writing_193 ?_
                    refine wa_bipush dX12_writing_194 rfl ?_
                    refine wt_iast (dp + 1 + 1 + 1 + 1) dX12_writing_196 (by assumption) (by omega) (by omega) (by exact ⟨by omega, by omega⟩) ?_
                    rw [vup_s, vup_vup, hV]
                    refine wa_iinc dX12_writing_197 rfl (by decide) ?_
                    rw [e5]
                    refine wa_goto 35 dX12_writing_200 (by decide) ?_
                    exact nx
            · have e : wrL (s : Int) (X.2.2.1 x) (X.2.2.2.1 x) = [-42, X.2.2.1 x, -41] := by unfold wrL; rw [if_neg (by omega), if_neg (by omega)]
              rw [e] at nx
              generalize hV : va_up J 191 (va_up (va_up (va_up (J 191) dp (-41)) (dp + 1) (X.2.2.1 x)) (dp + 1 + 1) (-40)) = V
              have nx := nx V (fun a ha => by rw [← hV, vup_n ha]; exact hJ a ha) hkk (by
                rw [← hV, vup_s]
                simp only [skPush, List.length_cons, List.length_nil]
                exact ((pl.push (x := -42) (y := -41) (by decide) (by decide)).push (x := X.2.2.1 x) (by unfold phi; rw [if_pos (by omega)]) (by omega)).push (x := -41) (y := -40) (by decide) (by decide))
              simp only [List.length_cons, List.length_nil] at nx
              have e5 : (dp : Int) + 1 + 2 = ((dp + (0 + 1 + 1 + 1) : Nat) : Int) := by omega
              have f52 : ∀ g : Nat → Int, va_up J 191 g 169 (52 + x) = X.2.2.1 x := fun g => by rw [vup_n (by decide)]; exact g52
              have f102 : ∀ g : Nat → Int, va_up J 191 g 169 (102 + x) = X.2.2.2.1 x := fun g => by rw [vup_n (by decide)]; exact g102
              refine wa_iinc dX12_writing_92 rfl (by decide) ?_
              refine wa_iload dX12_writing_95 rfl ?_
              refine wa_if_lt 200 dX12_writing_97 (by decide) (by exact ⟨by omega, by omega⟩) (fun c_97 => ?_) (fun c_97 => ?_)
              · omega
              · refine wa_aload_n dX12_writing_100 rfl ?_
                refine wt_getR dX12_writing_101 FX12_7 (by assumption) (by assumption) ?_
                refine wa_bipush dX12_writing_104 rfl ?_
                refine wa_iload dX12_writing_106 rfl ?_
                refine wa_iadd dX12_writing_108 ?_
                refine wt_iald (52 + x) dX12_writing_109 (by assumption) (by omega) (by omega) ?_
                try first | rw [g52] | rw [f52] | rw [f102] | skip
                refine wa_if_lt 200 dX12_writing_110 (by decide) (by exact ⟨by omega, by omega⟩) (fun c_110 => ?_) (fun c_110 => ?_)
                · omega
                · refine wa_aload_n dX12_writing_113 rfl ?_
                  refine wt_getR dX12_writing_114 FX12_76 (by assumption) (by assumption) ?_
                  refine wa_iload dX12_writing_117 rfl ?_
                  refine wa_bipush dX12_writing_119 rfl ?_
                  refine wt_iast dp dX12_writing_121 (by assumption) rfl (by omega) (by exact ⟨by omega, by omega⟩) ?_
                  refine wa_iinc dX12_writing_122 rfl (by decide) ?_
                  refine wa_aload_n dX12_writing_125 rfl ?_
                  refine wt_getR dX12_writing_126 FX12_7 (by assumption) (by assumption) ?_
                  refine wa_bipush dX12_writing_129 rfl ?_
                  refine wa_iload dX12_writing_131 rfl ?_
                  refine wa_iadd dX12_writing_133 ?_
                  refine wt_iald (102 + x) dX12_writing_134 (by assumption) (by omega) (by omega) ?_
                  try first | rw [g52] | rw [f52] | rw [f102] | skip
                  refine wa_if_lt 169 dX12_writing_135 (by decide) (by exact ⟨by omega, by omega⟩) (fun c_135 => ?_) (fun c_135 => ?_)
                  · refine wa_aload_n dX12_writing_169 rfl ?_
                    refine wt_getR dX12_writing_170 FX12_76 (by assumption) (by assumption) ?_
                    refine wa_iload dX12_writing_173 rfl ?_
                    refine wa_aload_n dX12_writing_175 rfl ?_
                    refine wt_getR dX12_writing_176 FX12_7 (by assumption) (by assumption) ?_
                    refine wa_bipush dX12_writing_179 rfl ?_
                    refine wa_iload dX12_writing_181 rfl ?_
                    refine wa_iadd dX12_writing_183 ?_
                    refine wt_iald (52 + x) dX12_writing_184 (by assumption) (by omega) (by omega) ?_
                    try first | rw [g52] | rw [f52] | rw [f102] | skip
                    refine wt_iast (dp + 1) dX12_writing_185 (by assumption) (by omega) (by omega) (by exact ⟨by omega, by omega⟩) ?_
                    rw [vup_s, vup_vup]
                    refine wa_aload_n dX12_writing_186 rfl ?_
                    refine wt_getR dX12_writing_187 FX12_76 (by assumption) (by assumption) ?_
                    refine wa_iload dX12_writing_190 rfl ?_
                    refine wa_iconst dX12_writing_192 ?_
                    refine wa_iadd dX12_writing_193 ?_
                    refine wa_bipush dX12_writing_194 rfl ?_
                    refine wt_iast (dp + 1 + 1) dX12_writing_196 (by assumption) (by omega) (by omega) (by exact ⟨by omega, by omega⟩) ?_
                    rw [vup_s, vup_vup, hV]
                    refine wa_iinc dX12_writing_197 rfl (by decide) ?_
                    rw [e5]
                    refine wa_goto 35 dX12_writing_200 (by decide) ?_
                    exact nx
                  · omega
        by_cases ck : k = (ln : Int)
        · have e : wrA k ln (sgI s :: out) = sgI s := by rw [ck]; exact wrA_hit
          rw [e]
          refine wa_iload dX12_writing_35 rfl ?_
          refine wa_if_le 203 dX12_writing_37 (by decide) (by first | exact hk | exact ⟨by omega, by omega⟩) (fun c_37 => ?_) (fun c_37 => ?_)
          · omega
          · refine wa_iload_n dX12_writing_40 rfl ?_
            refine wa_sipush dX12_writing_41 rfl ?_
            refine wa_icmp_ge 203 dX12_writing_44 (by decide) (by first | exact hk | exact ⟨by omega, by omega⟩) (by first | exact hk | exact ⟨by omega, by omega⟩) (fun c_44 => ?_) (fun c_44 => ?_)
            · omega
            · refine wa_iinc dX12_writing_47 rfl (by decide) ?_
              rw [el]
              refine wa_aload_n dX12_writing_50 rfl ?_
              refine wt_getR dX12_writing_51 FX12_76 (by assumption) (by assumption) ?_
              refine wa_iload dX12_writing_54 rfl ?_
              refine wt_iald dp dX12_writing_56 (by assumption) rfl (by omega) ?_
              try first | rw [h1] | rw [g2] | skip
              refine wa_istore dX12_writing_57 (by decide) ?_
              refine wa_iload dX12_writing_59 rfl ?_
              refine wa_if_ge 70 dX12_writing_61 (by decide) (by first | exact hk | exact ⟨by omega, by omega⟩) (fun c_61 => ?_) (fun c_61 => ?_)
              · refine wa_aload_n dX12_writing_70 rfl ?_
                refine wt_getR dX12_writing_71 FX12_7 (by assumption) (by assumption) ?_
                refine wa_iconst dX12_writing_74 ?_
                refine wa_iload dX12_writing_75 rfl ?_
                refine wa_iadd dX12_writing_77 ?_
                refine wt_iald (2 + x) dX12_writing_78 (by assumption) (by omega) (by omega) ?_
                try first | rw [h1] | rw [g2] | skip
                refine wa_callSf dX12_writing_79 KX12_letterOf LX12_233 (kl) (by decide) rfl rfl (Nat.le_of_ble_eq_true rfl) rfl rfl ?_
                refine wa_istore dX12_writing_82 (by decide) ?_
                refine wa_iload_n dX12_writing_84 rfl ?_
                refine wa_iload_n dX12_writing_85 rfl ?_
                refine wa_icmp_ne 92 dX12_writing_86 (by decide) (by first | exact hk | exact ⟨by omega, by omega⟩) (by first | exact hk | exact ⟨by omega, by omega⟩) (fun c_86 => ?_) (fun c_86 => ?_)
                · omega
                · refine wa_iload dX12_writing_89 rfl ?_
                  refine wa_ireturn dX12_writing_91 rfl ?_
                  exact ⟨rfl, J, rfl, hJ⟩
              · omega
        · have nx := p92 (by omega)
          refine wa_iload dX12_writing_35 rfl ?_
          refine wa_if_le 203 dX12_writing_37 (by decide) (by first | exact hk | exact ⟨by omega, by omega⟩) (fun c_37 => ?_) (fun c_37 => ?_)
          · omega
          · refine wa_iload_n dX12_writing_40 rfl ?_
            refine wa_sipush dX12_writing_41 rfl ?_
            refine wa_icmp_ge 203 dX12_writing_44 (by decide) (by first | exact hk | exact ⟨by omega, by omega⟩) (by first | exact hk | exact ⟨by omega, by omega⟩) (fun c_44 => ?_) (fun c_44 => ?_)
            · omega
            · refine wa_iinc dX12_writing_47 rfl (by decide) ?_
              rw [el]
              refine wa_aload_n dX12_writing_50 rfl ?_
              refine wt_getR dX12_writing_51 FX12_76 (by assumption) (by assumption) ?_
              refine wa_iload dX12_writing_54 rfl ?_
              refine wt_iald dp dX12_writing_56 (by assumption) rfl (by omega) ?_
              try first | rw [h1] | rw [g2] | skip
              refine wa_istore dX12_writing_57 (by decide) ?_
              refine wa_iload dX12_writing_59 rfl ?_
              refine wa_if_ge 70 dX12_writing_61 (by decide) (by first | exact hk | exact ⟨by omega, by omega⟩) (fun c_61 => ?_) (fun c_61 => ?_)
              · refine wa_aload_n dX12_writing_70 rfl ?_
                refine wt_getR dX12_writing_71 FX12_7 (by assumption) (by assumption) ?_
                refine wa_iconst dX12_writing_74 ?_
                refine wa_iload dX12_writing_75 rfl ?_
                refine wa_iadd dX12_writing_77 ?_
                refine wt_iald (2 + x) dX12_writing_78 (by assumption) (by omega) (by omega) ?_
                try first | rw [h1] | rw [g2] | skip
                refine wa_callSf dX12_writing_79 KX12_letterOf LX12_233 (kl) (by decide) rfl rfl (Nat.le_of_ble_eq_true rfl) rfl rfl ?_
                refine wa_istore dX12_writing_82 (by decide) ?_
                refine wa_iload_n dX12_writing_84 rfl ?_
                refine wa_iload_n dX12_writing_85 rfl ?_
                refine wa_icmp_ne 92 dX12_writing_86 (by decide) (by first | exact hk | exact ⟨by omega, by omega⟩) (by first | exact hk | exact ⟨by omega, by omega⟩) (fun c_86 => ?_) (fun c_86 => ?_)
                · exact nx
                · omega
              · omega
      · rw [if_neg c]
        have h3 := h2 (by omega)
        have h4 := s2 (by omega)
        obtain ⟨x, hx⟩ : ∃ x : Int, st dp = x - 1 := ⟨st dp + 1, by omega⟩
        have h1 : J 191 dp = x := by rw [h1]; unfold phi; rw [if_neg c]; omega
        have ec : -1 - st dp = -x := by omega
        rw [ec]
        generalize hout : outW X.2.1 X.2.2.1 X.2.2.2.1 f (stk st dp) = out
        by_cases ck : k = (ln : Int)
        · have e : wrA k ln (-x :: out) = -x := by rw [ck]; exact wrA_hit
          rw [e]
          refine wa_iload dX12_writing_35 rfl ?_
          refine wa_if_le 203 dX12_writing_37 (by decide) (by first | exact hk | exact ⟨by omega, by omega⟩) (fun c_37 => ?_) (fun c_37 => ?_)
          · omega
          · refine wa_iload_n dX12_writing_40 rfl ?_
            refine wa_sipush dX12_writing_41 rfl ?_
            refine wa_icmp_ge 203 dX12_writing_44 (by decide) (by first | exact hk | exact ⟨by omega, by omega⟩) (by first | exact hk | exact ⟨by omega, by omega⟩) (fun c_44 => ?_) (fun c_44 => ?_)
            · omega
            · refine wa_iinc dX12_writing_47 rfl (by decide) ?_
              rw [el]
              refine wa_aload_n dX12_writing_50 rfl ?_
              refine wt_getR dX12_writing_51 FX12_76 (by assumption) (by assumption) ?_
              refine wa_iload dX12_writing_54 rfl ?_
              refine wt_iald dp dX12_writing_56 (by assumption) rfl (by omega) ?_
              try first | rw [h1] | skip
              refine wa_istore dX12_writing_57 (by decide) ?_
              refine wa_iload dX12_writing_59 rfl ?_
              refine wa_if_ge 70 dX12_writing_61 (by decide) (by first | exact hk | exact ⟨by omega, by omega⟩) (fun c_61 => ?_) (fun c_61 => ?_)
              · omega
              · refine wa_iload dX12_writing_64 rfl ?_
                refine wa_ineg dX12_writing_66 ?_
                refine wa_goto 82 dX12_writing_67 (by decide) ?_
                refine wa_istore dX12_writing_82 (by decide) ?_
                refine wa_iload_n dX12_writing_84 rfl ?_
                refine wa_iload_n dX12_writing_85 rfl ?_
                refine wa_icmp_ne 92 dX12_writing_86 (by decide) (by first | exact hk | exact ⟨by omega, by omega⟩) (by first | exact hk | exact ⟨by omega, by omega⟩) (fun c_86 => ?_) (fun c_86 => ?_)
                · omega
                · refine wa_iload dX12_writing_89 rfl ?_
                  refine wa_ireturn dX12_writing_91 rfl ?_
                  exact ⟨rfl, J, rfl, hJ⟩
        · have sp : SkI X.1 T dp st := ⟨by omega, fun i hi => hs.2 i (by omega)⟩
          have nx := ih (ln + 1) dp st J (some (tI x)) (some (tI (-x))) (by omega) sp (fun i hi => hp i (by omega)) hJ (by omega)
          rw [hout, ← wrA_next (x := -x) (by omega)] at nx
          refine wa_iload dX12_writing_35 rfl ?_
          refine wa_if_le 203 dX12_writing_37 (by decide) (by first | exact hk | exact ⟨by omega, by omega⟩) (fun c_37 => ?_) (fun c_37 => ?_)
          · omega
          · refine wa_iload_n dX12_writing_40 rfl ?_
            refine wa_sipush dX12_writing_41 rfl ?_
            refine wa_icmp_ge 203 dX12_writing_44 (by decide) (by first | exact hk | exact ⟨by omega, by omega⟩) (by first | exact hk | exact ⟨by omega, by omega⟩) (fun c_44 => ?_) (fun c_44 => ?_)
            · omega
            · refine wa_iinc dX12_writing_47 rfl (by decide) ?_
              rw [el]
              refine wa_aload_n dX12_writing_50 rfl ?_
              refine wt_getR dX12_writing_51 FX12_76 (by assumption) (by assumption) ?_
              refine wa_iload dX12_writing_54 rfl ?_
              refine wt_iald dp dX12_writing_56 (by assumption) rfl (by omega) ?_
              try first | rw [h1] | skip
              refine wa_istore dX12_writing_57 (by decide) ?_
              refine wa_iload dX12_writing_59 rfl ?_
              refine wa_if_ge 70 dX12_writing_61 (by decide) (by first | exact hk | exact ⟨by omega, by omega⟩) (fun c_61 => ?_) (fun c_61 => ?_)
              · omega
              · refine wa_iload dX12_writing_64 rfl ?_
                refine wa_ineg dX12_writing_66 ?_
                refine wa_goto 82 dX12_writing_67 (by decide) ?_
                refine wa_istore dX12_writing_82 (by decide) ?_
                refine wa_iload_n dX12_writing_84 rfl ?_
                refine wa_iload_n dX12_writing_85 rfl ?_
                refine wa_icmp_ne 92 dX12_writing_86 (by decide) (by first | exact hk | exact ⟨by omega, by omega⟩) (by first | exact hk | exact ⟨by omega, by omega⟩) (fun c_86 => ?_) (fun c_86 => ?_)
                · refine wa_iinc dX12_writing_92 rfl (by decide) ?_
                  refine wa_iload dX12_writing_95 rfl ?_
                  refine wa_if_lt 200 dX12_writing_97 (by decide) (by first | exact hk | exact ⟨by omega, by omega⟩) (fun c_97 => ?_) (fun c_97 => ?_)
                  · refine wa_goto 35 dX12_writing_200 (by decide) ?_
                    exact nx
                  · omega
                · omega
set_option maxRecDepth 20000 in
theorem c_mwriting {m : Nat} {A : AS} (hL : LX S) (ha : AOK m A) (hm : m ≤ 1000) (h : MR I A) (t k : Int) (ht : inR t) (hk : inR k) : tmC yX12_writing kX12_writing 3 0 0 [tR 168, tI t, tI k] (S, I, L) (MPost S I L (tI (spWriting A t k).1) (spWriting A t k).2) := by
  refine tmC.mk (lv := [some (tR 168), some (tI t), some (tI k), none, none, none, none]) 4 ⟨rfl, by decide +kernel, by decide⟩ rfl rfl ?_
  have o168 := oX168 hL
  have r168_0 := rX168_0 hL
  have r168_1 := rX168_1 hL
  have r168_3 := rX168_3 hL
  have r168_4 := rX168_4 hL
  have r168_5 := rX168_5 hL
  have r168_6 := rX168_6 hL
  have r168_7 := rX168_7 hL
  have r168_8 := rX168_8 hL
  have r168_11 := rX168_11 hL
  have r168_13 := rX168_13 hL
  have r168_17 := rX168_17 hL
  have r168_18 := rX168_18 hL
  have r168_19 := rX168_19 hL
  have r168_21 := rX168_21 hL
  have r168_22 := rX168_22 hL
  have r168_23 := rX168_23 hL
  have r168_24 := rX168_24 hL
  have r168_25 := rX168_25 hL
  have r168_26 := rX168_26 hL
  have r168_27 := rX168_27 hL
  have r168_28 := rX168_28 hL
  have r168_29 := rX168_29 hL
  have r168_30 := rX168_30 hL
  have o191 := oX191 hL
  have hrf := c_mrf0 (L := L) hL ha hm h
  have h50 := ha.1.1.1.1
  have k1 := c_misTerm (I := I) (L := L) hL h.mt.1 h50 t ht
  by_cases c1 : isT A t
  · rw [if_pos c1] at k1
    by_cases c2 : -1 ≤ k
    · obtain ⟨t, rfl⟩ : ∃ t' : Nat, t = (t' : Int) := ⟨t.toNat, by have := c1.1; omega⟩
      have htn : t < A.1.1.1 := by have := c1.2; omega
      obtain ⟨st0, hst0⟩ : ∃ st0 : Nat → Int, ∀ i, st0 i = (t : Int) := ⟨fun _ => (t : Int), fun _ => rfl⟩
      have lp := (mwr_lp (I := I) (L := L) hL ha.1.1.1 h.mt (T := t) (by omega) (t := (t : Int)) (k := k) hk 300 0 1 st0 (va_up I 191 (va_up (I 191) 0 (t : Int))) none none (by omega) ⟨by omega, fun i hi => by rw [hst0 i]; exact ⟨fun _ => ⟨by omega, by omega⟩, fun z => by omega⟩⟩ (fun i hi => by
        obtain rfl : i = 0 := by omega
        rw [vup_s, vup_s, hst0 0]
        exact ⟨by unfold phi; rw [if_pos (by omega)], fun z => by omega⟩) (fun a ha' => vup_n ha') (by omega)).wk (Q2 := MPost S I L (tI (spWriting A t k).1) (spWriting A t k).2) (fun q h' hq => by
        obtain ⟨rfl, J, rfl, hJ⟩ := hq
        have e1 : stk st0 1 = [(t : Int)] := by simp only [stk]; rw [hst0 0]
        rw [e1]
        have es : spWriting A t k = (wrA k 0 (outX A.1.1 t), A) := by
          unfold spWriting wrA
          rw [if_pos ⟨c1, c2⟩, Int.toNat_natCast, Nat.zero_add]
          by_cases z : k = -1
          · rw [if_pos z, if_pos z]
          · rw [if_neg z, if_neg z, show (k - ((0 : Nat) : Int)).toNat = k.toNat by omega]
        rw [es]
        exact h.scp (J := J) (fun a hh => hJ a (by omega)) rfl)
      refine wa_aload_n dX12_writing_0 rfl ?_
      refine wa_iload_n dX12_writing_1 rfl ?_
      refine wa_callVf (ci := 12) dX12_writing_2 KX12_isTerm LX12_109 ⟨_, _, rfl, by decide⟩ o168 (k1) (by decide) rfl rfl (Nat.le_of_ble_eq_true rfl) rfl rfl ?_
      refine wa_if_eq 13 dX12_writing_5 (by decide) (by first | exact hk | exact ⟨by omega, by omega⟩) (fun c_5 => ?_) (fun c_5 => ?_)
      · omega
      · refine wa_iload_n dX12_writing_8 rfl ?_
        refine wa_iconst dX12_writing_9 ?_
        refine wa_icmp_ge 23 dX12_writing_10 (by decide) (by first | exact hk | exact ⟨by omega, by omega⟩) (by first | exact hk | exact ⟨by omega, by omega⟩) (fun c_10 => ?_) (fun c_10 => ?_)
        · refine wa_iconst dX12_writing_23 ?_
          refine wa_istore_n dX12_writing_24 (by decide) ?_
          refine wa_iconst dX12_writing_25 ?_
          refine wa_istore dX12_writing_26 (by decide) ?_
          refine wa_aload_n dX12_writing_28 rfl ?_
          refine wt_getR dX12_writing_29 FX12_76 (by assumption) (by assumption) ?_
          refine wa_iconst dX12_writing_32 ?_
          refine wa_iload_n dX12_writing_33 rfl ?_
          refine wt_iast 0 dX12_writing_34 (by assumption) rfl (by omega) (by first | exact hk | exact ⟨by omega, by omega⟩) ?_
          exact lp
        · omega
    · have e : spWriting A t k = (-10, aRf A 0) := by unfold spWriting; rw [if_neg (fun z => c2 z.2)]
      rw [e]
      refine wa_aload_n dX12_writing_0 rfl ?_
      refine wa_iload_n dX12_writing_1 rfl ?_
      refine wa_callVf (ci := 12) dX12_writing_2 KX12_isTerm LX12_109 ⟨_, _, rfl, by decide⟩ o168 (k1) (by decide) rfl rfl (Nat.le_of_ble_eq_true rfl) rfl rfl ?_
      refine wa_if_eq 13 dX12_writing_5 (by decide) (by first | exact hk | exact ⟨by omega, by omega⟩) (fun c_5 => ?_) (fun c_5 => ?_)
      · omega
      · refine wa_iload_n dX12_writing_8 rfl ?_
        refine wa_iconst dX12_writing_9 ?_
        refine wa_icmp_ge 23 dX12_writing_10 (by decide) (by first | exact hk | exact ⟨by omega, by omega⟩) (by first | exact hk | exact ⟨by omega, by omega⟩) (fun c_10 => ?_) (fun c_10 => ?_)
        · omega
        · refine wa_aload_n dX12_writing_13 rfl ?_
          refine wa_bipush dX12_writing_14 rfl ?_
          refine wa_callV (ci := 12) dX12_writing_16 KX12_refuses LX12_113 ⟨_, _, rfl, by decide⟩ o168 (hrf) (by decide) rfl (Nat.le_of_ble_eq_true rfl) rfl rfl (fun r h' hq => ?_)
          obtain ⟨rfl, J, rfl, j1, j2⟩ := hq
          refine wa_pop dX12_writing_19 rfl ?_
          refine wa_bipush dX12_writing_20 rfl ?_
          refine wa_ireturn dX12_writing_22 rfl ?_
          exact ⟨rfl, J, rfl, j1, j2⟩
  · rw [if_neg c1] at k1
    have e : spWriting A t k = (-10, aRf A 0) := by unfold spWriting; rw [if_neg (fun z => c1 z.1)]
    rw [e]
    refine wa_aload_n dX12_writing_0 rfl ?_
    refine wa_iload_n dX12_writing_1 rfl ?_
    refine wa_callVf (ci := 12) dX12_writing_2 KX12_isTerm LX12_109 ⟨_, _, rfl, by decide⟩ o168 (k1) (by decide) rfl rfl (Nat.le_of_ble_eq_true rfl) rfl rfl ?_
    refine wa_if_eq 13 dX12_writing_5 (by decide) (by first | exact hk | exact ⟨by omega, by omega⟩) (fun c_5 => ?_) (fun c_5 => ?_)
    · refine wa_aload_n dX12_writing_13 rfl ?_
      refine wa_bipush dX12_writing_14 rfl ?_
      refine wa_callV (ci := 12) dX12_writing_16 KX12_refuses LX12_113 ⟨_, _, rfl, by decide⟩ o168 (hrf) (by decide) rfl (Nat.le_of_ble_eq_true rfl) rfl rfl (fun r h' hq => ?_)
      obtain ⟨rfl, J, rfl, j1, j2⟩ := hq
      refine wa_pop dX12_writing_19 rfl ?_
      refine wa_bipush dX12_writing_20 rfl ?_
      refine wa_ireturn dX12_writing_22 rfl ?_
      exact ⟨rfl, J, rfl, j1, j2⟩
    · omega
end S99zj
