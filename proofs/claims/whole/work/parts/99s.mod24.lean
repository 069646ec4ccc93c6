/-! ===== 99s: the reference: the end of does (pc 212) ===== -/
section S99s
variable {S : tmS} {I : Nat → Nat → Int} {L : Nat → Nat → Int64}
set_option maxRecDepth 20000 in
theorem mdoes_end (hL : LX S) {Z : TS} (hM : MT I Z) (h50 : Z.1 ≤ 50) {n : Nat} (hn : n ≤ Z.1) {r k b t : Int} {c0 : Nat} (hc0 : c0 ≤ 50) {v : Int} (hv : I 173 4 = v) (hvb : 0 ≤ v ∧ v ≤ 100000) (Q : Option tmV → tmH → Prop)
    (kk : Q (some (tI (if n < Z.1 ∨ nCls n Z.2.2.2.2.2 < c0 then 1 else 0))) (S, va_up I 173 (va_up (I 173) 4 (v + (if nCls n Z.2.2.2.2.2 < c0 then 1 else 0))), L)) :
    tmW kX12_does 6 0 0 212 [some (tR 168), some (tI r), some (tI k), some (tI b), some (tI n), some (tI c0), some (tI t), none] [] (S, I, L) Q := by
  have o168 := oX168 hL
  have r168_0 := rX168_0 hL
  have r168_1 := rX168_1 hL
  have r168_3 := rX168_3 hL
  have r168_4 := rX168_4 hL
  have r168_5 := rX168_5 hL
  have r168_6 := rX168_6 hL
  have r168_7 := rX168_7 hL
  have r168_8 := rX168_8 hL
  have r168_11 := rX168_11 hL
  have r168_13 := rX168_13 hL
  have r168_17 := rX168_17 hL
  have r168_18 := rX168_18 hL
  have r168_19 := rX168_19 hL
  have r168_21 := rX168_21 hL
  have r168_22 := rX168_22 hL
  have r168_23 := rX168_23 hL
  have r168_24 := rX168_24 hL
  have r168_25 := rX168_25 hL
  have r168_26 := rX168_26 hL
  have r168_27 := rX168_27 hL
  have r168_28 := rX168_28 hL
  have r168_29 := rX168_29 hL
  have r168_30 := rX168_30 hL
  have o169 := oX169 hL
  have o173 := oX173 hL
  have kc := c_mnCls (I := I) (L := L) hL hM h50 hn
  have e0 := hM.1
  have hb : nCls n Z.2.2.2.2.2 ≤ n := tmCnt_le _ _ _
  generalize nCls n Z.2.2.2.2.2 = c1 at *
  have f0 : ∀ w : Nat → Int, va_up I 173 w 169 0 = (Z.1 : Int) := fun w => by rw [vup_n (by decide)]; exact e0
  by_cases c : c1 < c0
  · rw [if_pos (Or.inr c), if_pos c] at kk
    refine wa_aload_n dX12_does_212 rfl ?_
    refine wa_iload dX12_does_213 rfl ?_
    refine wa_callVf (ci := 12) dX12_does_215 KX12_classesOf LX12_126 ⟨_, _, rfl, by decide⟩ o168 (kc) (by decide) rfl rfl (Nat.le_of_ble_eq_true rfl) rfl rfl ?_
    refine wa_iload dX12_does_218 rfl ?_
    refine wa_icmp_ge 227 dX12_does_220 (by decide) (by exact ⟨by omega, by omega⟩) (by exact ⟨by omega, by omega⟩) (fun c_220 => ?_) (fun c_220 => ?_)
    · omega
    · refine wa_iconst dX12_does_223 ?_
      refine wa_goto 228 dX12_does_224 (by decide) ?_
      refine wa_istore dX12_does_228 (by decide) ?_
      refine wa_aload_n dX12_does_230 rfl ?_
      refine wt_getR dX12_does_231 FX12_22 (by assumption) (by assumption) ?_
      refine wa_iconst dX12_does_234 ?_
      refine wa_dup2 dX12_does_235 rfl rfl ?_
      refine wt_iald 4 dX12_does_236 (by assumption) rfl (by omega) ?_
      try first | rw [hv] | skip
      refine wa_iload dX12_does_237 rfl ?_
      refine wa_if_eq 246 dX12_does_239 (by decide) (by exact ⟨by omega, by omega⟩) (fun c_239 => ?_) (fun c_239 => ?_)
      · omega
      · refine wa_iconst dX12_does_242 ?_
        refine wa_goto 247 dX12_does_243 (by decide) ?_
        refine wa_iadd dX12_does_247 ?_
        refine wt_iast 4 dX12_does_248 (by assumption) rfl (by omega) (by exact ⟨by omega, by omega⟩) ?_
        refine wa_iload dX12_does_249 rfl ?_
        refine wa_if_ne 265 dX12_does_251 (by decide) (by exact ⟨by omega, by omega⟩) (fun c_251 => ?_) (fun c_251 => ?_)
        · refine wa_iconst dX12_does_265 ?_
          refine wa_goto 270 dX12_does_266 (by decide) ?_
          refine wa_zreturn dX12_does_270 rfl (Or.inr rfl) ?_
          exact kk
        · omega
  · rw [if_neg c] at kk
    by_cases d : n < Z.1
    · rw [if_pos (Or.inl d)] at kk
      refine wa_aload_n dX12_does_212 rfl ?_
      refine wa_iload dX12_does_213 rfl ?_
      refine wa_callVf (ci := 12) dX12_does_215 KX12_classesOf LX12_126 ⟨_, _, rfl, by decide⟩ o168 (kc) (by decide) rfl rfl (Nat.le_of_ble_eq_true rfl) rfl rfl ?_
      refine wa_iload dX12_does_218 rfl ?_
      refine wa_icmp_ge 227 dX12_does_220 (by decide) (by exact ⟨by omega, by omega⟩) (by exact ⟨by omega, by omega⟩) (fun c_220 => ?_) (fun c_220 => ?_)
      · refine wa_iconst dX12_does_227 ?_
        refine wa_istore dX12_does_228 (by decide) ?_
        refine wa_aload_n dX12_does_230 rfl ?_
        refine wt_getR dX12_does_231 FX12_22 (by assumption) (by assumption) ?_
        refine wa_iconst dX12_does_234 ?_
        refine wa_dup2 dX12_does_235 rfl rfl ?_
        refine wt_iald 4 dX12_does_236 (by assumption) rfl (by omega) ?_
        try first | rw [hv] | rw [f0] | skip
        refine wa_iload dX12_does_237 rfl ?_
        refine wa_if_eq 246 dX12_does_239 (by decide) (by exact ⟨by omega, by omega⟩) (fun c_239 => ?_) (fun c_239 => ?_)
        · refine wa_iconst dX12_does_246 ?_
          refine wa_iadd dX12_does_247 ?_
          refine wt_iast 4 dX12_does_248 (by assumption) rfl (by omega) (by exact ⟨by omega, by omega⟩) ?_
          refine wa_iload dX12_does_249 rfl ?_
          refine wa_if_ne 265 dX12_does_251 (by decide) (by exact ⟨by omega, by omega⟩) (fun c_251 => ?_) (fun c_251 => ?_)
          · omega
          · refine wa_aload_n dX12_does_254 rfl ?_
            refine wt_getR dX12_does_255 FX12_7 (by assumption) (by assumption) ?_
            refine wa_iconst dX12_does_258 ?_
            refine wt_iald 0 dX12_does_259 (by assumption) rfl (by omega) ?_
            try first | rw [hv] | rw [f0] | skip
            refine wa_iload dX12_does_260 rfl ?_
            refine wa_icmp_le 269 dX12_does_262 (by decide) (by exact ⟨by omega, by omega⟩) (by exact ⟨by omega, by omega⟩) (fun c_262 => ?_) (fun c_262 => ?_)
            · omega
            · refine wa_iconst dX12_does_265 ?_
              refine wa_goto 270 dX12_does_266 (by decide) ?_
              refine wa_zreturn dX12_does_270 rfl (Or.inr rfl) ?_
              exact kk
        · omega
      · omega
    · rw [if_neg (fun z => z.elim d c)] at kk
      refine wa_aload_n dX12_does_212 rfl ?_
      refine wa_iload dX12_does_213 rfl ?_
      refine wa_callVf (ci := 12) dX12_does_215 KX12_classesOf LX12_126 ⟨_, _, rfl, by decide⟩ o168 (kc) (by decide) rfl rfl (Nat.le_of_ble_eq_true rfl) rfl rfl ?_
      refine wa_iload dX12_does_218 rfl ?_
      refine wa_icmp_ge 227 dX12_does_220 (by decide) (by exact ⟨by omega, by omega⟩) (by exact ⟨by omega, by omega⟩) (fun c_220 => ?_) (fun c_220 => ?_)
      · refine wa_iconst dX12_does_227 ?_
        refine wa_istore dX12_does_228 (by decide) ?_
        refine wa_aload_n dX12_does_230 rfl ?_
        refine wt_getR dX12_does_231 FX12_22 (by assumption) (by assumption) ?_
        refine wa_iconst dX12_does_234 ?_
        refine wa_dup2 dX12_does_235 rfl rfl ?_
        refine wt_iald 4 dX12_does_236 (by assumption) rfl (by omega) ?_
        try first | rw [hv] | rw [f0] | skip
        refine wa_iload dX12_does_237 rfl ?_
        refine wa_if_eq 246 dX12_does_239 (by decide) (by exact ⟨by omega, by omega⟩) (fun c_239 => ?_) (fun c_239 => ?_)
        · refine wa_iconst dX12_does_246 ?_
          refine wa_iadd dX12_does_247 ?_
          refine wt_iast 4 dX12_does_248 (by assumption) rfl (by omega) (by exact ⟨by omega, by omega⟩) ?_
          refine wa_iload dX12_does_249 rfl ?_
          refine wa_if_ne 265 dX12_does_251 (by decide) (by exact ⟨by omega, by omega⟩) (fun c_251 => ?_) (fun c_251 => ?_)
          · omega
          · refine wa_aload_n dX12_does_254 rfl ?_
            refine wt_getR dX12_does_255 FX12_7 (by assumption) (by assumption) ?_
            refine wa_iconst dX12_does_258 ?_
            refine wt_iald 0 dX12_does_259 (by assumption) rfl (by omega) ?_
            try first | rw [hv] | rw [f0] | skip
            refine wa_iload dX12_does_260 rfl ?_
            refine wa_icmp_le 269 dX12_does_262 (by decide) (by exact ⟨by omega, by omega⟩) (by exact ⟨by omega, by omega⟩) (fun c_262 => ?_) (fun c_262 => ?_)
            · refine wa_iconst dX12_does_269 ?_
              refine wa_zreturn dX12_does_270 rfl (Or.inl rfl) ?_
              exact kk
            · omega
        · omega
      · omega
end S99s
