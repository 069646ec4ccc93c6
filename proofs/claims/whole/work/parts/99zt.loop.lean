/-! ===== 99zt: the law's loop, its beginning, the claim ===== -/
section S99zt
variable {p : Program} {l : Launch} {e : Env} {s : State} {m : MethodId} {below : List Frame} {meth : Method} {c : Code} {b Ln : Nat} {xs : Nat → Int32} {G : tmG} {bc bs pc n : Nat} {st : List tmV} {h : tmH}
set_option maxRecDepth 20000 in
theorem y_next (C : yC p s m meth c b Ln xs G) (k : yL p l e s m below meth c b G bc bs 18 (n + 4) [] h) : yL p l e s m below meth c b G bc bs 673 n [] h := by
  intro H locs cells slots ls hc hs hl hR hS
  refine lv_iinc C.1.1 C.1.2.1 dL_law_673 hl (k := 0) rfl (v := Int32.ofInt ((n + 4 : Nat) : Int)) (by rw [← Int32.ofInt_add]; rfl) (by decide) rfl (fun ls' h' => ?_)
  refine lv_goto C.1.1 C.1.2.1 dL_law_676 (tgt := 18) (by decide) ?_
  exact k H locs cells slots ls' hc hs h' hR hS
set_option maxRecDepth 20000 in
theorem y_head {j k : Nat} {S : tmS} {I : Nat → Nat → Int} {L : Nat → Nat → Int64} {A : AS} (C : yC p s m meth c b Ln xs G) (hj : j + k = 512) (hc : CR S I L j A) (hm : MR I A)
    (ih : ∀ (k' : Nat), k = k' + 1 → ∀ (S' : tmS) (I' : Nat → Nat → Int) (L' : Nat → Nat → Int64) (A' : AS), CR S' I' L' (j + 1) A' → MR I' A' → yL p l e s m below meth c b G (30 * k') (2916 * k') 18 (4 * j + 4) [] (S', I', L')) : yL p l e s m below meth c b G (30 * k) (2916 * k) 18 (4 * j) [] (S, I, L) := by
  intro H locs cells slots ls hcl hs hl hR hS
  have hLn := C.2.2.2
  refine lv_iload_n C.1.1 C.1.2.1 dL_law_18 rfl (lv_at hl 0 rfl) ?_
  refine lv_aload_n C.1.1 C.1.2.1 dL_law_19 rfl (lv_at hl 3 rfl) ?_
  refine va_slen (A := tmA s.heap.size) C.1.1 C.1.2.1 C.2.1 C.2.2.1 (Nat.not_le.mpr C.2.2.1) hS dL_law_20 ?_
  rw [show Int32.ofNat Ln = Int32.ofInt (Ln : Int) from rfl]
  refine lv_iconst C.1.1 C.1.2.1 dL_law_21 rfl ?_
  refine lv_isub C.1.1 C.1.2.1 dL_law_22 ?_
  rw [← Int32.ofInt_sub]
  refine lv_icmp_gt C.1.1 C.1.2.1 dL_law_23 (tgt := 679) (by decide) (fun z => ?_) (fun z => ?_)
  · refine lv_iconst C.1.1 C.1.2.1 dL_law_679 (v := 1) rfl ?_
    refine va_forget (fun q hq => hS.2.2 q hq) ?_
    refine W.widen (k := 600000) (n := 7302250) (by omega) (by omega) ?_
    exact lw_ret C.1.1 C.1.2.1 C.1.2.2.2.1 C.1.2.2.2.2.1 dL_law_680
  · rw [tm_lt ⟨by omega, by omega⟩ ⟨by omega, by omega⟩] at z
    obtain ⟨k', rfl⟩ : ∃ k', k = k' + 1 := ⟨k - 1, by omega⟩
    have kk : ∀ (S' : tmS) (I' : Nat → Nat → Int) (L' : Nat → Nat → Int64) (A' : AS), CR S' I' L' (j + 1) A' → MR I' A' → yL p l e s m below meth c b G (30 * k') (2916 * k') 673 (4 * j) [] (S', I', L') := fun S' I' L' A' h1 h2 => y_next C (ih k' rfl S' I' L' A' h1 h2)
    refine lv_aload_n C.1.1 C.1.2.1 dL_law_26 rfl (lv_at hl 3 rfl) ?_
    refine lv_iload_n C.1.1 C.1.2.1 dL_law_27 rfl (lv_at hl 0 rfl) ?_
    refine y_sld C hS rfl (by omega) dL_law_28 ?_
    refine lv_bipush C.1.1 C.1.2.1 dL_law_29 rfl ?_
    refine lv_iand C.1.1 C.1.2.1 dL_law_31 ?_
    generalize Int32.ofInt (xs (4 * j)).toInt &&& (Int8.ofInt 31).toInt32 = w
    by_cases ho : w.toInt < 0 ∨ 21 < w.toInt
    · refine lv_tableOut C.1.1 C.1.2.1 dL_law_32 (tgt := 673) ho (by decide) ?_
      exact kk S I L A (hc.up (by omega)) hm H locs cells slots ls (by omega) (by omega) hl hR hS
    have hw : w.toInt = 0 ∨ w.toInt = 1 ∨ w.toInt = 2 ∨ w.toInt = 3 ∨ w.toInt = 4 ∨ w.toInt = 5 ∨ w.toInt = 6 ∨ w.toInt = 7 ∨ w.toInt = 8 ∨ w.toInt = 9 ∨ w.toInt = 10 ∨ w.toInt = 11 ∨ w.toInt = 12 ∨ w.toInt = 13 ∨ w.toInt = 14 ∨ w.toInt = 15 ∨ w.toInt = 16 ∨ w.toInt = 17 ∨ w.toInt = 18 ∨ w.toInt = 19 ∨ w.toInt = 20 ∨ w.toInt = 21 := by omega
    rcases hw with h | h | h | h | h | h | h | h | h | h | h | h | h | h | h | h | h | h | h | h | h | h
    · refine lv_tableIn C.1.1 C.1.2.1 dL_law_32 (off := 104) (tgt := 136) (by rw [h]; decide) (by rw [h]; decide) (by rw [h]; rfl) (by decide) ?_
      exact law_term C hc hm (by omega) (by omega) kk H locs cells slots ls (by omega) (by omega) hl hR hS
    · refine lv_tableIn C.1.1 C.1.2.1 dL_law_32 (off := 147) (tgt := 179) (by rw [h]; decide) (by rw [h]; decide) (by rw [h]; rfl) (by decide) ?_
      exact law_alike C hc hm (by omega) (by omega) kk H locs cells slots ls (by omega) (by omega) hl hR hS
    · refine lv_tableIn C.1.1 C.1.2.1 dL_law_32 (off := 180) (tgt := 212) (by rw [h]; decide) (by rw [h]; decide) (by rw [h]; rfl) (by decide) ?_
      exact law_anew C hc hm (by omega) (by omega) kk H locs cells slots ls (by omega) (by omega) hl hR hS
    · refine lv_tableIn C.1.1 C.1.2.1 dL_law_32 (off := 193) (tgt := 225) (by rw [h]; decide) (by rw [h]; decide) (by rw [h]; rfl) (by decide) ?_
      exact law_of C hc hm (by omega) (by omega) kk H locs cells slots ls (by omega) (by omega) hl hR hS
    · refine lv_tableIn C.1.1 C.1.2.1 dL_law_32 (off := 226) (tgt := 258) (by rw [h]; decide) (by rw [h]; decide) (by rw [h]; rfl) (by decide) ?_
      exact law_same C hc hm (by omega) (by omega) kk H locs cells slots ls (by omega) (by omega) hl hR hS
    · refine lv_tableIn C.1.1 C.1.2.1 dL_law_32 (off := 259) (tgt := 291) (by rw [h]; decide) (by rw [h]; decide) (by rw [h]; rfl) (by decide) ?_
      exact law_classes C hc hm (by omega) (by omega) kk H locs cells slots ls (by omega) (by omega) hl hR hS
    · refine lv_tableIn C.1.1 C.1.2.1 dL_law_32 (off := 272) (tgt := 304) (by rw [h]; decide) (by rw [h]; decide) (by rw [h]; rfl) (by decide) ?_
      exact law_about C hc hm (by omega) (by omega) kk H locs cells slots ls (by omega) (by omega) hl hR hS
    · refine lv_tableIn C.1.1 C.1.2.1 dL_law_32 (off := 305) (tgt := 337) (by rw [h]; decide) (by rw [h]; decide) (by rw [h]; rfl) (by decide) ?_
      exact law_rule C hc hm (by omega) (by omega) kk H locs cells slots ls (by omega) (by omega) hl hR hS
    · refine lv_tableIn C.1.1 C.1.2.1 dL_law_32 (off := 338) (tgt := 370) (by rw [h]; decide) (by rw [h]; decide) (by rw [h]; rfl) (by decide) ?_
      exact law_finding C hc hm (by omega) (by omega) kk H locs cells slots ls (by omega) (by omega) hl hR hS
    · refine lv_tableIn C.1.1 C.1.2.1 dL_law_32 (off := 381) (tgt := 413) (by rw [h]; decide) (by rw [h]; decide) (by rw [h]; rfl) (by decide) ?_
      exact law_drop C hc hm (by omega) (by omega) kk H locs cells slots ls (by omega) (by omega) hl hR hS
    · refine lv_tableIn C.1.1 C.1.2.1 dL_law_32 (off := 404) (tgt := 436) (by rw [h]; decide) (by rw [h]; decide) (by rw [h]; rfl) (by decide) ?_
      exact law_sets C hc hm (by omega) (by omega) kk H locs cells slots ls (by omega) (by omega) hl hR hS
    · refine lv_tableIn C.1.1 C.1.2.1 dL_law_32 (off := 437) (tgt := 469) (by rw [h]; decide) (by rw [h]; decide) (by rw [h]; rfl) (by decide) ?_
      exact law_round C hc hm (by omega) (by omega) kk H locs cells slots ls (by omega) (by omega) hl hR hS
    · refine lv_tableIn C.1.1 C.1.2.1 dL_law_32 (off := 450) (tgt := 482) (by rw [h]; decide) (by rw [h]; decide) (by rw [h]; rfl) (by decide) ?_
      exact law_rounds C hc hm (by omega) (by omega) kk H locs cells slots ls (by omega) (by omega) hl hR hS
    · refine lv_tableIn C.1.1 C.1.2.1 dL_law_32 (off := 473) (tgt := 505) (by rw [h]; decide) (by rw [h]; decide) (by rw [h]; rfl) (by decide) ?_
      exact law_last C hc hm (by omega) (by omega) kk H locs cells slots ls (by omega) (by omega) hl hR hS
    · refine lv_tableIn C.1.1 C.1.2.1 dL_law_32 (off := 496) (tgt := 528) (by rw [h]; decide) (by rw [h]; decide) (by rw [h]; rfl) (by decide) ?_
      exact law_still C hc hm (by omega) (by omega) kk H locs cells slots ls (by omega) (by omega) hl hR hS
    · refine lv_tableIn C.1.1 C.1.2.1 dL_law_32 (off := 509) (tgt := 541) (by rw [h]; decide) (by rw [h]; decide) (by rw [h]; rfl) (by decide) ?_
      exact law_type C hc hm (by omega) (by omega) kk H locs cells slots ls (by omega) (by omega) hl hR hS
    · refine lv_tableIn C.1.1 C.1.2.1 dL_law_32 (off := 532) (tgt := 564) (by rw [h]; decide) (by rw [h]; decide) (by rw [h]; rfl) (by decide) ?_
      exact law_clear C hc hm (by omega) (by omega) kk H locs cells slots ls (by omega) (by omega) hl hR hS
    · refine lv_tableIn C.1.1 C.1.2.1 dL_law_32 (off := 545) (tgt := 577) (by rw [h]; decide) (by rw [h]; decide) (by rw [h]; rfl) (by decide) ?_
      exact law_reads C hc hm (by omega) (by omega) kk H locs cells slots ls (by omega) (by omega) hl hR hS
    · refine lv_tableIn C.1.1 C.1.2.1 dL_law_32 (off := 558) (tgt := 590) (by rw [h]; decide) (by rw [h]; decide) (by rw [h]; rfl) (by decide) ?_
      exact law_writing C hc hm (by omega) (by omega) kk H locs cells slots ls (by omega) (by omega) hl hR hS
    · refine lv_tableIn C.1.1 C.1.2.1 dL_law_32 (off := 591) (tgt := 623) (by rw [h]; decide) (by rw [h]; decide) (by rw [h]; rfl) (by decide) ?_
      exact law_back C hc hm (by omega) (by omega) kk H locs cells slots ls (by omega) (by omega) hl hR hS
    · refine lv_tableIn C.1.1 C.1.2.1 dL_law_32 (off := 604) (tgt := 636) (by rw [h]; decide) (by rw [h]; decide) (by rw [h]; rfl) (by decide) ?_
      exact law_told C hc hm (by omega) (by omega) kk H locs cells slots ls (by omega) (by omega) hl hR hS
    · refine lv_tableIn C.1.1 C.1.2.1 dL_law_32 (off := 627) (tgt := 659) (by rw [h]; decide) (by rw [h]; decide) (by rw [h]; rfl) (by decide) ?_
      exact law_digest C hc hm (by omega) (by omega) kk H locs cells slots ls (by omega) (by omega) hl hR hS
set_option maxRecDepth 20000 in
theorem law_loop (C : yC p s m meth c b Ln xs G) : ∀ (k j : Nat) (S : tmS) (I : Nat → Nat → Int) (L : Nat → Nat → Int64) (A : AS), j + k = 512 → CR S I L j A → MR I A → yL p l e s m below meth c b G (30 * k) (2916 * k) 18 (4 * j) [] (S, I, L) := by
  intro k
  induction k with
  | zero => exact fun j S I L A hj hc hm => y_head C hj hc hm (fun k' h => absurd h (by omega))
  | succ k ih =>
    intro j S I L A hj hc hm
    refine y_head C hj hc hm (fun k' h S' I' L' A' h1 h2 => ?_)
    obtain rfl : k' = k := by omega
    exact ih (j + 1) S' I' L' A' (by omega) h1 h2
end S99zt
