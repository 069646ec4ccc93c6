/-! ===== 99zs: the 22 cases of the law (by wip/whole/mk_law.py) ===== -/
section S99zs
variable {p : Program} {l : Launch} {e : Env} {s : State} {m : MethodId} {below : List Frame} {meth : Method} {c : Code} {b Ln : Nat} {xs : Nat → Int32} {G : tmG} {bc bs n : Nat} {S : tmS} {I : Nat → Nat → Int} {L : Nat → Nat → Int64} {j : Nat} {A : AS}
set_option maxRecDepth 20000 in
theorem law_term (C : yC p s m meth c b Ln xs G) (hc : CR S I L j A) (hm : MR I A) (h5 : j ≤ 511) (hn : n + 3 < Ln) (kk : ∀ (S' : tmS) (I' : Nat → Nat → Int) (L' : Nat → Nat → Int64) (A' : AS), CR S' I' L' (j + 1) A' → MR I' A' → yL p l e s m below meth c b G bc bs 673 n [] (S', I', L')) : yL p l e s m below meth c b G (bc + 30) (bs + 2916) 136 n [] (S, I, L) := by
  refine y_wk (bc' := bc) (bs' := bs) (by omega) (by omega) ?_
  refine y_a1 C dL_law_136 ?_
  refine y_sc C 1 (pc1 := 138) (pc2 := 139) (pc3 := 140) (pc4 := 141) (pc5 := 142) rfl rfl rfl rfl rfl dL_law_137 dL_law_138 dL_law_139 dL_law_140 dL_law_141 (by omega) ?_
  refine y_sc C 2 (pc1 := 143) (pc2 := 144) (pc3 := 145) (pc4 := 146) (pc5 := 147) rfl rfl rfl rfl rfl dL_law_142 dL_law_143 dL_law_144 dL_law_145 dL_law_146 (by omega) ?_
  refine y_sc C 3 (pc1 := 148) (pc2 := 149) (pc3 := 150) (pc4 := 151) (pc5 := 152) rfl rfl rfl rfl rfl dL_law_147 dL_law_148 dL_law_149 dL_law_150 dL_law_151 (by omega) ?_
  refine y_call (bc := bc) (bs := bs) (ci := 11) C dL_law_152 KX11_term LL_13 ⟨_, _, rfl, by decide⟩ (oX0 hc.1) (c_term hc (by omega) (xs (n + 1)).toInt (xs (n + 2)).toInt (xs (n + 3)).toInt (i32R _) (i32R _) (i32R _)) (by decide) rfl rfl (Nat.le_of_ble_eq_true rfl) (fun r h' hq => ?_)
  obtain ⟨rfl, S', I', L', rfl, hc', hf⟩ := hq
  refine y_a2 C dL_law_155 ?_
  refine y_sc C 1 (pc1 := 157) (pc2 := 158) (pc3 := 159) (pc4 := 160) (pc5 := 161) rfl rfl rfl rfl rfl dL_law_156 dL_law_157 dL_law_158 dL_law_159 dL_law_160 (by omega) ?_
  refine y_sc C 2 (pc1 := 162) (pc2 := 163) (pc3 := 164) (pc4 := 165) (pc5 := 166) rfl rfl rfl rfl rfl dL_law_161 dL_law_162 dL_law_163 dL_law_164 dL_law_165 (by omega) ?_
  refine y_sc C 3 (pc1 := 167) (pc2 := 168) (pc3 := 169) (pc4 := 170) (pc5 := 171) rfl rfl rfl rfl rfl dL_law_166 dL_law_167 dL_law_168 dL_law_169 dL_law_170 (by omega) ?_
  refine y_call (bc := bc) (bs := bs) (ci := 12) C dL_law_171 KX12_term LL_17 ⟨_, _, rfl, by decide⟩ (oX168 hc'.1) (c_mterm hc'.1 hc.aok (by omega) (hm.mfr hf) (xs (n + 1)).toInt (xs (n + 2)).toInt (xs (n + 3)).toInt (i32R _) (i32R _) (i32R _)) (by decide) rfl rfl (Nat.le_of_ble_eq_true rfl) (fun r h' hq => ?_)
  obtain ⟨rfl, I'', rfl, hm', hf'⟩ := hq
  refine y_eq C 673 dL_law_174 (by decide) ?_
  exact kk _ _ _ _ (hc'.cfr hf') hm'
set_option maxRecDepth 20000 in
theorem law_alike (C : yC p s m meth c b Ln xs G) (hc : CR S I L j A) (hm : MR I A) (h5 : j ≤ 511) (hn : n + 3 < Ln) (kk : ∀ (S' : tmS) (I' : Nat → Nat → Int) (L' : Nat → Nat → Int64) (A' : AS), CR S' I' L' (j + 1) A' → MR I' A' → yL p l e s m below meth c b G bc bs 673 n [] (S', I', L')) : yL p l e s m below meth c b G (bc + 30) (bs + 2916) 179 n [] (S, I, L) := by
  refine y_wk (bc' := bc) (bs' := bs) (by omega) (by omega) ?_
  refine y_a1 C dL_law_179 ?_
  refine y_sc C 1 (pc1 := 181) (pc2 := 182) (pc3 := 183) (pc4 := 184) (pc5 := 185) rfl rfl rfl rfl rfl dL_law_180 dL_law_181 dL_law_182 dL_law_183 dL_law_184 (by omega) ?_
  refine y_sc C 2 (pc1 := 186) (pc2 := 187) (pc3 := 188) (pc4 := 189) (pc5 := 190) rfl rfl rfl rfl rfl dL_law_185 dL_law_186 dL_law_187 dL_law_188 dL_law_189 (by omega) ?_
  refine y_call (bc := bc) (bs := bs) (ci := 11) C dL_law_190 KX11_alike LL_18 ⟨_, _, rfl, by decide⟩ (oX0 hc.1) (c_alike hc (by omega) (xs (n + 1)).toInt (xs (n + 2)).toInt (i32R _) (i32R _)) (by decide) rfl rfl (Nat.le_of_ble_eq_true rfl) (fun r h' hq => ?_)
  obtain ⟨rfl, S', I', L', rfl, hc', hf⟩ := hq
  refine y_a2 C dL_law_193 ?_
  refine y_sc C 1 (pc1 := 195) (pc2 := 196) (pc3 := 197) (pc4 := 198) (pc5 := 199) rfl rfl rfl rfl rfl dL_law_194 dL_law_195 dL_law_196 dL_law_197 dL_law_198 (by omega) ?_
  refine y_sc C 2 (pc1 := 200) (pc2 := 201) (pc3 := 202) (pc4 := 203) (pc5 := 204) rfl rfl rfl rfl rfl dL_law_199 dL_law_200 dL_law_201 dL_law_202 dL_law_203 (by omega) ?_
  refine y_call (bc := bc) (bs := bs) (ci := 12) C dL_law_204 KX12_alike LL_22 ⟨_, _, rfl, by decide⟩ (oX168 hc'.1) (c_malike hc'.1 hc.aok (by omega) (hm.mfr hf) (xs (n + 1)).toInt (xs (n + 2)).toInt (i32R _) (i32R _)) (by decide) rfl rfl (Nat.le_of_ble_eq_true rfl) (fun r h' hq => ?_)
  obtain ⟨rfl, I'', rfl, hm', hf'⟩ := hq
  refine y_eq C 673 dL_law_207 (by decide) ?_
  exact kk _ _ _ _ (hc'.cfr hf') hm'
set_option maxRecDepth 20000 in
theorem law_anew (C : yC p s m meth c b Ln xs G) (hc : CR S I L j A) (hm : MR I A) (h5 : j ≤ 511) (hn : n + 3 < Ln) (kk : ∀ (S' : tmS) (I' : Nat → Nat → Int) (L' : Nat → Nat → Int64) (A' : AS), CR S' I' L' (j + 1) A' → MR I' A' → yL p l e s m below meth c b G bc bs 673 n [] (S', I', L')) : yL p l e s m below meth c b G (bc + 30) (bs + 2916) 212 n [] (S, I, L) := by
  refine y_wk (bc' := bc) (bs' := bs) (by omega) (by omega) ?_
  refine y_a1 C dL_law_212 ?_
  refine y_call (bc := bc) (bs := bs) (ci := 11) C dL_law_213 KX11_anew LL_23 ⟨_, _, rfl, by decide⟩ (oX0 hc.1) (c_anew hc) (by decide) rfl rfl (Nat.le_of_ble_eq_true rfl) (fun r h' hq => ?_)
  obtain ⟨rfl, S', I', L', rfl, hc', hf⟩ := hq
  refine y_a2 C dL_law_216 ?_
  refine y_call (bc := bc) (bs := bs) (ci := 12) C dL_law_217 KX12_anew LL_27 ⟨_, _, rfl, by decide⟩ (oX168 hc'.1) (c_manew hc'.1 hc.aok (hm.mfr hf)) (by decide) rfl rfl (Nat.le_of_ble_eq_true rfl) (fun r h' hq => ?_)
  obtain ⟨rfl, I'', rfl, hm', hf'⟩ := hq
  refine y_eq C 673 dL_law_220 (by decide) ?_
  exact kk _ _ _ _ (hc'.cfr hf') hm'
set_option maxRecDepth 20000 in
theorem law_of (C : yC p s m meth c b Ln xs G) (hc : CR S I L j A) (hm : MR I A) (h5 : j ≤ 511) (hn : n + 3 < Ln) (kk : ∀ (S' : tmS) (I' : Nat → Nat → Int) (L' : Nat → Nat → Int64) (A' : AS), CR S' I' L' (j + 1) A' → MR I' A' → yL p l e s m below meth c b G bc bs 673 n [] (S', I', L')) : yL p l e s m below meth c b G (bc + 30) (bs + 2916) 225 n [] (S, I, L) := by
  refine y_wk (bc' := bc) (bs' := bs) (by omega) (by omega) ?_
  refine y_a1 C dL_law_225 ?_
  refine y_sc C 1 (pc1 := 227) (pc2 := 228) (pc3 := 229) (pc4 := 230) (pc5 := 231) rfl rfl rfl rfl rfl dL_law_226 dL_law_227 dL_law_228 dL_law_229 dL_law_230 (by omega) ?_
  refine y_sc C 2 (pc1 := 232) (pc2 := 233) (pc3 := 234) (pc4 := 235) (pc5 := 236) rfl rfl rfl rfl rfl dL_law_231 dL_law_232 dL_law_233 dL_law_234 dL_law_235 (by omega) ?_
  refine y_call (bc := bc) (bs := bs) (ci := 11) C dL_law_236 KX11_of LL_28 ⟨_, _, rfl, by decide⟩ (oX0 hc.1) (c_of hc (by omega) (xs (n + 1)).toInt (xs (n + 2)).toInt (i32R _) (i32R _)) (by decide) rfl rfl (Nat.le_of_ble_eq_true rfl) (fun r h' hq => ?_)
  obtain ⟨rfl, S', I', L', rfl, hc', hf⟩ := hq
  refine y_a2 C dL_law_239 ?_
  refine y_sc C 1 (pc1 := 241) (pc2 := 242) (pc3 := 243) (pc4 := 244) (pc5 := 245) rfl rfl rfl rfl rfl dL_law_240 dL_law_241 dL_law_242 dL_law_243 dL_law_244 (by omega) ?_
  refine y_sc C 2 (pc1 := 246) (pc2 := 247) (pc3 := 248) (pc4 := 249) (pc5 := 250) rfl rfl rfl rfl rfl dL_law_245 dL_law_246 dL_law_247 dL_law_248 dL_law_249 (by omega) ?_
  refine y_call (bc := bc) (bs := bs) (ci := 12) C dL_law_250 KX12_of LL_31 ⟨_, _, rfl, by decide⟩ (oX168 hc'.1) (c_mof hc'.1 hc.aok (by omega) (hm.mfr hf) (xs (n + 1)).toInt (xs (n + 2)).toInt (i32R _) (i32R _)) (by decide) rfl rfl (Nat.le_of_ble_eq_true rfl) (fun r h' hq => ?_)
  obtain ⟨rfl, I'', rfl, hm', hf'⟩ := hq
  refine y_eq C 673 dL_law_253 (by decide) ?_
  exact kk _ _ _ _ (hc'.cfr hf') hm'
set_option maxRecDepth 20000 in
theorem law_same (C : yC p s m meth c b Ln xs G) (hc : CR S I L j A) (hm : MR I A) (h5 : j ≤ 511) (hn : n + 3 < Ln) (kk : ∀ (S' : tmS) (I' : Nat → Nat → Int) (L' : Nat → Nat → Int64) (A' : AS), CR S' I' L' (j + 1) A' → MR I' A' → yL p l e s m below meth c b G bc bs 673 n [] (S', I', L')) : yL p l e s m below meth c b G (bc + 30) (bs + 2916) 258 n [] (S, I, L) := by
  refine y_wk (bc' := bc) (bs' := bs) (by omega) (by omega) ?_
  refine y_a1 C dL_law_258 ?_
  refine y_sc C 1 (pc1 := 260) (pc2 := 261) (pc3 := 262) (pc4 := 263) (pc5 := 264) rfl rfl rfl rfl rfl dL_law_259 dL_law_260 dL_law_261 dL_law_262 dL_law_263 (by omega) ?_
  refine y_sc C 2 (pc1 := 265) (pc2 := 266) (pc3 := 267) (pc4 := 268) (pc5 := 269) rfl rfl rfl rfl rfl dL_law_264 dL_law_265 dL_law_266 dL_law_267 dL_law_268 (by omega) ?_
  refine y_call (bc := bc) (bs := bs) (ci := 11) C dL_law_269 KX11_same LL_32 ⟨_, _, rfl, by decide⟩ (oX0 hc.1) (c_same hc (by omega) (xs (n + 1)).toInt (xs (n + 2)).toInt (i32R _) (i32R _)) (by decide) rfl rfl (Nat.le_of_ble_eq_true rfl) (fun r h' hq => ?_)
  obtain ⟨rfl, S', I', L', rfl, hc', hf⟩ := hq
  refine y_a2 C dL_law_272 ?_
  refine y_sc C 1 (pc1 := 274) (pc2 := 275) (pc3 := 276) (pc4 := 277) (pc5 := 278) rfl rfl rfl rfl rfl dL_law_273 dL_law_274 dL_law_275 dL_law_276 dL_law_277 (by omega) ?_
  refine y_sc C 2 (pc1 := 279) (pc2 := 280) (pc3 := 281) (pc4 := 282) (pc5 := 283) rfl rfl rfl rfl rfl dL_law_278 dL_law_279 dL_law_280 dL_law_281 dL_law_282 (by omega) ?_
  refine y_call (bc := bc) (bs := bs) (ci := 12) C dL_law_283 KX12_same LL_35 ⟨_, _, rfl, by decide⟩ (oX168 hc'.1) (c_msame hc'.1 hc.aok (by omega) (hm.mfr hf) (xs (n + 1)).toInt (xs (n + 2)).toInt (i32R _) (i32R _)) (by decide) rfl rfl (Nat.le_of_ble_eq_true rfl) (fun r h' hq => ?_)
  obtain ⟨rfl, I'', rfl, hm', hf'⟩ := hq
  refine y_eq C 673 dL_law_286 (by decide) ?_
  exact kk _ _ _ _ (hc'.cfr hf') hm'
set_option maxRecDepth 20000 in
theorem law_classes (C : yC p s m meth c b Ln xs G) (hc : CR S I L j A) (hm : MR I A) (h5 : j ≤ 511) (hn : n + 3 < Ln) (kk : ∀ (S' : tmS) (I' : Nat → Nat → Int) (L' : Nat → Nat → Int64) (A' : AS), CR S' I' L' (j + 1) A' → MR I' A' → yL p l e s m below meth c b G bc bs 673 n [] (S', I', L')) : yL p l e s m below meth c b G (bc + 30) (bs + 2916) 291 n [] (S, I, L) := by
  refine y_wk (bc' := bc) (bs' := bs) (by omega) (by omega) ?_
  refine y_a1 C dL_law_291 ?_
  refine y_call (bc := bc) (bs := bs) (ci := 11) C dL_law_292 KX11_classes LL_36 ⟨_, _, rfl, by decide⟩ (oX0 hc.1) (c_classesA hc) (by decide) rfl rfl (Nat.le_of_ble_eq_true rfl) (fun r h' hq => ?_)
  obtain ⟨rfl, S', I', L', rfl, hc', hf⟩ := hq
  refine y_a2 C dL_law_295 ?_
  refine y_call (bc := bc) (bs := bs) (ci := 12) C dL_law_296 KX12_classes LL_39 ⟨_, _, rfl, by decide⟩ (oX168 hc'.1) (c_mclasses hc'.1 hc.aok (hm.mfr hf)) (by decide) rfl rfl (Nat.le_of_ble_eq_true rfl) (fun r h' hq => ?_)
  obtain ⟨rfl, I'', rfl, hm', hf'⟩ := hq
  refine y_eq C 673 dL_law_299 (by decide) ?_
  exact kk _ _ _ _ (hc'.cfr hf') hm'
set_option maxRecDepth 20000 in
theorem law_about (C : yC p s m meth c b Ln xs G) (hc : CR S I L j A) (hm : MR I A) (h5 : j ≤ 511) (hn : n + 3 < Ln) (kk : ∀ (S' : tmS) (I' : Nat → Nat → Int) (L' : Nat → Nat → Int64) (A' : AS), CR S' I' L' (j + 1) A' → MR I' A' → yL p l e s m below meth c b G bc bs 673 n [] (S', I', L')) : yL p l e s m below meth c b G (bc + 30) (bs + 2916) 304 n [] (S, I, L) := by
  refine y_wk (bc' := bc) (bs' := bs) (by omega) (by omega) ?_
  refine y_a1 C dL_law_304 ?_
  refine y_sc C 1 (pc1 := 306) (pc2 := 307) (pc3 := 308) (pc4 := 309) (pc5 := 310) rfl rfl rfl rfl rfl dL_law_305 dL_law_306 dL_law_307 dL_law_308 dL_law_309 (by omega) ?_
  refine y_sc C 2 (pc1 := 311) (pc2 := 312) (pc3 := 313) (pc4 := 314) (pc5 := 315) rfl rfl rfl rfl rfl dL_law_310 dL_law_311 dL_law_312 dL_law_313 dL_law_314 (by omega) ?_
  refine y_call (bc := bc) (bs := bs) (ci := 11) C dL_law_315 KX11_about LL_40 ⟨_, _, rfl, by decide⟩ (oX0 hc.1) (c_about hc (by omega) (xs (n + 1)).toInt (xs (n + 2)).toInt (i32R _) (i32R _)) (by decide) rfl rfl (Nat.le_of_ble_eq_true rfl) (fun r h' hq => ?_)
  obtain ⟨rfl, S', I', L', rfl, hc', hf⟩ := hq
  refine y_a2 C dL_law_318 ?_
  refine y_sc C 1 (pc1 := 320) (pc2 := 321) (pc3 := 322) (pc4 := 323) (pc5 := 324) rfl rfl rfl rfl rfl dL_law_319 dL_law_320 dL_law_321 dL_law_322 dL_law_323 (by omega) ?_
  refine y_sc C 2 (pc1 := 325) (pc2 := 326) (pc3 := 327) (pc4 := 328) (pc5 := 329) rfl rfl rfl rfl rfl dL_law_324 dL_law_325 dL_law_326 dL_law_327 dL_law_328 (by omega) ?_
  refine y_call (bc := bc) (bs := bs) (ci := 12) C dL_law_329 KX12_about LL_43 ⟨_, _, rfl, by decide⟩ (oX168 hc'.1) (c_mabout hc'.1 hc.aok (by omega) (hm.mfr hf) (xs (n + 1)).toInt (xs (n + 2)).toInt (i32R _) (i32R _)) (by decide) rfl rfl (Nat.le_of_ble_eq_true rfl) (fun r h' hq => ?_)
  obtain ⟨rfl, I'', rfl, hm', hf'⟩ := hq
  refine y_eq C 673 dL_law_332 (by decide) ?_
  exact kk _ _ _ _ (hc'.cfr hf') hm'
set_option maxRecDepth 20000 in
theorem law_rule (C : yC p s m meth c b Ln xs G) (hc : CR S I L j A) (hm : MR I A) (h5 : j ≤ 511) (hn : n + 3 < Ln) (kk : ∀ (S' : tmS) (I' : Nat → Nat → Int) (L' : Nat → Nat → Int64) (A' : AS), CR S' I' L' (j + 1) A' → MR I' A' → yL p l e s m below meth c b G bc bs 673 n [] (S', I', L')) : yL p l e s m below meth c b G (bc + 30) (bs + 2916) 337 n [] (S, I, L) := by
  refine y_wk (bc' := bc) (bs' := bs) (by omega) (by omega) ?_
  refine y_a1 C dL_law_337 ?_
  refine y_sc C 1 (pc1 := 339) (pc2 := 340) (pc3 := 341) (pc4 := 342) (pc5 := 343) rfl rfl rfl rfl rfl dL_law_338 dL_law_339 dL_law_340 dL_law_341 dL_law_342 (by omega) ?_
  refine y_sc C 2 (pc1 := 344) (pc2 := 345) (pc3 := 346) (pc4 := 347) (pc5 := 348) rfl rfl rfl rfl rfl dL_law_343 dL_law_344 dL_law_345 dL_law_346 dL_law_347 (by omega) ?_
  refine y_call (bc := bc) (bs := bs) (ci := 11) C dL_law_348 KX11_rule LL_44 ⟨_, _, rfl, by decide⟩ (oX0 hc.1) (c_rule hc (by omega) (xs (n + 1)).toInt (xs (n + 2)).toInt (i32R _) (i32R _)) (by decide) rfl rfl (Nat.le_of_ble_eq_true rfl) (fun r h' hq => ?_)
  obtain ⟨rfl, S', I', L', rfl, hc', hf⟩ := hq
  refine y_a2 C dL_law_351 ?_
  refine y_sc C 1 (pc1 := 353) (pc2 := 354) (pc3 := 355) (pc4 := 356) (pc5 := 357) rfl rfl rfl rfl rfl dL_law_352 dL_law_353 dL_law_354 dL_law_355 dL_law_356 (by omega) ?_
  refine y_sc C 2 (pc1 := 358) (pc2 := 359) (pc3 := 360) (pc4 := 361) (pc5 := 362) rfl rfl rfl rfl rfl dL_law_357 dL_law_358 dL_law_359 dL_law_360 dL_law_361 (by omega) ?_
  refine y_call (bc := bc) (bs := bs) (ci := 12) C dL_law_362 KX12_rule LL_47 ⟨_, _, rfl, by decide⟩ (oX168 hc'.1) (c_mrule hc'.1 hc.aok (by omega) (hm.mfr hf) hc.tree (xs (n + 1)).toInt (xs (n + 2)).toInt (i32R _) (i32R _)) (by decide) rfl rfl (Nat.le_of_ble_eq_true rfl) (fun r h' hq => ?_)
  obtain ⟨rfl, I'', rfl, hm', hf'⟩ := hq
  refine y_eq C 673 dL_law_365 (by decide) ?_
  exact kk _ _ _ _ (hc'.cfr hf') hm'
set_option maxRecDepth 20000 in
theorem law_finding (C : yC p s m meth c b Ln xs G) (hc : CR S I L j A) (hm : MR I A) (h5 : j ≤ 511) (hn : n + 3 < Ln) (kk : ∀ (S' : tmS) (I' : Nat → Nat → Int) (L' : Nat → Nat → Int64) (A' : AS), CR S' I' L' (j + 1) A' → MR I' A' → yL p l e s m below meth c b G bc bs 673 n [] (S', I', L')) : yL p l e s m below meth c b G (bc + 30) (bs + 2916) 370 n [] (S, I, L) := by
  refine y_wk (bc' := bc) (bs' := bs) (by omega) (by omega) ?_
  refine y_a1 C dL_law_370 ?_
  refine y_sc C 1 (pc1 := 372) (pc2 := 373) (pc3 := 374) (pc4 := 375) (pc5 := 376) rfl rfl rfl rfl rfl dL_law_371 dL_law_372 dL_law_373 dL_law_374 dL_law_375 (by omega) ?_
  refine y_sc C 2 (pc1 := 377) (pc2 := 378) (pc3 := 379) (pc4 := 380) (pc5 := 381) rfl rfl rfl rfl rfl dL_law_376 dL_law_377 dL_law_378 dL_law_379 dL_law_380 (by omega) ?_
  refine y_sc C 3 (pc1 := 382) (pc2 := 383) (pc3 := 384) (pc4 := 385) (pc5 := 386) rfl rfl rfl rfl rfl dL_law_381 dL_law_382 dL_law_383 dL_law_384 dL_law_385 (by omega) ?_
  refine y_call (bc := bc) (bs := bs) (ci := 11) C dL_law_386 KX11_finding LL_48 ⟨_, _, rfl, by decide⟩ (oX0 hc.1) (c_finding hc (by omega) (xs (n + 1)).toInt (xs (n + 2)).toInt (xs (n + 3)).toInt (i32R _) (i32R _) (i32R _)) (by decide) rfl rfl (Nat.le_of_ble_eq_true rfl) (fun r h' hq => ?_)
  obtain ⟨rfl, S', I', L', rfl, hc', hf⟩ := hq
  refine y_a2 C dL_law_389 ?_
  refine y_sc C 1 (pc1 := 391) (pc2 := 392) (pc3 := 393) (pc4 := 394) (pc5 := 395) rfl rfl rfl rfl rfl dL_law_390 dL_law_391 dL_law_392 dL_law_393 dL_law_394 (by omega) ?_
  refine y_sc C 2 (pc1 := 396) (pc2 := 397) (pc3 := 398) (pc4 := 399) (pc5 := 400) rfl rfl rfl rfl rfl dL_law_395 dL_law_396 dL_law_397 dL_law_398 dL_law_399 (by omega) ?_
  refine y_sc C 3 (pc1 := 401) (pc2 := 402) (pc3 := 403) (pc4 := 404) (pc5 := 405) rfl rfl rfl rfl rfl dL_law_400 dL_law_401 dL_law_402 dL_law_403 dL_law_404 (by omega) ?_
  refine y_call (bc := bc) (bs := bs) (ci := 12) C dL_law_405 KX12_finding LL_51 ⟨_, _, rfl, by decide⟩ (oX168 hc'.1) (c_mfinding hc'.1 hc.aok (by omega) (hm.mfr hf) hc.tree (xs (n + 1)).toInt (xs (n + 2)).toInt (xs (n + 3)).toInt (i32R _) (i32R _) (i32R _)) (by decide) rfl rfl (Nat.le_of_ble_eq_true rfl) (fun r h' hq => ?_)
  obtain ⟨rfl, I'', rfl, hm', hf'⟩ := hq
  refine y_eq C 673 dL_law_408 (by decide) ?_
  exact kk _ _ _ _ (hc'.cfr hf') hm'
set_option maxRecDepth 20000 in
theorem law_drop (C : yC p s m meth c b Ln xs G) (hc : CR S I L j A) (hm : MR I A) (h5 : j ≤ 511) (hn : n + 3 < Ln) (kk : ∀ (S' : tmS) (I' : Nat → Nat → Int) (L' : Nat → Nat → Int64) (A' : AS), CR S' I' L' (j + 1) A' → MR I' A' → yL p l e s m below meth c b G bc bs 673 n [] (S', I', L')) : yL p l e s m below meth c b G (bc + 30) (bs + 2916) 413 n [] (S, I, L) := by
  refine y_wk (bc' := bc) (bs' := bs) (by omega) (by omega) ?_
  refine y_a1 C dL_law_413 ?_
  refine y_sc C 1 (pc1 := 415) (pc2 := 416) (pc3 := 417) (pc4 := 418) (pc5 := 419) rfl rfl rfl rfl rfl dL_law_414 dL_law_415 dL_law_416 dL_law_417 dL_law_418 (by omega) ?_
  refine y_call (bc := bc) (bs := bs) (ci := 11) C dL_law_419 KX11_drop LL_52 ⟨_, _, rfl, by decide⟩ (oX0 hc.1) (c_drop hc (by omega) (xs (n + 1)).toInt (i32R _)) (by decide) rfl rfl (Nat.le_of_ble_eq_true rfl) (fun r h' hq => ?_)
  obtain ⟨rfl, S', I', L', rfl, hc', hf⟩ := hq
  refine y_a2 C dL_law_422 ?_
  refine y_sc C 1 (pc1 := 424) (pc2 := 425) (pc3 := 426) (pc4 := 427) (pc5 := 428) rfl rfl rfl rfl rfl dL_law_423 dL_law_424 dL_law_425 dL_law_426 dL_law_427 (by omega) ?_
  refine y_call (bc := bc) (bs := bs) (ci := 12) C dL_law_428 KX12_drop LL_56 ⟨_, _, rfl, by decide⟩ (oX168 hc'.1) (c_mdrop hc'.1 hc.aok (by omega) (hm.mfr hf) (xs (n + 1)).toInt (i32R _)) (by decide) rfl rfl (Nat.le_of_ble_eq_true rfl) (fun r h' hq => ?_)
  obtain ⟨rfl, I'', rfl, hm', hf'⟩ := hq
  refine y_eq C 673 dL_law_431 (by decide) ?_
  exact kk _ _ _ _ (hc'.cfr hf') hm'
set_option maxRecDepth 20000 in
theorem law_sets (C : yC p s m meth c b Ln xs G) (hc : CR S I L j A) (hm : MR I A) (h5 : j ≤ 511) (hn : n + 3 < Ln) (kk : ∀ (S' : tmS) (I' : Nat → Nat → Int) (L' : Nat → Nat → Int64) (A' : AS), CR S' I' L' (j + 1) A' → MR I' A' → yL p l e s m below meth c b G bc bs 673 n [] (S', I', L')) : yL p l e s m below meth c b G (bc + 30) (bs + 2916) 436 n [] (S, I, L) := by
  refine y_wk (bc' := bc) (bs' := bs) (by omega) (by omega) ?_
  refine y_a1 C dL_law_436 ?_
  refine y_sc C 1 (pc1 := 438) (pc2 := 439) (pc3 := 440) (pc4 := 441) (pc5 := 442) rfl rfl rfl rfl rfl dL_law_437 dL_law_438 dL_law_439 dL_law_440 dL_law_441 (by omega) ?_
  refine y_sc C 2 (pc1 := 443) (pc2 := 444) (pc3 := 445) (pc4 := 446) (pc5 := 447) rfl rfl rfl rfl rfl dL_law_442 dL_law_443 dL_law_444 dL_law_445 dL_law_446 (by omega) ?_
  refine y_call (bc := bc) (bs := bs) (ci := 11) C dL_law_447 KX11_sets LL_57 ⟨_, _, rfl, by decide⟩ (oX0 hc.1) (c_sets hc (by omega) (xs (n + 1)).toInt (xs (n + 2)).toInt (i32R _) (i32R _)) (by decide) rfl rfl (Nat.le_of_ble_eq_true rfl) (fun r h' hq => ?_)
  obtain ⟨rfl, S', I', L', rfl, hc', hf⟩ := hq
  refine y_a2 C dL_law_450 ?_
  refine y_sc C 1 (pc1 := 452) (pc2 := 453) (pc3 := 454) (pc4 := 455) (pc5 := 456) rfl rfl rfl rfl rfl dL_law_451 dL_law_452 dL_law_453 dL_law_454 dL_law_455 (by omega) ?_
  refine y_sc C 2 (pc1 := 457) (pc2 := 458) (pc3 := 459) (pc4 := 460) (pc5 := 461) rfl rfl rfl rfl rfl dL_law_456 dL_law_457 dL_law_458 dL_law_459 dL_law_460 (by omega) ?_
  refine y_call (bc := bc) (bs := bs) (ci := 12) C dL_law_461 KX12_sets LL_60 ⟨_, _, rfl, by decide⟩ (oX168 hc'.1) (c_msets hc'.1 hc.aok (by omega) (hm.mfr hf) (xs (n + 1)).toInt (xs (n + 2)).toInt (i32R _) (i32R _)) (by decide) rfl rfl (Nat.le_of_ble_eq_true rfl) (fun r h' hq => ?_)
  obtain ⟨rfl, I'', rfl, hm', hf'⟩ := hq
  refine y_eq C 673 dL_law_464 (by decide) ?_
  exact kk _ _ _ _ (hc'.cfr hf') hm'
set_option maxRecDepth 20000 in
theorem law_round (C : yC p s m meth c b Ln xs G) (hc : CR S I L j A) (hm : MR I A) (h5 : j ≤ 511) (hn : n + 3 < Ln) (kk : ∀ (S' : tmS) (I' : Nat → Nat → Int) (L' : Nat → Nat → Int64) (A' : AS), CR S' I' L' (j + 1) A' → MR I' A' → yL p l e s m below meth c b G bc bs 673 n [] (S', I', L')) : yL p l e s m below meth c b G (bc + 30) (bs + 2916) 469 n [] (S, I, L) := by
  refine y_wk (bc' := bc) (bs' := bs) (by omega) (by omega) ?_
  refine y_a1 C dL_law_469 ?_
  refine y_call (bc := bc) (bs := bs) (ci := 11) C dL_law_470 KX11_round LL_61 ⟨_, _, rfl, by decide⟩ (oX0 hc.1) (c_round hc) (by decide) rfl rfl (Nat.le_of_ble_eq_true rfl) (fun r h' hq => ?_)
  obtain ⟨rfl, S', I', L', rfl, hc', hf⟩ := hq
  refine y_a2 C dL_law_473 ?_
  refine y_call (bc := bc) (bs := bs) (ci := 12) C dL_law_474 KX12_round LL_64 ⟨_, _, rfl, by decide⟩ (oX168 hc'.1) (c_mround hc'.1 hc.aok (hm.mfr hf) hc.tree) (by decide) rfl rfl (Nat.le_of_ble_eq_true rfl) (fun r h' hq => ?_)
  obtain ⟨rfl, I'', rfl, hm', hf'⟩ := hq
  refine y_eq C 673 dL_law_477 (by decide) ?_
  exact kk _ _ _ _ (hc'.cfr hf') hm'
set_option maxRecDepth 20000 in
theorem law_rounds (C : yC p s m meth c b Ln xs G) (hc : CR S I L j A) (hm : MR I A) (h5 : j ≤ 511) (hn : n + 3 < Ln) (kk : ∀ (S' : tmS) (I' : Nat → Nat → Int) (L' : Nat → Nat → Int64) (A' : AS), CR S' I' L' (j + 1) A' → MR I' A' → yL p l e s m below meth c b G bc bs 673 n [] (S', I', L')) : yL p l e s m below meth c b G (bc + 30) (bs + 2916) 482 n [] (S, I, L) := by
  refine y_wk (bc' := bc) (bs' := bs) (by omega) (by omega) ?_
  refine y_a1 C dL_law_482 ?_
  refine y_sc C 1 (pc1 := 484) (pc2 := 485) (pc3 := 486) (pc4 := 487) (pc5 := 488) rfl rfl rfl rfl rfl dL_law_483 dL_law_484 dL_law_485 dL_law_486 dL_law_487 (by omega) ?_
  refine y_call (bc := bc) (bs := bs) (ci := 11) C dL_law_488 KX11_rounds LL_65 ⟨_, _, rfl, by decide⟩ (oX0 hc.1) (c_rounds hc (by omega) (xs (n + 1)).toInt (i32R _)) (by decide) rfl rfl (Nat.le_of_ble_eq_true rfl) (fun r h' hq => ?_)
  obtain ⟨rfl, S', I', L', rfl, hc', hf⟩ := hq
  refine y_a2 C dL_law_491 ?_
  refine y_sc C 1 (pc1 := 493) (pc2 := 494) (pc3 := 495) (pc4 := 496) (pc5 := 497) rfl rfl rfl rfl rfl dL_law_492 dL_law_493 dL_law_494 dL_law_495 dL_law_496 (by omega) ?_
  refine y_call (bc := bc) (bs := bs) (ci := 12) C dL_law_497 KX12_rounds LL_68 ⟨_, _, rfl, by decide⟩ (oX168 hc'.1) (c_mrounds hc'.1 hc.aok (by omega) (hm.mfr hf) hc.tree (xs (n + 1)).toInt (i32R _)) (by decide) rfl rfl (Nat.le_of_ble_eq_true rfl) (fun r h' hq => ?_)
  obtain ⟨rfl, I'', rfl, hm', hf'⟩ := hq
  refine y_eq C 673 dL_law_500 (by decide) ?_
  exact kk _ _ _ _ (hc'.cfr hf') hm'
set_option maxRecDepth 20000 in
theorem law_last (C : yC p s m meth c b Ln xs G) (hc : CR S I L j A) (hm : MR I A) (h5 : j ≤ 511) (hn : n + 3 < Ln) (kk : ∀ (S' : tmS) (I' : Nat → Nat → Int) (L' : Nat → Nat → Int64) (A' : AS), CR S' I' L' (j + 1) A' → MR I' A' → yL p l e s m below meth c b G bc bs 673 n [] (S', I', L')) : yL p l e s m below meth c b G (bc + 30) (bs + 2916) 505 n [] (S, I, L) := by
  refine y_wk (bc' := bc) (bs' := bs) (by omega) (by omega) ?_
  refine y_a1 C dL_law_505 ?_
  refine y_sc C 1 (pc1 := 507) (pc2 := 508) (pc3 := 509) (pc4 := 510) (pc5 := 511) rfl rfl rfl rfl rfl dL_law_506 dL_law_507 dL_law_508 dL_law_509 dL_law_510 (by omega) ?_
  refine y_call (bc := bc) (bs := bs) (ci := 11) C dL_law_511 KX11_last LL_69 ⟨_, _, rfl, by decide⟩ (oX0 hc.1) (c_last hc (by omega) (xs (n + 1)).toInt (i32R _)) (by decide) rfl rfl (Nat.le_of_ble_eq_true rfl) (fun r h' hq => ?_)
  obtain ⟨rfl, S', I', L', rfl, hc', hf⟩ := hq
  refine y_a2 C dL_law_514 ?_
  refine y_sc C 1 (pc1 := 516) (pc2 := 517) (pc3 := 518) (pc4 := 519) (pc5 := 520) rfl rfl rfl rfl rfl dL_law_515 dL_law_516 dL_law_517 dL_law_518 dL_law_519 (by omega) ?_
  refine y_call (bc := bc) (bs := bs) (ci := 12) C dL_law_520 KX12_last LL_72 ⟨_, _, rfl, by decide⟩ (oX168 hc'.1) (c_mlast hc'.1 hc.aok (by omega) (hm.mfr hf) (xs (n + 1)).toInt (i32R _)) (by decide) rfl rfl (Nat.le_of_ble_eq_true rfl) (fun r h' hq => ?_)
  obtain ⟨rfl, I'', rfl, hm', hf'⟩ := hq
  refine y_eq C 673 dL_law_523 (by decide) ?_
  exact kk _ _ _ _ (hc'.cfr hf') hm'
set_option maxRecDepth 20000 in
theorem law_still (C : yC p s m meth c b Ln xs G) (hc : CR S I L j A) (hm : MR I A) (h5 : j ≤ 511) (hn : n + 3 < Ln) (kk : ∀ (S' : tmS) (I' : Nat → Nat → Int) (L' : Nat → Nat → Int64) (A' : AS), CR S' I' L' (j + 1) A' → MR I' A' → yL p l e s m below meth c b G bc bs 673 n [] (S', I', L')) : yL p l e s m below meth c b G (bc + 30) (bs + 2916) 528 n [] (S, I, L) := by
  refine y_wk (bc' := bc) (bs' := bs) (by omega) (by omega) ?_
  refine y_a1 C dL_law_528 ?_
  refine y_call (bc := bc) (bs := bs) (ci := 11) C dL_law_529 KX11_still LL_73 ⟨_, _, rfl, by decide⟩ (oX0 hc.1) (c_still hc) (by decide) rfl rfl (Nat.le_of_ble_eq_true rfl) (fun r h' hq => ?_)
  obtain ⟨rfl, S', I', L', rfl, hc', hf⟩ := hq
  refine y_a2 C dL_law_532 ?_
  refine y_call (bc := bc) (bs := bs) (ci := 12) C dL_law_533 KX12_still LL_76 ⟨_, _, rfl, by decide⟩ (oX168 hc'.1) (c_mstill hc'.1 hc.aok (hm.mfr hf) hc.tree) (by decide) rfl rfl (Nat.le_of_ble_eq_true rfl) (fun r h' hq => ?_)
  obtain ⟨rfl, I'', rfl, hm', hf'⟩ := hq
  refine y_eq C 673 dL_law_536 (by decide) ?_
  exact kk _ _ _ _ (hc'.cfr hf') hm'
set_option maxRecDepth 20000 in
theorem law_type (C : yC p s m meth c b Ln xs G) (hc : CR S I L j A) (hm : MR I A) (h5 : j ≤ 511) (hn : n + 3 < Ln) (kk : ∀ (S' : tmS) (I' : Nat → Nat → Int) (L' : Nat → Nat → Int64) (A' : AS), CR S' I' L' (j + 1) A' → MR I' A' → yL p l e s m below meth c b G bc bs 673 n [] (S', I', L')) : yL p l e s m below meth c b G (bc + 30) (bs + 2916) 541 n [] (S, I, L) := by
  refine y_wk (bc' := bc) (bs' := bs) (by omega) (by omega) ?_
  refine y_a1 C dL_law_541 ?_
  refine y_sc C 1 (pc1 := 543) (pc2 := 544) (pc3 := 545) (pc4 := 546) (pc5 := 547) rfl rfl rfl rfl rfl dL_law_542 dL_law_543 dL_law_544 dL_law_545 dL_law_546 (by omega) ?_
  refine y_call (bc := bc) (bs := bs) (ci := 11) C dL_law_547 KX11_type LL_77 ⟨_, _, rfl, by decide⟩ (oX0 hc.1) (c_type hc (by omega) (xs (n + 1)).toInt (i32R _)) (by decide) rfl rfl (Nat.le_of_ble_eq_true rfl) (fun r h' hq => ?_)
  obtain ⟨rfl, S', I', L', rfl, hc', hf⟩ := hq
  refine y_a2 C dL_law_550 ?_
  refine y_sc C 1 (pc1 := 552) (pc2 := 553) (pc3 := 554) (pc4 := 555) (pc5 := 556) rfl rfl rfl rfl rfl dL_law_551 dL_law_552 dL_law_553 dL_law_554 dL_law_555 (by omega) ?_
  refine y_call (bc := bc) (bs := bs) (ci := 12) C dL_law_556 KX12_type LL_80 ⟨_, _, rfl, by decide⟩ (oX168 hc'.1) (c_mtype hc'.1 hc.aok (by omega) (hm.mfr hf) (xs (n + 1)).toInt (i32R _)) (by decide) rfl rfl (Nat.le_of_ble_eq_true rfl) (fun r h' hq => ?_)
  obtain ⟨rfl, I'', rfl, hm', hf'⟩ := hq
  refine y_eq C 673 dL_law_559 (by decide) ?_
  exact kk _ _ _ _ (hc'.cfr hf') hm'
set_option maxRecDepth 20000 in
theorem law_clear (C : yC p s m meth c b Ln xs G) (hc : CR S I L j A) (hm : MR I A) (h5 : j ≤ 511) (hn : n + 3 < Ln) (kk : ∀ (S' : tmS) (I' : Nat → Nat → Int) (L' : Nat → Nat → Int64) (A' : AS), CR S' I' L' (j + 1) A' → MR I' A' → yL p l e s m below meth c b G bc bs 673 n [] (S', I', L')) : yL p l e s m below meth c b G (bc + 30) (bs + 2916) 564 n [] (S, I, L) := by
  refine y_wk (bc' := bc) (bs' := bs) (by omega) (by omega) ?_
  refine y_a1 C dL_law_564 ?_
  refine y_call (bc := bc) (bs := bs) (ci := 11) C dL_law_565 KX11_clear LL_81 ⟨_, _, rfl, by decide⟩ (oX0 hc.1) (c_clear hc) (by decide) rfl rfl (Nat.le_of_ble_eq_true rfl) (fun r h' hq => ?_)
  obtain ⟨rfl, S', I', L', rfl, hc', hf⟩ := hq
  refine y_a2 C dL_law_568 ?_
  refine y_call (bc := bc) (bs := bs) (ci := 12) C dL_law_569 KX12_clear LL_84 ⟨_, _, rfl, by decide⟩ (oX168 hc'.1) (c_mclear hc'.1 hc.aok (hm.mfr hf)) (by decide) rfl rfl (Nat.le_of_ble_eq_true rfl) (fun r h' hq => ?_)
  obtain ⟨rfl, I'', rfl, hm', hf'⟩ := hq
  refine y_eq C 673 dL_law_572 (by decide) ?_
  exact kk _ _ _ _ (hc'.cfr hf') hm'
set_option maxRecDepth 20000 in
theorem law_reads (C : yC p s m meth c b Ln xs G) (hc : CR S I L j A) (hm : MR I A) (h5 : j ≤ 511) (hn : n + 3 < Ln) (kk : ∀ (S' : tmS) (I' : Nat → Nat → Int) (L' : Nat → Nat → Int64) (A' : AS), CR S' I' L' (j + 1) A' → MR I' A' → yL p l e s m below meth c b G bc bs 673 n [] (S', I', L')) : yL p l e s m below meth c b G (bc + 30) (bs + 2916) 577 n [] (S, I, L) := by
  refine y_a1 C dL_law_577 ?_
  refine y_call (bc := bc) (bs := bs) (ci := 11) C dL_law_578 KX11_reads LL_85 ⟨_, _, rfl, by decide⟩ (oX0 hc.1) (c_reads hc) (by decide) rfl rfl (Nat.le_of_ble_eq_true rfl) (fun r h' hq => ?_)
  obtain ⟨rfl, S', I', L', rfl, hc', hf⟩ := hq
  refine y_a2 C dL_law_581 ?_
  refine y_call (bc := bc) (bs := bs) (ci := 12) C dL_law_582 KX12_reads LL_88 ⟨_, _, rfl, by decide⟩ (oX168 hc'.1) (c_mreads hc'.1 hc.aok (hm.mfr hf)) (by decide) rfl rfl (Nat.le_of_ble_eq_true rfl) (fun r h' hq => ?_)
  obtain ⟨rfl, I'', rfl, hm', hf'⟩ := hq
  refine y_eq C 673 dL_law_585 (by decide) ?_
  exact kk _ _ _ _ (hc'.cfr hf') hm'
set_option maxRecDepth 20000 in
theorem law_writing (C : yC p s m meth c b Ln xs G) (hc : CR S I L j A) (hm : MR I A) (h5 : j ≤ 511) (hn : n + 3 < Ln) (kk : ∀ (S' : tmS) (I' : Nat → Nat → Int) (L' : Nat → Nat → Int64) (A' : AS), CR S' I' L' (j + 1) A' → MR I' A' → yL p l e s m below meth c b G bc bs 673 n [] (S', I', L')) : yL p l e s m below meth c b G (bc + 30) (bs + 2916) 590 n [] (S, I, L) := by
  refine y_wk (bc' := bc) (bs' := bs) (by omega) (by omega) ?_
  refine y_a1 C dL_law_590 ?_
  refine y_sc C 1 (pc1 := 592) (pc2 := 593) (pc3 := 594) (pc4 := 595) (pc5 := 596) rfl rfl rfl rfl rfl dL_law_591 dL_law_592 dL_law_593 dL_law_594 dL_law_595 (by omega) ?_
  refine y_sc C 2 (pc1 := 597) (pc2 := 598) (pc3 := 599) (pc4 := 600) (pc5 := 601) rfl rfl rfl rfl rfl dL_law_596 dL_law_597 dL_law_598 dL_law_599 dL_law_600 (by omega) ?_
  refine y_call (bc := bc) (bs := bs) (ci := 11) C dL_law_601 KX11_writing LL_89 ⟨_, _, rfl, by decide⟩ (oX0 hc.1) (c_writing hc (by omega) (xs (n + 1)).toInt (xs (n + 2)).toInt (i32R _) (i32R _)) (by decide) rfl rfl (Nat.le_of_ble_eq_true rfl) (fun r h' hq => ?_)
  obtain ⟨rfl, S', I', L', rfl, hc', hf⟩ := hq
  refine y_a2 C dL_law_604 ?_
  refine y_sc C 1 (pc1 := 606) (pc2 := 607) (pc3 := 608) (pc4 := 609) (pc5 := 610) rfl rfl rfl rfl rfl dL_law_605 dL_law_606 dL_law_607 dL_law_608 dL_law_609 (by omega) ?_
  refine y_sc C 2 (pc1 := 611) (pc2 := 612) (pc3 := 613) (pc4 := 614) (pc5 := 615) rfl rfl rfl rfl rfl dL_law_610 dL_law_611 dL_law_612 dL_law_613 dL_law_614 (by omega) ?_
  refine y_call (bc := bc) (bs := bs) (ci := 12) C dL_law_615 KX12_writing LL_92 ⟨_, _, rfl, by decide⟩ (oX168 hc'.1) (c_mwriting hc'.1 hc.aok (by omega) (hm.mfr hf) (xs (n + 1)).toInt (xs (n + 2)).toInt (i32R _) (i32R _)) (by decide) rfl rfl (Nat.le_of_ble_eq_true rfl) (fun r h' hq => ?_)
  obtain ⟨rfl, I'', rfl, hm', hf'⟩ := hq
  refine y_eq C 673 dL_law_618 (by decide) ?_
  exact kk _ _ _ _ (hc'.cfr hf') hm'
set_option maxRecDepth 20000 in
theorem law_back (C : yC p s m meth c b Ln xs G) (hc : CR S I L j A) (hm : MR I A) (h5 : j ≤ 511) (hn : n + 3 < Ln) (kk : ∀ (S' : tmS) (I' : Nat → Nat → Int) (L' : Nat → Nat → Int64) (A' : AS), CR S' I' L' (j + 1) A' → MR I' A' → yL p l e s m below meth c b G bc bs 673 n [] (S', I', L')) : yL p l e s m below meth c b G (bc + 30) (bs + 2916) 623 n [] (S, I, L) := by
  refine y_wk (bc' := bc) (bs' := bs) (by omega) (by omega) ?_
  refine y_a1 C dL_law_623 ?_
  refine y_call (bc := bc) (bs := bs) (ci := 11) C dL_law_624 KX11_back LL_93 ⟨_, _, rfl, by decide⟩ (oX0 hc.1) (c_back hc (by omega)) (by decide) rfl rfl (Nat.le_of_ble_eq_true rfl) (fun r h' hq => ?_)
  obtain ⟨rfl, S', I', L', rfl, hc', hf⟩ := hq
  refine y_a2 C dL_law_627 ?_
  refine y_call (bc := bc) (bs := bs) (ci := 12) C dL_law_628 KX12_back LL_96 ⟨_, _, rfl, by decide⟩ (oX168 hc'.1) (c_mback hc'.1 hc.aok (by omega) (hm.mfr hf)) (by decide) rfl rfl (Nat.le_of_ble_eq_true rfl) (fun r h' hq => ?_)
  obtain ⟨rfl, I'', rfl, hm', hf'⟩ := hq
  refine y_eq C 673 dL_law_631 (by decide) ?_
  exact kk _ _ _ _ (hc'.cfr hf') hm'
set_option maxRecDepth 20000 in
theorem law_told (C : yC p s m meth c b Ln xs G) (hc : CR S I L j A) (hm : MR I A) (h5 : j ≤ 511) (hn : n + 3 < Ln) (kk : ∀ (S' : tmS) (I' : Nat → Nat → Int) (L' : Nat → Nat → Int64) (A' : AS), CR S' I' L' (j + 1) A' → MR I' A' → yL p l e s m below meth c b G bc bs 673 n [] (S', I', L')) : yL p l e s m below meth c b G (bc + 30) (bs + 2916) 636 n [] (S, I, L) := by
  refine y_wk (bc' := bc) (bs' := bs) (by omega) (by omega) ?_
  refine y_a1 C dL_law_636 ?_
  refine y_sc C 1 (pc1 := 638) (pc2 := 639) (pc3 := 640) (pc4 := 641) (pc5 := 642) rfl rfl rfl rfl rfl dL_law_637 dL_law_638 dL_law_639 dL_law_640 dL_law_641 (by omega) ?_
  refine y_call (bc := bc) (bs := bs) (ci := 11) C dL_law_642 KX11_told LL_97 ⟨_, _, rfl, by decide⟩ (oX0 hc.1) (c_told hc (by omega) (xs (n + 1)).toInt (i32R _)) (by decide) rfl rfl (Nat.le_of_ble_eq_true rfl) (fun r h' hq => ?_)
  obtain ⟨rfl, S', I', L', rfl, hc', hf⟩ := hq
  refine y_a2 C dL_law_645 ?_
  refine y_sc C 1 (pc1 := 647) (pc2 := 648) (pc3 := 649) (pc4 := 650) (pc5 := 651) rfl rfl rfl rfl rfl dL_law_646 dL_law_647 dL_law_648 dL_law_649 dL_law_650 (by omega) ?_
  refine y_call (bc := bc) (bs := bs) (ci := 12) C dL_law_651 KX12_told LL_100 ⟨_, _, rfl, by decide⟩ (oX168 hc'.1) (c_mtold hc'.1 hc.aok (by omega) (hm.mfr hf) (xs (n + 1)).toInt (i32R _)) (by decide) rfl rfl (Nat.le_of_ble_eq_true rfl) (fun r h' hq => ?_)
  obtain ⟨rfl, I'', rfl, hm', hf'⟩ := hq
  refine y_eq C 673 dL_law_654 (by decide) ?_
  exact kk _ _ _ _ (hc'.cfr hf') hm'
set_option maxRecDepth 20000 in
theorem law_digest (C : yC p s m meth c b Ln xs G) (hc : CR S I L j A) (hm : MR I A) (h5 : j ≤ 511) (hn : n + 3 < Ln) (kk : ∀ (S' : tmS) (I' : Nat → Nat → Int) (L' : Nat → Nat → Int64) (A' : AS), CR S' I' L' (j + 1) A' → MR I' A' → yL p l e s m below meth c b G bc bs 673 n [] (S', I', L')) : yL p l e s m below meth c b G (bc + 30) (bs + 2916) 659 n [] (S, I, L) := by
  refine y_wk (bc' := bc) (bs' := bs) (by omega) (by omega) ?_
  refine y_a1 C dL_law_659 ?_
  refine y_call (bc := bc) (bs := bs) (ci := 11) C dL_law_660 KX11_digest LL_101 ⟨_, _, rfl, by decide⟩ (oX0 hc.1) (c_digest hc (by omega)) (by decide) rfl rfl (Nat.le_of_ble_eq_true rfl) (fun r h' hq => ?_)
  obtain ⟨rfl, S', I', L', rfl, hc', hf⟩ := hq
  refine y_a2 C dL_law_663 ?_
  refine y_call (bc := bc) (bs := bs) (ci := 12) C dL_law_664 KX12_digest LL_105 ⟨_, _, rfl, by decide⟩ (oX168 hc'.1) (c_mdigest hc'.1 hc.aok (hm.mfr hf) hc.tree) (by decide) rfl rfl (Nat.le_of_ble_eq_true rfl) (fun r h' hq => ?_)
  obtain ⟨rfl, I'', rfl, hm', hf'⟩ := hq
  refine y_leq C 673 dL_law_667 dL_law_668 (by decide) ?_
  exact kk _ _ _ _ (hc'.cfr hf') hm'
end S99zs
