section LW
variable {p : Program} {l : Launch} {e : Env} {R : Room} {s : State} {m : MethodId} {args : Array Value} {below : List Frame} {meth : Method} {c : Code} {b : Nat} {D : va_G} {aC : Nat → ClassId} {Q : State → Prop} {kc ks : Nat} {ck : Bool} {b0 Ln : Nat} {xs : Nat → Int32}
set_option maxRecDepth 100000 in
set_option maxHeartbeats 4000000 in
theorem law_member (Inv : Nat → vs_S → Prop) (C : vs_X p s m args meth c b D aC "VeilSearchLaw" code 9) (hX : va_X b0 Ln xs s s.heap) (hbl : b0 < s.heap.size) (hbA : ¬ b ≤ b0) (S : vs_S) (t i : Nat) (ht : t < 512) (hop : op_member Inv l b D aC) (hI : Inv t S) (hi : i + 5 ≤ Ln) (hL : Ln ≤ 2560) (hkc : kc + 1 ≤ 1107) (hks : ks + 6 ≤ 11239) (K : ∀ S2 o6 o7 o8, Inv (t + 1) S2 → vs_G p l e room_1 s m args below meth c b D aC 9 Q (kc + 1) (ks + 6) false (vs_mem S2) 1174 [some (.retAddr b0), some (.ref 0), some (.ref 35), some (.ref 63), some (.ref 64), some (.int (nI i)), o6, o7, o8] []) (o6 o7 o8 : Option Value) : vs_G p l e room_1 s m args below meth c b D aC 9 Q kc ks false (vs_mem S) 128 [some (.retAddr b0), some (.ref 0), some (.ref 35), some (.ref 63), some (.ref 64), some (.int (nI i)), o6, o7, o8] [] := by
  obtain ⟨ec, w, S1, S2, hLc, hMc, hT, hec, hfn, hIn⟩ := hop t S ht hI (xs (i + 1)) (xs (i + 2)) (xs (i + 3))
  refine vs_aload_n C rfl d_law_128 ?_
  refine vs_aload_nA C rfl d_law_129 ?_
  refine vs_iload C rfl d_law_130 ?_
  refine vs_iconst (v := 1) C (by decide) d_law_132 ?_
  refine vs_iadd C d_law_133 ?_
  refine vs_sld C hX hbl hbA d_law_134 (nI_add i 1) (by omega) (by omega) ?_
  refine vs_aload_nA C rfl d_law_135 ?_
  refine vs_iload C rfl d_law_136 ?_
  refine vs_iconst (v := 2) C (by decide) d_law_138 ?_
  refine vs_iadd C d_law_139 ?_
  refine vs_sld C hX hbl hbA d_law_140 (nI_add i 2) (by omega) (by omega) ?_
  refine vs_aload_nA C rfl d_law_141 ?_
  refine vs_iload C rfl d_law_142 ?_
  refine vs_iconst (v := 3) C (by decide) d_law_144 ?_
  refine vs_iadd C d_law_145 ?_
  refine vs_sld C hX hbl hbA d_law_146 (nI_add i 3) (by omega) (by omega) ?_
  refine vs_bool (t1 := 0) (t2 := 0) C d_law_147 d_law_150 d_law_151 d_law_154 ?_
  refine vs_aload_n C rfl d_law_155 ?_
  refine vs_cSW (n := 5) C hLc w_302 w_0 ⟨by decide, by decide, by decide +kernel⟩ w_300 st_L_member d_law_156 rfl rfl (Nat.le_of_ble_eq_true rfl) (by exact ⟨Nat.le_of_ble_eq_true rfl, Nat.le_of_ble_eq_true rfl⟩) (by show kc + 1 ≤ 1107 ∧ ks + 6 ≤ 11239; omega) ?_
  refine vs_istore C d_law_159 (by decide) ?_
  refine vs_aload_n C rfl d_law_161 ?_
  refine vs_aload_nA C rfl d_law_162 ?_
  refine vs_iload C rfl d_law_163 ?_
  refine vs_iconst (v := 1) C (by decide) d_law_165 ?_
  refine vs_iadd C d_law_166 ?_
  refine vs_sld C hX hbl hbA d_law_167 (nI_add i 1) (by omega) (by omega) ?_
  refine vs_aload_nA C rfl d_law_168 ?_
  refine vs_iload C rfl d_law_169 ?_
  refine vs_iconst (v := 2) C (by decide) d_law_171 ?_
  refine vs_iadd C d_law_172 ?_
  refine vs_sld C hX hbl hbA d_law_173 (nI_add i 2) (by omega) (by omega) ?_
  refine vs_aload_nA C rfl d_law_174 ?_
  refine vs_iload C rfl d_law_175 ?_
  refine vs_iconst (v := 3) C (by decide) d_law_177 ?_
  refine vs_iadd C d_law_178 ?_
  refine vs_sld C hX hbl hbA d_law_179 (nI_add i 3) (by omega) (by omega) ?_
  refine vs_bool (t1 := 0) (t2 := 0) C d_law_180 d_law_183 d_law_184 d_law_187 ?_
  refine vs_cV C hMc yk_M_member ml_L_80 im_M_member se_M_member d_law_188 rfl rfl rfl rfl (Nat.le_of_ble_eq_true rfl) (by exact ⟨Nat.le_of_ble_eq_true rfl, Nat.le_of_ble_eq_true rfl⟩) (by show kc + 1 + 0 ≤ 1107 ∧ ks + 6 + 0 ≤ 11239; omega) (fun h => by cases h) ?_
  refine vs_istore C d_law_191 (by decide) ?_
  refine vs_aload_n C rfl d_law_193 ?_
  refine vs_cV C (k_M_thrown l b D aC S2) yk_M_thrown ml_L_81 im_M_thrown se_M_thrown d_law_194 rfl rfl rfl rfl (Nat.le_of_ble_eq_true rfl) (by exact ⟨Nat.le_of_ble_eq_true rfl, Nat.le_of_ble_eq_true rfl⟩) (by show kc + 1 + 0 + 0 ≤ 1107 ∧ ks + 6 + 0 + 0 ≤ 11239; omega) (fun h => by cases h) ?_
  refine vs_iload C rfl d_law_197 ?_
  refine vs_icmp_eq (tgt := 204) C d_law_199 (by decide) (fun _ => ?_) (fun h => absurd hT h)
  refine vs_iload C rfl d_law_204 ?_
  have hend : ∀ o6 o7 o8, vs_G p l e room_1 s m args below meth c b D aC 9 Q (kc + 1) (ks + 6) false (vs_mem S2) 228 [some (.retAddr b0), some (.ref 0), some (.ref 35), some (.ref 63), some (.ref 64), some (.int (nI i)), o6, o7, o8] [] := fun o6 o7 o8 => vs_goto (tgt := 1174) C d_law_228 (by decide) (K S2 o6 o7 o8 hIn)
  refine vs_if_ne (tgt := 228) C d_law_206 (by decide) (fun _ => hend _ _ _) (fun h0 => ?_)
  have hec0 : ec = 0 := (nI_eq (by omega) (by decide)).mp (show nI ec = nI 0 from h0)
  have hf2 := hfn hec0
  refine vs_aload_n C rfl d_law_209 ?_
  refine vs_iconst (v := 0) C (by decide) d_law_210 ?_
  refine vs_laldN (i := 0) C d_law_211 rfl rfl (by decide) (by decide) ?_
  refine vs_iload C rfl d_law_212 ?_
  refine vs_boolL C d_law_214 d_law_217 d_law_218 d_law_221 ?_
  refine vs_lcmp C d_law_222 ?_
  refine vs_if_eq (tgt := 228) C d_law_223 (by decide) (fun _ => hend _ _ _) (fun h => absurd (lg0.mpr hf2) h)
set_option maxRecDepth 100000 in
set_option maxHeartbeats 4000000 in
theorem law_level (Inv : Nat → vs_S → Prop) (C : vs_X p s m args meth c b D aC "VeilSearchLaw" code 9) (hX : va_X b0 Ln xs s s.heap) (hbl : b0 < s.heap.size) (hbA : ¬ b ≤ b0) (S : vs_S) (t i : Nat) (ht : t < 512) (hop : op_level Inv l b D aC) (hI : Inv t S) (hi : i + 5 ≤ Ln) (hL : Ln ≤ 2560) (hkc : kc + 1 ≤ 1107) (hks : ks + 6 ≤ 11239) (K : ∀ S2 o6 o7 o8, Inv (t + 1) S2 → vs_G p l e room_1 s m args below meth c b D aC 9 Q (kc + 1) (ks + 6) false (vs_mem S2) 1174 [some (.retAddr b0), some (.ref 0), some (.ref 35), some (.ref 63), some (.ref 64), some (.int (nI i)), o6, o7, o8] []) (o6 o7 o8 : Option Value) : vs_G p l e room_1 s m args below meth c b D aC 9 Q kc ks false (vs_mem S) 231 [some (.retAddr b0), some (.ref 0), some (.ref 35), some (.ref 63), some (.ref 64), some (.int (nI i)), o6, o7, o8] [] := by
  obtain ⟨ec, w, S1, S2, hLc, hMc, hT, hec, hfn, hIn⟩ := hop t S ht hI (xs (i + 1)) (xs (i + 2)) (xs (i + 3))
  refine vs_aload_n C rfl d_law_231 ?_
  refine vs_aload_nA C rfl d_law_232 ?_
  refine vs_iload C rfl d_law_233 ?_
  refine vs_iconst (v := 1) C (by decide) d_law_235 ?_
  refine vs_iadd C d_law_236 ?_
  refine vs_sld C hX hbl hbA d_law_237 (nI_add i 1) (by omega) (by omega) ?_
  refine vs_aload_nA C rfl d_law_238 ?_
  refine vs_iload C rfl d_law_239 ?_
  refine vs_iconst (v := 2) C (by decide) d_law_241 ?_
  refine vs_iadd C d_law_242 ?_
  refine vs_sld C hX hbl hbA d_law_243 (nI_add i 2) (by omega) (by omega) ?_
  refine vs_aload_nA C rfl d_law_244 ?_
  refine vs_iload C rfl d_law_245 ?_
  refine vs_iconst (v := 3) C (by decide) d_law_247 ?_
  refine vs_iadd C d_law_248 ?_
  refine vs_sld C hX hbl hbA d_law_249 (nI_add i 3) (by omega) (by omega) ?_
  refine vs_aload_n C rfl d_law_250 ?_
  refine vs_cSW (n := 5) C hLc w_382 w_0 ⟨by decide, by decide, by decide +kernel⟩ w_380 st_L_level d_law_251 rfl rfl (Nat.le_of_ble_eq_true rfl) (by exact ⟨Nat.le_of_ble_eq_true rfl, Nat.le_of_ble_eq_true rfl⟩) (by show kc + 1 ≤ 1107 ∧ ks + 6 ≤ 11239; omega) ?_
  refine vs_istore C d_law_254 (by decide) ?_
  refine vs_aload_n C rfl d_law_256 ?_
  refine vs_aload_nA C rfl d_law_257 ?_
  refine vs_iload C rfl d_law_258 ?_
  refine vs_iconst (v := 1) C (by decide) d_law_260 ?_
  refine vs_iadd C d_law_261 ?_
  refine vs_sld C hX hbl hbA d_law_262 (nI_add i 1) (by omega) (by omega) ?_
  refine vs_aload_nA C rfl d_law_263 ?_
  refine vs_iload C rfl d_law_264 ?_
  refine vs_iconst (v := 2) C (by decide) d_law_266 ?_
  refine vs_iadd C d_law_267 ?_
  refine vs_sld C hX hbl hbA d_law_268 (nI_add i 2) (by omega) (by omega) ?_
  refine vs_aload_nA C rfl d_law_269 ?_
  refine vs_iload C rfl d_law_270 ?_
  refine vs_iconst (v := 3) C (by decide) d_law_272 ?_
  refine vs_iadd C d_law_273 ?_
  refine vs_sld C hX hbl hbA d_law_274 (nI_add i 3) (by omega) (by omega) ?_
  refine vs_cV C hMc yk_M_level ml_L_87 im_M_level se_M_level d_law_275 rfl rfl rfl rfl (Nat.le_of_ble_eq_true rfl) (by exact ⟨Nat.le_of_ble_eq_true rfl, Nat.le_of_ble_eq_true rfl⟩) (by show kc + 1 + 0 ≤ 1107 ∧ ks + 6 + 0 ≤ 11239; omega) (fun h => by cases h) ?_
  refine vs_istore C d_law_278 (by decide) ?_
  refine vs_aload_n C rfl d_law_280 ?_
  refine vs_cV C (k_M_thrown l b D aC S2) yk_M_thrown ml_L_81 im_M_thrown se_M_thrown d_law_281 rfl rfl rfl rfl (Nat.le_of_ble_eq_true rfl) (by exact ⟨Nat.le_of_ble_eq_true rfl, Nat.le_of_ble_eq_true rfl⟩) (by show kc + 1 + 0 + 0 ≤ 1107 ∧ ks + 6 + 0 + 0 ≤ 11239; omega) (fun h => by cases h) ?_
  refine vs_iload C rfl d_law_284 ?_
  refine vs_icmp_eq (tgt := 291) C d_law_286 (by decide) (fun _ => ?_) (fun h => absurd hT h)
  refine vs_iload C rfl d_law_291 ?_
  have hend : ∀ o6 o7 o8, vs_G p l e room_1 s m args below meth c b D aC 9 Q (kc + 1) (ks + 6) false (vs_mem S2) 308 [some (.retAddr b0), some (.ref 0), some (.ref 35), some (.ref 63), some (.ref 64), some (.int (nI i)), o6, o7, o8] [] := fun o6 o7 o8 => vs_goto (tgt := 1174) C d_law_308 (by decide) (K S2 o6 o7 o8 hIn)
  refine vs_if_ne (tgt := 308) C d_law_293 (by decide) (fun _ => hend _ _ _) (fun h0 => ?_)
  have hec0 : ec = 0 := (nI_eq (by omega) (by decide)).mp (show nI ec = nI 0 from h0)
  have hf2 := hfn hec0
  refine vs_aload_n C rfl d_law_296 ?_
  refine vs_iconst (v := 0) C (by decide) d_law_297 ?_
  refine vs_laldN (i := 0) C d_law_298 rfl rfl (by decide) (by decide) ?_
  refine vs_iload C rfl d_law_299 ?_
  refine vs_i2l C d_law_301 ?_
  refine vs_lcmp C d_law_302 ?_
  refine vs_if_eq (tgt := 308) C d_law_303 (by decide) (fun _ => hend _ _ _) (fun h => absurd (lg0.mpr hf2) h)
set_option maxRecDepth 100000 in
set_option maxHeartbeats 4000000 in
theorem law_weigh (Inv : Nat → vs_S → Prop) (C : vs_X p s m args meth c b D aC "VeilSearchLaw" code 9) (hX : va_X b0 Ln xs s s.heap) (hbl : b0 < s.heap.size) (hbA : ¬ b ≤ b0) (S : vs_S) (t i : Nat) (ht : t < 512) (hop : op_weigh Inv l b D aC) (hI : Inv t S) (hi : i + 5 ≤ Ln) (hL : Ln ≤ 2560) (hkc : kc + 1 ≤ 1107) (hks : ks + 6 ≤ 11239) (K : ∀ S2 o6 o7 o8, Inv (t + 1) S2 → vs_G p l e room_1 s m args below meth c b D aC 9 Q (kc + 1) (ks + 6) false (vs_mem S2) 1174 [some (.retAddr b0), some (.ref 0), some (.ref 35), some (.ref 63), some (.ref 64), some (.int (nI i)), o6, o7, o8] []) (o6 o7 o8 : Option Value) : vs_G p l e room_1 s m args below meth c b D aC 9 Q kc ks false (vs_mem S) 311 [some (.retAddr b0), some (.ref 0), some (.ref 35), some (.ref 63), some (.ref 64), some (.int (nI i)), o6, o7, o8] [] := by
  obtain ⟨ec, w, S1, S2, hLc, hMc, hT, hec, hfn, hIn⟩ := hop t S ht hI (xs (i + 1)) (xs (i + 2)) (xs (i + 3))
  refine vs_aload_n C rfl d_law_311 ?_
  refine vs_aload_nA C rfl d_law_312 ?_
  refine vs_iload C rfl d_law_313 ?_
  refine vs_iconst (v := 1) C (by decide) d_law_315 ?_
  refine vs_iadd C d_law_316 ?_
  refine vs_sld C hX hbl hbA d_law_317 (nI_add i 1) (by omega) (by omega) ?_
  refine vs_aload_nA C rfl d_law_318 ?_
  refine vs_iload C rfl d_law_319 ?_
  refine vs_iconst (v := 2) C (by decide) d_law_321 ?_
  refine vs_iadd C d_law_322 ?_
  refine vs_sld C hX hbl hbA d_law_323 (nI_add i 2) (by omega) (by omega) ?_
  refine vs_aload_nA C rfl d_law_324 ?_
  refine vs_iload C rfl d_law_325 ?_
  refine vs_iconst (v := 3) C (by decide) d_law_327 ?_
  refine vs_iadd C d_law_328 ?_
  refine vs_sld C hX hbl hbA d_law_329 (nI_add i 3) (by omega) (by omega) ?_
  refine vs_i2d C d_law_330 ?_
  refine vs_ldc2d C w_937 d_law_331 ?_
  refine vs_dmul C (wt_n _) d_law_334 ?_
  refine vs_aload_n C rfl d_law_335 ?_
  refine vs_cSW (n := 5) C hLc w_389 w_0 ⟨by decide, by decide, by decide +kernel⟩ w_387 st_L_weigh d_law_336 rfl rfl (Nat.le_of_ble_eq_true rfl) (by exact ⟨Nat.le_of_ble_eq_true rfl, Nat.le_of_ble_eq_true rfl⟩) (by show kc + 1 ≤ 1107 ∧ ks + 6 ≤ 11239; omega) ?_
  refine vs_istore C d_law_339 (by decide) ?_
  refine vs_aload_n C rfl d_law_341 ?_
  refine vs_aload_nA C rfl d_law_342 ?_
  refine vs_iload C rfl d_law_343 ?_
  refine vs_iconst (v := 1) C (by decide) d_law_345 ?_
  refine vs_iadd C d_law_346 ?_
  refine vs_sld C hX hbl hbA d_law_347 (nI_add i 1) (by omega) (by omega) ?_
  refine vs_aload_nA C rfl d_law_348 ?_
  refine vs_iload C rfl d_law_349 ?_
  refine vs_iconst (v := 2) C (by decide) d_law_351 ?_
  refine vs_iadd C d_law_352 ?_
  refine vs_sld C hX hbl hbA d_law_353 (nI_add i 2) (by omega) (by omega) ?_
  refine vs_aload_nA C rfl d_law_354 ?_
  refine vs_iload C rfl d_law_355 ?_
  refine vs_iconst (v := 3) C (by decide) d_law_357 ?_
  refine vs_iadd C d_law_358 ?_
  refine vs_sld C hX hbl hbA d_law_359 (nI_add i 3) (by omega) (by omega) ?_
  refine vs_i2d C d_law_360 ?_
  refine vs_ldc2d C w_937 d_law_361 ?_
  refine vs_dmul C (wt_n _) d_law_364 ?_
  refine vs_cV C hMc yk_M_weigh ml_L_93 im_M_weigh se_M_weigh d_law_365 rfl rfl rfl rfl (Nat.le_of_ble_eq_true rfl) (by exact ⟨Nat.le_of_ble_eq_true rfl, Nat.le_of_ble_eq_true rfl⟩) (by show kc + 1 + 0 ≤ 1107 ∧ ks + 6 + 0 ≤ 11239; omega) (fun h => by cases h) ?_
  refine vs_istore C d_law_368 (by decide) ?_
  refine vs_aload_n C rfl d_law_370 ?_
  refine vs_cV C (k_M_thrown l b D aC S2) yk_M_thrown ml_L_81 im_M_thrown se_M_thrown d_law_371 rfl rfl rfl rfl (Nat.le_of_ble_eq_true rfl) (by exact ⟨Nat.le_of_ble_eq_true rfl, Nat.le_of_ble_eq_true rfl⟩) (by show kc + 1 + 0 + 0 ≤ 1107 ∧ ks + 6 + 0 + 0 ≤ 11239; omega) (fun h => by cases h) ?_
  refine vs_iload C rfl d_law_374 ?_
  refine vs_icmp_eq (tgt := 381) C d_law_376 (by decide) (fun _ => ?_) (fun h => absurd hT h)
  refine vs_iload C rfl d_law_381 ?_
  have hend : ∀ o6 o7 o8, vs_G p l e room_1 s m args below meth c b D aC 9 Q (kc + 1) (ks + 6) false (vs_mem S2) 398 [some (.retAddr b0), some (.ref 0), some (.ref 35), some (.ref 63), some (.ref 64), some (.int (nI i)), o6, o7, o8] [] := fun o6 o7 o8 => vs_goto (tgt := 1174) C d_law_398 (by decide) (K S2 o6 o7 o8 hIn)
  refine vs_if_ne (tgt := 398) C d_law_383 (by decide) (fun _ => hend _ _ _) (fun h0 => ?_)
  have hec0 : ec = 0 := (nI_eq (by omega) (by decide)).mp (show nI ec = nI 0 from h0)
  have hf2 := hfn hec0
  refine vs_aload_n C rfl d_law_386 ?_
  refine vs_iconst (v := 0) C (by decide) d_law_387 ?_
  refine vs_laldN (i := 0) C d_law_388 rfl rfl (by decide) (by decide) ?_
  refine vs_iload C rfl d_law_389 ?_
  refine vs_i2l C d_law_391 ?_
  refine vs_lcmp C d_law_392 ?_
  refine vs_if_eq (tgt := 398) C d_law_393 (by decide) (fun _ => hend _ _ _) (fun h => absurd (lg0.mpr hf2) h)
set_option maxRecDepth 100000 in
set_option maxHeartbeats 4000000 in
theorem law_put (Inv : Nat → vs_S → Prop) (C : vs_X p s m args meth c b D aC "VeilSearchLaw" code 9) (hX : va_X b0 Ln xs s s.heap) (hbl : b0 < s.heap.size) (hbA : ¬ b ≤ b0) (S : vs_S) (t i : Nat) (ht : t < 512) (hop : op_put Inv l b D aC) (hI : Inv t S) (hi : i + 5 ≤ Ln) (hL : Ln ≤ 2560) (hkc : kc + 1 ≤ 1107) (hks : ks + 6 ≤ 11239) (K : ∀ S2 o6 o7 o8, Inv (t + 1) S2 → vs_G p l e room_1 s m args below meth c b D aC 9 Q (kc + 1) (ks + 6) false (vs_mem S2) 1174 [some (.retAddr b0), some (.ref 0), some (.ref 35), some (.ref 63), some (.ref 64), some (.int (nI i)), o6, o7, o8] []) (o6 o7 o8 : Option Value) : vs_G p l e room_1 s m args below meth c b D aC 9 Q kc ks false (vs_mem S) 401 [some (.retAddr b0), some (.ref 0), some (.ref 35), some (.ref 63), some (.ref 64), some (.int (nI i)), o6, o7, o8] [] := by
  obtain ⟨ec, w, S1, S2, hLc, hMc, hT, hec, hfn, hIn⟩ := hop t S ht hI (xs (i + 1)) (xs (i + 2))
  refine vs_aload_n C rfl d_law_401 ?_
  refine vs_aload_nA C rfl d_law_402 ?_
  refine vs_iload C rfl d_law_403 ?_
  refine vs_iconst (v := 1) C (by decide) d_law_405 ?_
  refine vs_iadd C d_law_406 ?_
  refine vs_sld C hX hbl hbA d_law_407 (nI_add i 1) (by omega) (by omega) ?_
  refine vs_aload_nA C rfl d_law_408 ?_
  refine vs_iload C rfl d_law_409 ?_
  refine vs_iconst (v := 2) C (by decide) d_law_411 ?_
  refine vs_iadd C d_law_412 ?_
  refine vs_sld C hX hbl hbA d_law_413 (nI_add i 2) (by omega) (by omega) ?_
  refine vs_aload_n C rfl d_law_414 ?_
  refine vs_cSW (n := 4) C hLc w_412 w_0 ⟨by decide, by decide, by decide +kernel⟩ w_410 st_L_put d_law_415 rfl rfl (Nat.le_of_ble_eq_true rfl) (by exact ⟨Nat.le_of_ble_eq_true rfl, Nat.le_of_ble_eq_true rfl⟩) (by show kc + 1 ≤ 1107 ∧ ks + 6 ≤ 11239; omega) ?_
  refine vs_istore C d_law_418 (by decide) ?_
  refine vs_aload_n C rfl d_law_420 ?_
  refine vs_aload_nA C rfl d_law_421 ?_
  refine vs_iload C rfl d_law_422 ?_
  refine vs_iconst (v := 1) C (by decide) d_law_424 ?_
  refine vs_iadd C d_law_425 ?_
  refine vs_sld C hX hbl hbA d_law_426 (nI_add i 1) (by omega) (by omega) ?_
  refine vs_aload_nA C rfl d_law_427 ?_
  refine vs_iload C rfl d_law_428 ?_
  refine vs_iconst (v := 2) C (by decide) d_law_430 ?_
  refine vs_iadd C d_law_431 ?_
  refine vs_sld C hX hbl hbA d_law_432 (nI_add i 2) (by omega) (by omega) ?_
  refine vs_cV C hMc yk_M_put ml_L_97 im_M_put se_M_put d_law_433 rfl rfl rfl rfl (Nat.le_of_ble_eq_true rfl) (by exact ⟨Nat.le_of_ble_eq_true rfl, Nat.le_of_ble_eq_true rfl⟩) (by show kc + 1 + 0 ≤ 1107 ∧ ks + 6 + 0 ≤ 11239; omega) (fun h => by cases h) ?_
  refine vs_istore C d_law_436 (by decide) ?_
  refine vs_aload_n C rfl d_law_438 ?_
  refine vs_cV C (k_M_thrown l b D aC S2) yk_M_thrown ml_L_81 im_M_thrown se_M_thrown d_law_439 rfl rfl rfl rfl (Nat.le_of_ble_eq_true rfl) (by exact ⟨Nat.le_of_ble_eq_true rfl, Nat.le_of_ble_eq_true rfl⟩) (by show kc + 1 + 0 + 0 ≤ 1107 ∧ ks + 6 + 0 + 0 ≤ 11239; omega) (fun h => by cases h) ?_
  refine vs_iload C rfl d_law_442 ?_
  refine vs_icmp_eq (tgt := 449) C d_law_444 (by decide) (fun _ => ?_) (fun h => absurd hT h)
  refine vs_iload C rfl d_law_449 ?_
  have hend : ∀ o6 o7 o8, vs_G p l e room_1 s m args below meth c b D aC 9 Q (kc + 1) (ks + 6) false (vs_mem S2) 466 [some (.retAddr b0), some (.ref 0), some (.ref 35), some (.ref 63), some (.ref 64), some (.int (nI i)), o6, o7, o8] [] := fun o6 o7 o8 => vs_goto (tgt := 1174) C d_law_466 (by decide) (K S2 o6 o7 o8 hIn)
  refine vs_if_ne (tgt := 466) C d_law_451 (by decide) (fun _ => hend _ _ _) (fun h0 => ?_)
  have hec0 : ec = 0 := (nI_eq (by omega) (by decide)).mp (show nI ec = nI 0 from h0)
  have hf2 := hfn hec0
  refine vs_aload_n C rfl d_law_454 ?_
  refine vs_iconst (v := 0) C (by decide) d_law_455 ?_
  refine vs_laldN (i := 0) C d_law_456 rfl rfl (by decide) (by decide) ?_
  refine vs_iload C rfl d_law_457 ?_
  refine vs_i2l C d_law_459 ?_
  refine vs_lcmp C d_law_460 ?_
  refine vs_if_eq (tgt := 466) C d_law_461 (by decide) (fun _ => hend _ _ _) (fun h => absurd (lg0.mpr hf2) h)
set_option maxRecDepth 100000 in
set_option maxHeartbeats 4000000 in
theorem law_rule (Inv : Nat → vs_S → Prop) (C : vs_X p s m args meth c b D aC "VeilSearchLaw" code 9) (hX : va_X b0 Ln xs s s.heap) (hbl : b0 < s.heap.size) (hbA : ¬ b ≤ b0) (S : vs_S) (t i : Nat) (ht : t < 512) (hop : op_rule Inv l b D aC) (hI : Inv t S) (hi : i + 5 ≤ Ln) (hL : Ln ≤ 2560) (hkc : kc + 1 ≤ 1107) (hks : ks + 6 ≤ 11239) (K : ∀ S2 o6 o7 o8, Inv (t + 1) S2 → vs_G p l e room_1 s m args below meth c b D aC 9 Q (kc + 1) (ks + 6) false (vs_mem S2) 1174 [some (.retAddr b0), some (.ref 0), some (.ref 35), some (.ref 63), some (.ref 64), some (.int (nI i)), o6, o7, o8] []) (o6 o7 o8 : Option Value) : vs_G p l e room_1 s m args below meth c b D aC 9 Q kc ks false (vs_mem S) 469 [some (.retAddr b0), some (.ref 0), some (.ref 35), some (.ref 63), some (.ref 64), some (.int (nI i)), o6, o7, o8] [] := by
  obtain ⟨ec, w, S1, S2, hLc, hMc, hT, hec, hfn, hIn⟩ := hop t S ht hI (xs (i + 1)) (xs (i + 2))
  refine vs_aload_n C rfl d_law_469 ?_
  refine vs_aload_nA C rfl d_law_470 ?_
  refine vs_iload C rfl d_law_471 ?_
  refine vs_iconst (v := 1) C (by decide) d_law_473 ?_
  refine vs_iadd C d_law_474 ?_
  refine vs_sld C hX hbl hbA d_law_475 (nI_add i 1) (by omega) (by omega) ?_
  refine vs_aload_nA C rfl d_law_476 ?_
  refine vs_iload C rfl d_law_477 ?_
  refine vs_iconst (v := 2) C (by decide) d_law_479 ?_
  refine vs_iadd C d_law_480 ?_
  refine vs_sld C hX hbl hbA d_law_481 (nI_add i 2) (by omega) (by omega) ?_
  refine vs_bool (t1 := 0) (t2 := 0) C d_law_482 d_law_485 d_law_486 d_law_489 ?_
  refine vs_aload_n C rfl d_law_490 ?_
  refine vs_cSW (n := 4) C hLc w_420 w_0 ⟨by decide, by decide, by decide +kernel⟩ w_418 st_L_rule d_law_491 rfl rfl (Nat.le_of_ble_eq_true rfl) (by exact ⟨Nat.le_of_ble_eq_true rfl, Nat.le_of_ble_eq_true rfl⟩) (by show kc + 1 ≤ 1107 ∧ ks + 6 ≤ 11239; omega) ?_
  refine vs_istore C d_law_494 (by decide) ?_
  refine vs_aload_n C rfl d_law_496 ?_
  refine vs_aload_nA C rfl d_law_497 ?_
  refine vs_iload C rfl d_law_498 ?_
  refine vs_iconst (v := 1) C (by decide) d_law_500 ?_
  refine vs_iadd C d_law_501 ?_
  refine vs_sld C hX hbl hbA d_law_502 (nI_add i 1) (by omega) (by omega) ?_
  refine vs_aload_nA C rfl d_law_503 ?_
  refine vs_iload C rfl d_law_504 ?_
  refine vs_iconst (v := 2) C (by decide) d_law_506 ?_
  refine vs_iadd C d_law_507 ?_
  refine vs_sld C hX hbl hbA d_law_508 (nI_add i 2) (by omega) (by omega) ?_
  refine vs_bool (t1 := 0) (t2 := 0) C d_law_509 d_law_512 d_law_513 d_law_516 ?_
  refine vs_cV C hMc yk_M_rule ml_L_101 im_M_rule se_M_rule d_law_517 rfl rfl rfl rfl (Nat.le_of_ble_eq_true rfl) (by exact ⟨Nat.le_of_ble_eq_true rfl, Nat.le_of_ble_eq_true rfl⟩) (by show kc + 1 + 0 ≤ 1107 ∧ ks + 6 + 0 ≤ 11239; omega) (fun h => by cases h) ?_
  refine vs_istore C d_law_520 (by decide) ?_
  refine vs_aload_n C rfl d_law_522 ?_
  refine vs_cV C (k_M_thrown l b D aC S2) yk_M_thrown ml_L_81 im_M_thrown se_M_thrown d_law_523 rfl rfl rfl rfl (Nat.le_of_ble_eq_true rfl) (by exact ⟨Nat.le_of_ble_eq_true rfl, Nat.le_of_ble_eq_true rfl⟩) (by show kc + 1 + 0 + 0 ≤ 1107 ∧ ks + 6 + 0 + 0 ≤ 11239; omega) (fun h => by cases h) ?_
  refine vs_iload C rfl d_law_526 ?_
  refine vs_icmp_eq (tgt := 533) C d_law_528 (by decide) (fun _ => ?_) (fun h => absurd hT h)
  refine vs_iload C rfl d_law_533 ?_
  have hend : ∀ o6 o7 o8, vs_G p l e room_1 s m args below meth c b D aC 9 Q (kc + 1) (ks + 6) false (vs_mem S2) 557 [some (.retAddr b0), some (.ref 0), some (.ref 35), some (.ref 63), some (.ref 64), some (.int (nI i)), o6, o7, o8] [] := fun o6 o7 o8 => vs_goto (tgt := 1174) C d_law_557 (by decide) (K S2 o6 o7 o8 hIn)
  refine vs_if_ne (tgt := 557) C d_law_535 (by decide) (fun _ => hend _ _ _) (fun h0 => ?_)
  have hec0 : ec = 0 := (nI_eq (by omega) (by decide)).mp (show nI ec = nI 0 from h0)
  have hf2 := hfn hec0
  refine vs_aload_n C rfl d_law_538 ?_
  refine vs_iconst (v := 0) C (by decide) d_law_539 ?_
  refine vs_laldN (i := 0) C d_law_540 rfl rfl (by decide) (by decide) ?_
  refine vs_iload C rfl d_law_541 ?_
  refine vs_boolL C d_law_543 d_law_546 d_law_547 d_law_550 ?_
  refine vs_lcmp C d_law_551 ?_
  refine vs_if_eq (tgt := 557) C d_law_552 (by decide) (fun _ => hend _ _ _) (fun h => absurd (lg0.mpr hf2) h)
set_option maxRecDepth 100000 in
set_option maxHeartbeats 4000000 in
theorem law_add (Inv : Nat → vs_S → Prop) (C : vs_X p s m args meth c b D aC "VeilSearchLaw" code 9) (hX : va_X b0 Ln xs s s.heap) (hbl : b0 < s.heap.size) (hbA : ¬ b ≤ b0) (S : vs_S) (t i : Nat) (ht : t < 512) (hop : op_add Inv l b D aC) (hI : Inv t S) (hi : i + 5 ≤ Ln) (hL : Ln ≤ 2560) (hkc : kc + 1 ≤ 1107) (hks : ks + 6 ≤ 11239) (K : ∀ S2 o6 o7 o8, Inv (t + 1) S2 → vs_G p l e room_1 s m args below meth c b D aC 9 Q (kc + 1) (ks + 6) false (vs_mem S2) 1174 [some (.retAddr b0), some (.ref 0), some (.ref 35), some (.ref 63), some (.ref 64), some (.int (nI i)), o6, o7, o8] []) (o6 o7 o8 : Option Value) : vs_G p l e room_1 s m args below meth c b D aC 9 Q kc ks false (vs_mem S) 560 [some (.retAddr b0), some (.ref 0), some (.ref 35), some (.ref 63), some (.ref 64), some (.int (nI i)), o6, o7, o8] [] := by
  obtain ⟨ec, w, S1, S2, hLc, hMc, hT, hec, hfn, hIn⟩ := hop t S ht hI (xs (i + 1))
  refine vs_aload_n C rfl d_law_560 ?_
  refine vs_aload_nA C rfl d_law_561 ?_
  refine vs_iload C rfl d_law_562 ?_
  refine vs_iconst (v := 1) C (by decide) d_law_564 ?_
  refine vs_iadd C d_law_565 ?_
  refine vs_sld C hX hbl hbA d_law_566 (nI_add i 1) (by omega) (by omega) ?_
  refine vs_aload_n C rfl d_law_567 ?_
  refine vs_cSW (n := 3) C hLc w_427 w_0 ⟨by decide, by decide, by decide +kernel⟩ w_425 st_L_add d_law_568 rfl rfl (Nat.le_of_ble_eq_true rfl) (by exact ⟨Nat.le_of_ble_eq_true rfl, Nat.le_of_ble_eq_true rfl⟩) (by show kc + 1 ≤ 1107 ∧ ks + 6 ≤ 11239; omega) ?_
  refine vs_istore C d_law_571 (by decide) ?_
  refine vs_aload_n C rfl d_law_573 ?_
  refine vs_aload_nA C rfl d_law_574 ?_
  refine vs_iload C rfl d_law_575 ?_
  refine vs_iconst (v := 1) C (by decide) d_law_577 ?_
  refine vs_iadd C d_law_578 ?_
  refine vs_sld C hX hbl hbA d_law_579 (nI_add i 1) (by omega) (by omega) ?_
  refine vs_cV C hMc yk_M_add ml_L_105 im_M_add se_M_add d_law_580 rfl rfl rfl rfl (Nat.le_of_ble_eq_true rfl) (by exact ⟨Nat.le_of_ble_eq_true rfl, Nat.le_of_ble_eq_true rfl⟩) (by show kc + 1 + 0 ≤ 1107 ∧ ks + 6 + 0 ≤ 11239; omega) (fun h => by cases h) ?_
  refine vs_istore C d_law_583 (by decide) ?_
  refine vs_aload_n C rfl d_law_585 ?_
  refine vs_cV C (k_M_thrown l b D aC S2) yk_M_thrown ml_L_81 im_M_thrown se_M_thrown d_law_586 rfl rfl rfl rfl (Nat.le_of_ble_eq_true rfl) (by exact ⟨Nat.le_of_ble_eq_true rfl, Nat.le_of_ble_eq_true rfl⟩) (by show kc + 1 + 0 + 0 ≤ 1107 ∧ ks + 6 + 0 + 0 ≤ 11239; omega) (fun h => by cases h) ?_
  refine vs_iload C rfl d_law_589 ?_
  refine vs_icmp_eq (tgt := 596) C d_law_591 (by decide) (fun _ => ?_) (fun h => absurd hT h)
  refine vs_iload C rfl d_law_596 ?_
  have hend : ∀ o6 o7 o8, vs_G p l e room_1 s m args below meth c b D aC 9 Q (kc + 1) (ks + 6) false (vs_mem S2) 613 [some (.retAddr b0), some (.ref 0), some (.ref 35), some (.ref 63), some (.ref 64), some (.int (nI i)), o6, o7, o8] [] := fun o6 o7 o8 => vs_goto (tgt := 1174) C d_law_613 (by decide) (K S2 o6 o7 o8 hIn)
  refine vs_if_ne (tgt := 613) C d_law_598 (by decide) (fun _ => hend _ _ _) (fun h0 => ?_)
  have hec0 : ec = 0 := (nI_eq (by omega) (by decide)).mp (show nI ec = nI 0 from h0)
  have hf2 := hfn hec0
  refine vs_aload_n C rfl d_law_601 ?_
  refine vs_iconst (v := 0) C (by decide) d_law_602 ?_
  refine vs_laldN (i := 0) C d_law_603 rfl rfl (by decide) (by decide) ?_
  refine vs_iload C rfl d_law_604 ?_
  refine vs_i2l C d_law_606 ?_
  refine vs_lcmp C d_law_607 ?_
  refine vs_if_eq (tgt := 613) C d_law_608 (by decide) (fun _ => hend _ _ _) (fun h => absurd (lg0.mpr hf2) h)
set_option maxRecDepth 100000 in
set_option maxHeartbeats 4000000 in
theorem law_remove (Inv : Nat → vs_S → Prop) (C : vs_X p s m args meth c b D aC "VeilSearchLaw" code 9) (hX : va_X b0 Ln xs s s.heap) (hbl : b0 < s.heap.size) (hbA : ¬ b ≤ b0) (S : vs_S) (t i : Nat) (ht : t < 512) (hop : op_remove Inv l b D aC) (hI : Inv t S) (hi : i + 5 ≤ Ln) (hL : Ln ≤ 2560) (hkc : kc + 1 ≤ 1107) (hks : ks + 6 ≤ 11239) (K : ∀ S2 o6 o7 o8, Inv (t + 1) S2 → vs_G p l e room_1 s m args below meth c b D aC 9 Q (kc + 1) (ks + 6) false (vs_mem S2) 1174 [some (.retAddr b0), some (.ref 0), some (.ref 35), some (.ref 63), some (.ref 64), some (.int (nI i)), o6, o7, o8] []) (o6 o7 o8 : Option Value) : vs_G p l e room_1 s m args below meth c b D aC 9 Q kc ks false (vs_mem S) 616 [some (.retAddr b0), some (.ref 0), some (.ref 35), some (.ref 63), some (.ref 64), some (.int (nI i)), o6, o7, o8] [] := by
  obtain ⟨ec, S1, S2, hLc, hMc, hT, hec, hIn⟩ := hop t S ht hI (xs (i + 1))
  refine vs_aload_n C rfl d_law_616 ?_
  refine vs_aload_nA C rfl d_law_617 ?_
  refine vs_iload C rfl d_law_618 ?_
  refine vs_iconst (v := 1) C (by decide) d_law_620 ?_
  refine vs_iadd C d_law_621 ?_
  refine vs_sld C hX hbl hbA d_law_622 (nI_add i 1) (by omega) (by omega) ?_
  refine vs_cSW (n := 2) C hLc w_454 w_0 ⟨by decide, by decide, by decide +kernel⟩ w_452 st_L_remove d_law_623 rfl rfl (Nat.le_of_ble_eq_true rfl) (by exact ⟨Nat.le_of_ble_eq_true rfl, Nat.le_of_ble_eq_true rfl⟩) (by show kc + 1 ≤ 1107 ∧ ks + 6 ≤ 11239; omega) ?_
  refine vs_istore C d_law_626 (by decide) ?_
  refine vs_aload_n C rfl d_law_628 ?_
  refine vs_aload_nA C rfl d_law_629 ?_
  refine vs_iload C rfl d_law_630 ?_
  refine vs_iconst (v := 1) C (by decide) d_law_632 ?_
  refine vs_iadd C d_law_633 ?_
  refine vs_sld C hX hbl hbA d_law_634 (nI_add i 1) (by omega) (by omega) ?_
  refine vs_cV C hMc yk_M_remove ml_L_109 im_M_remove se_M_remove d_law_635 rfl rfl rfl rfl (Nat.le_of_ble_eq_true rfl) (by exact ⟨Nat.le_of_ble_eq_true rfl, Nat.le_of_ble_eq_true rfl⟩) (by show kc + 1 + 0 ≤ 1107 ∧ ks + 6 + 0 ≤ 11239; omega) (fun h => by cases h) ?_
  refine vs_aload_n C rfl d_law_638 ?_
  refine vs_cV C (k_M_thrown l b D aC S2) yk_M_thrown ml_L_81 im_M_thrown se_M_thrown d_law_639 rfl rfl rfl rfl (Nat.le_of_ble_eq_true rfl) (by exact ⟨Nat.le_of_ble_eq_true rfl, Nat.le_of_ble_eq_true rfl⟩) (by show kc + 1 + 0 + 0 ≤ 1107 ∧ ks + 6 + 0 + 0 ≤ 11239; omega) (fun h => by cases h) ?_
  refine vs_iload C rfl d_law_642 ?_
  refine vs_icmp_eq (tgt := 649) C d_law_644 (by decide) (fun _ => ?_) (fun h => absurd hT h)
  refine vs_goto (tgt := 1174) C d_law_649 (by decide) ?_
  exact K S2 _ _ _ hIn
set_option maxRecDepth 100000 in
set_option maxHeartbeats 4000000 in
theorem law_flush (Inv : Nat → vs_S → Prop) (C : vs_X p s m args meth c b D aC "VeilSearchLaw" code 9) (hX : va_X b0 Ln xs s s.heap) (hbl : b0 < s.heap.size) (hbA : ¬ b ≤ b0) (S : vs_S) (t i : Nat) (ht : t < 512) (hop : op_flush Inv l b D aC) (hI : Inv t S) (hi : i + 5 ≤ Ln) (hL : Ln ≤ 2560) (hkc : kc + 1 ≤ 1107) (hks : ks + 6 ≤ 11239) (K : ∀ S2 o6 o7 o8, Inv (t + 1) S2 → vs_G p l e room_1 s m args below meth c b D aC 9 Q (kc + 1) (ks + 6) false (vs_mem S2) 1174 [some (.retAddr b0), some (.ref 0), some (.ref 35), some (.ref 63), some (.ref 64), some (.int (nI i)), o6, o7, o8] []) (o6 o7 o8 : Option Value) : vs_G p l e room_1 s m args below meth c b D aC 9 Q kc ks false (vs_mem S) 652 [some (.retAddr b0), some (.ref 0), some (.ref 35), some (.ref 63), some (.ref 64), some (.int (nI i)), o6, o7, o8] [] := by
  obtain ⟨ec, w, S1, S2, hLc, hMc, hT, hec, hfn, hIn⟩ := hop t S ht hI 
  refine vs_aload_n C rfl d_law_652 ?_
  refine vs_aload_n C rfl d_law_653 ?_
  refine vs_cSW (n := 2) C hLc w_480 w_0 ⟨by decide, by decide, by decide +kernel⟩ w_478 st_L_flush d_law_654 rfl rfl (Nat.le_of_ble_eq_true rfl) (by exact ⟨Nat.le_of_ble_eq_true rfl, Nat.le_of_ble_eq_true rfl⟩) (by show kc + 1 ≤ 1107 ∧ ks + 6 ≤ 11239; omega) ?_
  refine vs_istore C d_law_657 (by decide) ?_
  refine vs_aload_n C rfl d_law_659 ?_
  refine vs_cV C hMc yk_M_flush ml_L_113 im_M_flush se_M_flush d_law_660 rfl rfl rfl rfl (Nat.le_of_ble_eq_true rfl) (by exact ⟨Nat.le_of_ble_eq_true rfl, Nat.le_of_ble_eq_true rfl⟩) (by show kc + 1 + 0 ≤ 1107 ∧ ks + 6 + 0 ≤ 11239; omega) (fun h => by cases h) ?_
  refine vs_istore C d_law_663 (by decide) ?_
  refine vs_aload_n C rfl d_law_665 ?_
  refine vs_cV C (k_M_thrown l b D aC S2) yk_M_thrown ml_L_81 im_M_thrown se_M_thrown d_law_666 rfl rfl rfl rfl (Nat.le_of_ble_eq_true rfl) (by exact ⟨Nat.le_of_ble_eq_true rfl, Nat.le_of_ble_eq_true rfl⟩) (by show kc + 1 + 0 + 0 ≤ 1107 ∧ ks + 6 + 0 + 0 ≤ 11239; omega) (fun h => by cases h) ?_
  refine vs_iload C rfl d_law_669 ?_
  refine vs_icmp_eq (tgt := 676) C d_law_671 (by decide) (fun _ => ?_) (fun h => absurd hT h)
  refine vs_iload C rfl d_law_676 ?_
  have hend : ∀ o6 o7 o8, vs_G p l e room_1 s m args below meth c b D aC 9 Q (kc + 1) (ks + 6) false (vs_mem S2) 693 [some (.retAddr b0), some (.ref 0), some (.ref 35), some (.ref 63), some (.ref 64), some (.int (nI i)), o6, o7, o8] [] := fun o6 o7 o8 => vs_goto (tgt := 1174) C d_law_693 (by decide) (K S2 o6 o7 o8 hIn)
  refine vs_if_ne (tgt := 693) C d_law_678 (by decide) (fun _ => hend _ _ _) (fun h0 => ?_)
  have hec0 : ec = 0 := (nI_eq (by omega) (by decide)).mp (show nI ec = nI 0 from h0)
  have hf2 := hfn hec0
  refine vs_aload_n C rfl d_law_681 ?_
  refine vs_iconst (v := 0) C (by decide) d_law_682 ?_
  refine vs_laldN (i := 0) C d_law_683 rfl rfl (by decide) (by decide) ?_
  refine vs_iload C rfl d_law_684 ?_
  refine vs_i2l C d_law_686 ?_
  refine vs_lcmp C d_law_687 ?_
  refine vs_if_eq (tgt := 693) C d_law_688 (by decide) (fun _ => hend _ _ _) (fun h => absurd (lg0.mpr hf2) h)
set_option maxRecDepth 100000 in
set_option maxHeartbeats 4000000 in
theorem law_merge (Inv : Nat → vs_S → Prop) (C : vs_X p s m args meth c b D aC "VeilSearchLaw" code 9) (hX : va_X b0 Ln xs s s.heap) (hbl : b0 < s.heap.size) (hbA : ¬ b ≤ b0) (S : vs_S) (t i : Nat) (ht : t < 512) (hop : op_merge Inv l b D aC) (hI : Inv t S) (hi : i + 5 ≤ Ln) (hL : Ln ≤ 2560) (hkc : kc + 1 ≤ 1107) (hks : ks + 6 ≤ 11239) (K : ∀ S2 o6 o7 o8, Inv (t + 1) S2 → vs_G p l e room_1 s m args below meth c b D aC 9 Q kc ks false (vs_mem S2) 1174 [some (.retAddr b0), some (.ref 0), some (.ref 35), some (.ref 63), some (.ref 64), some (.int (nI i)), o6, o7, o8] []) (o6 o7 o8 : Option Value) : vs_G p l e room_1 s m args below meth c b D aC 9 Q kc ks false (vs_mem S) 696 [some (.retAddr b0), some (.ref 0), some (.ref 35), some (.ref 63), some (.ref 64), some (.int (nI i)), o6, o7, o8] [] := by
  obtain ⟨v, S1, S2, hLc, hMc, hIn⟩ := hop t S ht hI 
  refine vs_aload_n C rfl d_law_696 ?_
  refine vs_cV C (hLc) yk_X_merge ml_L_114 im_X_merge se_X_merge d_law_697 rfl rfl rfl rfl (Nat.le_of_ble_eq_true rfl) (by exact ⟨Nat.le_of_ble_eq_true rfl, Nat.le_of_ble_eq_true rfl⟩) (by show _ ≤ 1107 ∧ _ ≤ 11239; exact ⟨by simp only [Nat.add_zero]; omega, by simp only [Nat.add_zero]; omega⟩) (fun h => by cases h) ?_
  refine vs_aload_n C rfl d_law_700 ?_
  refine vs_cV C (hMc) yk_M_merge ml_L_117 im_M_merge se_M_merge d_law_701 rfl rfl rfl rfl (Nat.le_of_ble_eq_true rfl) (by exact ⟨Nat.le_of_ble_eq_true rfl, Nat.le_of_ble_eq_true rfl⟩) (by show _ ≤ 1107 ∧ _ ≤ 11239; exact ⟨by simp only [Nat.add_zero]; omega, by simp only [Nat.add_zero]; omega⟩) (fun h => by cases h) ?_
  refine vs_icmp_eq (tgt := 1174) C d_law_704 (by decide) (fun _ => ?_) (fun h => absurd rfl h)
  exact K S2 _ _ _ hIn
set_option maxRecDepth 100000 in
set_option maxHeartbeats 4000000 in
theorem law_refresh (Inv : Nat → vs_S → Prop) (C : vs_X p s m args meth c b D aC "VeilSearchLaw" code 9) (hX : va_X b0 Ln xs s s.heap) (hbl : b0 < s.heap.size) (hbA : ¬ b ≤ b0) (S : vs_S) (t i : Nat) (ht : t < 512) (hop : op_refresh Inv l b D aC) (hI : Inv t S) (hi : i + 5 ≤ Ln) (hL : Ln ≤ 2560) (hkc : kc + 1 ≤ 1107) (hks : ks + 6 ≤ 11239) (K : ∀ S2 o6 o7 o8, Inv (t + 1) S2 → vs_G p l e room_1 s m args below meth c b D aC 9 Q kc ks false (vs_mem S2) 1174 [some (.retAddr b0), some (.ref 0), some (.ref 35), some (.ref 63), some (.ref 64), some (.int (nI i)), o6, o7, o8] []) (o6 o7 o8 : Option Value) : vs_G p l e room_1 s m args below meth c b D aC 9 Q kc ks false (vs_mem S) 709 [some (.retAddr b0), some (.ref 0), some (.ref 35), some (.ref 63), some (.ref 64), some (.int (nI i)), o6, o7, o8] [] := by
  obtain ⟨v, S1, S2, hLc, hMc, hIn⟩ := hop t S ht hI 
  refine vs_aload_n C rfl d_law_709 ?_
  refine vs_cV C (hLc) yk_X_refresh ml_L_118 im_X_refresh se_X_refresh d_law_710 rfl rfl rfl rfl (Nat.le_of_ble_eq_true rfl) (by exact ⟨Nat.le_of_ble_eq_true rfl, Nat.le_of_ble_eq_true rfl⟩) (by show _ ≤ 1107 ∧ _ ≤ 11239; exact ⟨by simp only [Nat.add_zero]; omega, by simp only [Nat.add_zero]; omega⟩) (fun h => by cases h) ?_
  refine vs_aload_n C rfl d_law_713 ?_
  refine vs_cV C (hMc) yk_M_refresh ml_L_121 im_M_refresh se_M_refresh d_law_714 rfl rfl rfl rfl (Nat.le_of_ble_eq_true rfl) (by exact ⟨Nat.le_of_ble_eq_true rfl, Nat.le_of_ble_eq_true rfl⟩) (by show _ ≤ 1107 ∧ _ ≤ 11239; exact ⟨by simp only [Nat.add_zero]; omega, by simp only [Nat.add_zero]; omega⟩) (fun h => by cases h) ?_
  refine vs_icmp_eq (tgt := 1174) C d_law_717 (by decide) (fun _ => ?_) (fun h => absurd rfl h)
  exact K S2 _ _ _ hIn
set_option maxRecDepth 100000 in
set_option maxHeartbeats 4000000 in
theorem law_clause (Inv : Nat → vs_S → Prop) (C : vs_X p s m args meth c b D aC "VeilSearchLaw" code 9) (hX : va_X b0 Ln xs s s.heap) (hbl : b0 < s.heap.size) (hbA : ¬ b ≤ b0) (S : vs_S) (t i : Nat) (ht : t < 512) (hop : op_clause Inv l b D aC) (hI : Inv t S) (hi : i + 5 ≤ Ln) (hL : Ln ≤ 2560) (hkc : kc + 1 ≤ 1107) (hks : ks + 6 ≤ 11239) (K : ∀ S2 o6 o7 o8, Inv (t + 1) S2 → vs_G p l e room_1 s m args below meth c b D aC 9 Q (kc + 1) (ks + 6) false (vs_mem S2) 1174 [some (.retAddr b0), some (.ref 0), some (.ref 35), some (.ref 63), some (.ref 64), some (.int (nI i)), o6, o7, o8] []) (o6 o7 o8 : Option Value) : vs_G p l e room_1 s m args below meth c b D aC 9 Q kc ks false (vs_mem S) 722 [some (.retAddr b0), some (.ref 0), some (.ref 35), some (.ref 63), some (.ref 64), some (.int (nI i)), o6, o7, o8] [] := by
  obtain ⟨ec, w, S1, S2, hLc, hMc, hT, hec, hfn, hIn⟩ := hop t S ht hI (xs (i + 1)) (xs (i + 2)) (xs (i + 3)) (xs (i + 4))
  refine vs_aload_n C rfl d_law_722 ?_
  refine vs_aload_nA C rfl d_law_723 ?_
  refine vs_iload C rfl d_law_724 ?_
  refine vs_iconst (v := 1) C (by decide) d_law_726 ?_
  refine vs_iadd C d_law_727 ?_
  refine vs_sld C hX hbl hbA d_law_728 (nI_add i 1) (by omega) (by omega) ?_
  refine vs_aload_nA C rfl d_law_729 ?_
  refine vs_iload C rfl d_law_730 ?_
  refine vs_iconst (v := 2) C (by decide) d_law_732 ?_
  refine vs_iadd C d_law_733 ?_
  refine vs_sld C hX hbl hbA d_law_734 (nI_add i 2) (by omega) (by omega) ?_
  refine vs_aload_nA C rfl d_law_735 ?_
  refine vs_iload C rfl d_law_736 ?_
  refine vs_iconst (v := 3) C (by decide) d_law_738 ?_
  refine vs_iadd C d_law_739 ?_
  refine vs_sld C hX hbl hbA d_law_740 (nI_add i 3) (by omega) (by omega) ?_
  refine vs_aload_nA C rfl d_law_741 ?_
  refine vs_iload C rfl d_law_742 ?_
  refine vs_iconst (v := 4) C (by decide) d_law_744 ?_
  refine vs_iadd C d_law_745 ?_
  refine vs_sld C hX hbl hbA d_law_746 (nI_add i 4) (by omega) (by omega) ?_
  refine vs_i2d C d_law_747 ?_
  refine vs_ldc2d C w_937 d_law_748 ?_
  refine vs_dmul C (wt_n _) d_law_751 ?_
  refine vs_aload_n C rfl d_law_752 ?_
  refine vs_cSW (n := 6) C hLc w_487 w_0 ⟨by decide, by decide, by decide +kernel⟩ w_485 st_L_clause d_law_753 rfl rfl (Nat.le_of_ble_eq_true rfl) (by exact ⟨Nat.le_of_ble_eq_true rfl, Nat.le_of_ble_eq_true rfl⟩) (by show kc + 1 ≤ 1107 ∧ ks + 6 ≤ 11239; omega) ?_
  refine vs_istore C d_law_756 (by decide) ?_
  refine vs_aload_n C rfl d_law_758 ?_
  refine vs_aload_nA C rfl d_law_759 ?_
  refine vs_iload C rfl d_law_760 ?_
  refine vs_iconst (v := 1) C (by decide) d_law_762 ?_
  refine vs_iadd C d_law_763 ?_
  refine vs_sld C hX hbl hbA d_law_764 (nI_add i 1) (by omega) (by omega) ?_
  refine vs_aload_nA C rfl d_law_765 ?_
  refine vs_iload C rfl d_law_766 ?_
  refine vs_iconst (v := 2) C (by decide) d_law_768 ?_
  refine vs_iadd C d_law_769 ?_
  refine vs_sld C hX hbl hbA d_law_770 (nI_add i 2) (by omega) (by omega) ?_
  refine vs_aload_nA C rfl d_law_771 ?_
  refine vs_iload C rfl d_law_772 ?_
  refine vs_iconst (v := 3) C (by decide) d_law_774 ?_
  refine vs_iadd C d_law_775 ?_
  refine vs_sld C hX hbl hbA d_law_776 (nI_add i 3) (by omega) (by omega) ?_
  refine vs_aload_nA C rfl d_law_777 ?_
  refine vs_iload C rfl d_law_778 ?_
  refine vs_iconst (v := 4) C (by decide) d_law_780 ?_
  refine vs_iadd C d_law_781 ?_
  refine vs_sld C hX hbl hbA d_law_782 (nI_add i 4) (by omega) (by omega) ?_
  refine vs_i2d C d_law_783 ?_
  refine vs_ldc2d C w_937 d_law_784 ?_
  refine vs_dmul C (wt_n _) d_law_787 ?_
  refine vs_cV C hMc yk_M_clause ml_L_125 im_M_clause se_M_clause d_law_788 rfl rfl rfl rfl (Nat.le_of_ble_eq_true rfl) (by exact ⟨Nat.le_of_ble_eq_true rfl, Nat.le_of_ble_eq_true rfl⟩) (by show kc + 1 + 0 ≤ 1107 ∧ ks + 6 + 0 ≤ 11239; omega) (fun h => by cases h) ?_
  refine vs_istore C d_law_791 (by decide) ?_
  refine vs_aload_n C rfl d_law_793 ?_
  refine vs_cV C (k_M_thrown l b D aC S2) yk_M_thrown ml_L_81 im_M_thrown se_M_thrown d_law_794 rfl rfl rfl rfl (Nat.le_of_ble_eq_true rfl) (by exact ⟨Nat.le_of_ble_eq_true rfl, Nat.le_of_ble_eq_true rfl⟩) (by show kc + 1 + 0 + 0 ≤ 1107 ∧ ks + 6 + 0 + 0 ≤ 11239; omega) (fun h => by cases h) ?_
  refine vs_iload C rfl d_law_797 ?_
  refine vs_icmp_eq (tgt := 804) C d_law_799 (by decide) (fun _ => ?_) (fun h => absurd hT h)
  refine vs_iload C rfl d_law_804 ?_
  have hend : ∀ o6 o7 o8, vs_G p l e room_1 s m args below meth c b D aC 9 Q (kc + 1) (ks + 6) false (vs_mem S2) 821 [some (.retAddr b0), some (.ref 0), some (.ref 35), some (.ref 63), some (.ref 64), some (.int (nI i)), o6, o7, o8] [] := fun o6 o7 o8 => vs_goto (tgt := 1174) C d_law_821 (by decide) (K S2 o6 o7 o8 hIn)
  refine vs_if_ne (tgt := 821) C d_law_806 (by decide) (fun _ => hend _ _ _) (fun h0 => ?_)
  have hec0 : ec = 0 := (nI_eq (by omega) (by decide)).mp (show nI ec = nI 0 from h0)
  have hf2 := hfn hec0
  refine vs_aload_n C rfl d_law_809 ?_
  refine vs_iconst (v := 0) C (by decide) d_law_810 ?_
  refine vs_laldN (i := 0) C d_law_811 rfl rfl (by decide) (by decide) ?_
  refine vs_iload C rfl d_law_812 ?_
  refine vs_i2l C d_law_814 ?_
  refine vs_lcmp C d_law_815 ?_
  refine vs_if_eq (tgt := 821) C d_law_816 (by decide) (fun _ => hend _ _ _) (fun h => absurd (lg0.mpr hf2) h)
set_option maxRecDepth 100000 in
set_option maxHeartbeats 4000000 in
theorem law_clear (Inv : Nat → vs_S → Prop) (C : vs_X p s m args meth c b D aC "VeilSearchLaw" code 9) (hX : va_X b0 Ln xs s s.heap) (hbl : b0 < s.heap.size) (hbA : ¬ b ≤ b0) (S : vs_S) (t i : Nat) (ht : t < 512) (hop : op_clear Inv l b D aC) (hI : Inv t S) (hi : i + 5 ≤ Ln) (hL : Ln ≤ 2560) (hkc : kc + 1 ≤ 1107) (hks : ks + 6 ≤ 11239) (K : ∀ S2 o6 o7 o8, Inv (t + 1) S2 → vs_G p l e room_1 s m args below meth c b D aC 9 Q kc ks false (vs_mem S2) 1174 [some (.retAddr b0), some (.ref 0), some (.ref 35), some (.ref 63), some (.ref 64), some (.int (nI i)), o6, o7, o8] []) (o6 o7 o8 : Option Value) : vs_G p l e room_1 s m args below meth c b D aC 9 Q kc ks false (vs_mem S) 824 [some (.retAddr b0), some (.ref 0), some (.ref 35), some (.ref 63), some (.ref 64), some (.int (nI i)), o6, o7, o8] [] := by
  obtain ⟨v, S1, S2, hLc, hMc, hIn⟩ := hop t S ht hI 
  refine vs_aload_n C rfl d_law_824 ?_
  refine vs_cV C (hLc) yk_X_clear ml_L_126 im_X_clear se_X_clear d_law_825 rfl rfl rfl rfl (Nat.le_of_ble_eq_true rfl) (by exact ⟨Nat.le_of_ble_eq_true rfl, Nat.le_of_ble_eq_true rfl⟩) (by show _ ≤ 1107 ∧ _ ≤ 11239; exact ⟨by simp only [Nat.add_zero]; omega, by simp only [Nat.add_zero]; omega⟩) (fun h => by cases h) ?_
  refine vs_aload_n C rfl d_law_828 ?_
  refine vs_cV C (hMc) yk_M_clear ml_L_129 im_M_clear se_M_clear d_law_829 rfl rfl rfl rfl (Nat.le_of_ble_eq_true rfl) (by exact ⟨Nat.le_of_ble_eq_true rfl, Nat.le_of_ble_eq_true rfl⟩) (by show _ ≤ 1107 ∧ _ ≤ 11239; exact ⟨by simp only [Nat.add_zero]; omega, by simp only [Nat.add_zero]; omega⟩) (fun h => by cases h) ?_
  refine vs_icmp_eq (tgt := 1174) C d_law_832 (by decide) (fun _ => ?_) (fun h => absurd rfl h)
  exact K S2 _ _ _ hIn
set_option maxRecDepth 100000 in
set_option maxHeartbeats 4000000 in
theorem law_search (Inv : Nat → vs_S → Prop) (C : vs_X p s m args meth c b D aC "VeilSearchLaw" code 9) (hX : va_X b0 Ln xs s s.heap) (hbl : b0 < s.heap.size) (hbA : ¬ b ≤ b0) (S : vs_S) (t i : Nat) (ht : t < 512) (hop : op_search Inv l b D aC) (hI : Inv t S) (hi : i + 5 ≤ Ln) (hL : Ln ≤ 2560) (hkc : kc + 1 ≤ 1107) (hks : ks + 6 ≤ 11239) (K : ∀ S2 o6 o7 o8, Inv (t + 1) S2 → vs_G p l e room_1 s m args below meth c b D aC 9 Q (kc + 1) (ks + 6) false (vs_mem S2) 1174 [some (.retAddr b0), some (.ref 0), some (.ref 35), some (.ref 63), some (.ref 64), some (.int (nI i)), o6, o7, o8] []) (o6 o7 o8 : Option Value) : vs_G p l e room_1 s m args below meth c b D aC 9 Q kc ks false (vs_mem S) 837 [some (.retAddr b0), some (.ref 0), some (.ref 35), some (.ref 63), some (.ref 64), some (.int (nI i)), o6, o7, o8] [] := by
  obtain ⟨ec, w, S1, S2, hLc, hMc, hT, hec, hfn, hIn⟩ := hop t S ht hI (xs (i + 1)) (xs (i + 2))
  refine vs_aload_n C rfl d_law_837 ?_
  refine vs_aload_nA C rfl d_law_838 ?_
  refine vs_iload C rfl d_law_839 ?_
  refine vs_iconst (v := 1) C (by decide) d_law_841 ?_
  refine vs_iadd C d_law_842 ?_
  refine vs_sld C hX hbl hbA d_law_843 (nI_add i 1) (by omega) (by omega) ?_
  refine vs_aload_nA C rfl d_law_844 ?_
  refine vs_iload C rfl d_law_845 ?_
  refine vs_iconst (v := 2) C (by decide) d_law_847 ?_
  refine vs_iadd C d_law_848 ?_
  refine vs_sld C hX hbl hbA d_law_849 (nI_add i 2) (by omega) (by omega) ?_
  refine vs_aload_n C rfl d_law_850 ?_
  refine vs_cSW (n := 4) C hLc w_506 w_0 ⟨by decide, by decide, by decide +kernel⟩ w_504 st_L_search d_law_851 rfl rfl (Nat.le_of_ble_eq_true rfl) (by exact ⟨Nat.le_of_ble_eq_true rfl, Nat.le_of_ble_eq_true rfl⟩) (by show kc + 1 ≤ 1107 ∧ ks + 6 ≤ 11239; omega) ?_
  refine vs_istore C d_law_854 (by decide) ?_
  refine vs_aload_n C rfl d_law_856 ?_
  refine vs_aload_nA C rfl d_law_857 ?_
  refine vs_iload C rfl d_law_858 ?_
  refine vs_iconst (v := 1) C (by decide) d_law_860 ?_
  refine vs_iadd C d_law_861 ?_
  refine vs_sld C hX hbl hbA d_law_862 (nI_add i 1) (by omega) (by omega) ?_
  refine vs_aload_nA C rfl d_law_863 ?_
  refine vs_iload C rfl d_law_864 ?_
  refine vs_iconst (v := 2) C (by decide) d_law_866 ?_
  refine vs_iadd C d_law_867 ?_
  refine vs_sld C hX hbl hbA d_law_868 (nI_add i 2) (by omega) (by omega) ?_
  refine vs_cV C hMc yk_M_search ml_L_132 im_M_search se_M_search d_law_869 rfl rfl rfl rfl (Nat.le_of_ble_eq_true rfl) (by exact ⟨Nat.le_of_ble_eq_true rfl, Nat.le_of_ble_eq_true rfl⟩) (by show kc + 1 + 0 ≤ 1107 ∧ ks + 6 + 0 ≤ 11239; omega) (fun h => by cases h) ?_
  refine vs_istore C d_law_872 (by decide) ?_
  refine vs_aload_n C rfl d_law_874 ?_
  refine vs_cV C (k_M_thrown l b D aC S2) yk_M_thrown ml_L_81 im_M_thrown se_M_thrown d_law_875 rfl rfl rfl rfl (Nat.le_of_ble_eq_true rfl) (by exact ⟨Nat.le_of_ble_eq_true rfl, Nat.le_of_ble_eq_true rfl⟩) (by show kc + 1 + 0 + 0 ≤ 1107 ∧ ks + 6 + 0 + 0 ≤ 11239; omega) (fun h => by cases h) ?_
  refine vs_iload C rfl d_law_878 ?_
  refine vs_icmp_eq (tgt := 885) C d_law_880 (by decide) (fun _ => ?_) (fun h => absurd hT h)
  refine vs_iload C rfl d_law_885 ?_
  have hend : ∀ o6 o7 o8, vs_G p l e room_1 s m args below meth c b D aC 9 Q (kc + 1) (ks + 6) false (vs_mem S2) 902 [some (.retAddr b0), some (.ref 0), some (.ref 35), some (.ref 63), some (.ref 64), some (.int (nI i)), o6, o7, o8] [] := fun o6 o7 o8 => vs_goto (tgt := 1174) C d_law_902 (by decide) (K S2 o6 o7 o8 hIn)
  refine vs_if_ne (tgt := 902) C d_law_887 (by decide) (fun _ => hend _ _ _) (fun h0 => ?_)
  have hec0 : ec = 0 := (nI_eq (by omega) (by decide)).mp (show nI ec = nI 0 from h0)
  have hf2 := hfn hec0
  refine vs_aload_n C rfl d_law_890 ?_
  refine vs_iconst (v := 0) C (by decide) d_law_891 ?_
  refine vs_laldN (i := 0) C d_law_892 rfl rfl (by decide) (by decide) ?_
  refine vs_iload C rfl d_law_893 ?_
  refine vs_i2l C d_law_895 ?_
  refine vs_lcmp C d_law_896 ?_
  refine vs_if_eq (tgt := 902) C d_law_897 (by decide) (fun _ => hend _ _ _) (fun h => absurd (lg0.mpr hf2) h)
set_option maxRecDepth 100000 in
set_option maxHeartbeats 4000000 in
theorem law_hit (Inv : Nat → vs_S → Prop) (C : vs_X p s m args meth c b D aC "VeilSearchLaw" code 9) (hX : va_X b0 Ln xs s s.heap) (hbl : b0 < s.heap.size) (hbA : ¬ b ≤ b0) (S : vs_S) (t i : Nat) (ht : t < 512) (hop : op_hit Inv l b D aC) (hI : Inv t S) (hi : i + 5 ≤ Ln) (hL : Ln ≤ 2560) (hkc : kc + 1 ≤ 1107) (hks : ks + 6 ≤ 11239) (K : ∀ S2 o6 o7 o8, Inv (t + 1) S2 → vs_G p l e room_1 s m args below meth c b D aC 9 Q (kc + 1) (ks + 6) false (vs_mem S2) 1174 [some (.retAddr b0), some (.ref 0), some (.ref 35), some (.ref 63), some (.ref 64), some (.int (nI i)), o6, o7, o8] []) (o6 o7 o8 : Option Value) : vs_G p l e room_1 s m args below meth c b D aC 9 Q kc ks false (vs_mem S) 905 [some (.retAddr b0), some (.ref 0), some (.ref 35), some (.ref 63), some (.ref 64), some (.int (nI i)), o6, o7, o8] [] := by
  obtain ⟨ec, w, S1, S2, hLc, hMc, hT, hec, hfn, hIn⟩ := hop t S ht hI (xs (i + 1))
  refine vs_aload_n C rfl d_law_905 ?_
  refine vs_aload_nA C rfl d_law_906 ?_
  refine vs_iload C rfl d_law_907 ?_
  refine vs_iconst (v := 1) C (by decide) d_law_909 ?_
  refine vs_iadd C d_law_910 ?_
  refine vs_sld C hX hbl hbA d_law_911 (nI_add i 1) (by omega) (by omega) ?_
  refine vs_aload_n C rfl d_law_912 ?_
  refine vs_cSW (n := 3) C hLc w_603 w_0 ⟨by decide, by decide, by decide +kernel⟩ w_601 st_L_hit d_law_913 rfl rfl (Nat.le_of_ble_eq_true rfl) (by exact ⟨Nat.le_of_ble_eq_true rfl, Nat.le_of_ble_eq_true rfl⟩) (by show kc + 1 ≤ 1107 ∧ ks + 6 ≤ 11239; omega) ?_
  refine vs_istore C d_law_916 (by decide) ?_
  refine vs_aload_n C rfl d_law_918 ?_
  refine vs_aload_nA C rfl d_law_919 ?_
  refine vs_iload C rfl d_law_920 ?_
  refine vs_iconst (v := 1) C (by decide) d_law_922 ?_
  refine vs_iadd C d_law_923 ?_
  refine vs_sld C hX hbl hbA d_law_924 (nI_add i 1) (by omega) (by omega) ?_
  refine vs_cV C hMc yk_M_hit ml_L_135 im_M_hit se_M_hit d_law_925 rfl rfl rfl rfl (Nat.le_of_ble_eq_true rfl) (by exact ⟨Nat.le_of_ble_eq_true rfl, Nat.le_of_ble_eq_true rfl⟩) (by show kc + 1 + 0 ≤ 1107 ∧ ks + 6 + 0 ≤ 11239; omega) (fun h => by cases h) ?_
  refine vs_istore C d_law_928 (by decide) ?_
  refine vs_aload_n C rfl d_law_930 ?_
  refine vs_cV C (k_M_thrown l b D aC S2) yk_M_thrown ml_L_81 im_M_thrown se_M_thrown d_law_931 rfl rfl rfl rfl (Nat.le_of_ble_eq_true rfl) (by exact ⟨Nat.le_of_ble_eq_true rfl, Nat.le_of_ble_eq_true rfl⟩) (by show kc + 1 + 0 + 0 ≤ 1107 ∧ ks + 6 + 0 + 0 ≤ 11239; omega) (fun h => by cases h) ?_
  refine vs_iload C rfl d_law_934 ?_
  refine vs_icmp_eq (tgt := 941) C d_law_936 (by decide) (fun _ => ?_) (fun h => absurd hT h)
  refine vs_iload C rfl d_law_941 ?_
  have hend : ∀ o6 o7 o8, vs_G p l e room_1 s m args below meth c b D aC 9 Q (kc + 1) (ks + 6) false (vs_mem S2) 958 [some (.retAddr b0), some (.ref 0), some (.ref 35), some (.ref 63), some (.ref 64), some (.int (nI i)), o6, o7, o8] [] := fun o6 o7 o8 => vs_goto (tgt := 1174) C d_law_958 (by decide) (K S2 o6 o7 o8 hIn)
  refine vs_if_ne (tgt := 958) C d_law_943 (by decide) (fun _ => hend _ _ _) (fun h0 => ?_)
  have hec0 : ec = 0 := (nI_eq (by omega) (by decide)).mp (show nI ec = nI 0 from h0)
  have hf2 := hfn hec0
  refine vs_aload_n C rfl d_law_946 ?_
  refine vs_iconst (v := 0) C (by decide) d_law_947 ?_
  refine vs_laldN (i := 0) C d_law_948 rfl rfl (by decide) (by decide) ?_
  refine vs_iload C rfl d_law_949 ?_
  refine vs_i2l C d_law_951 ?_
  refine vs_lcmp C d_law_952 ?_
  refine vs_if_eq (tgt := 958) C d_law_953 (by decide) (fun _ => hend _ _ _) (fun h => absurd (lg0.mpr hf2) h)
set_option maxRecDepth 100000 in
set_option maxHeartbeats 4000000 in
theorem law_score (Inv : Nat → vs_S → Prop) (C : vs_X p s m args meth c b D aC "VeilSearchLaw" code 9) (hX : va_X b0 Ln xs s s.heap) (hbl : b0 < s.heap.size) (hbA : ¬ b ≤ b0) (S : vs_S) (t i : Nat) (ht : t < 512) (hop : op_score Inv l b D aC) (hI : Inv t S) (hi : i + 5 ≤ Ln) (hL : Ln ≤ 2560) (hkc : kc + 1 ≤ 1107) (hks : ks + 6 ≤ 11239) (K : ∀ S2 o6 o7 o8, Inv (t + 1) S2 → vs_G p l e room_1 s m args below meth c b D aC 9 Q (kc + 1) (ks + 6) false (vs_mem S2) 1174 [some (.retAddr b0), some (.ref 0), some (.ref 35), some (.ref 63), some (.ref 64), some (.int (nI i)), o6, o7, o8] []) (o6 o7 o8 : Option Value) : vs_G p l e room_1 s m args below meth c b D aC 9 Q kc ks false (vs_mem S) 961 [some (.retAddr b0), some (.ref 0), some (.ref 35), some (.ref 63), some (.ref 64), some (.int (nI i)), o6, o7, o8] [] := by
  obtain ⟨ec, w, S1, S2, hLc, hMc, hT, hec, hfn, hIn⟩ := hop t S ht hI (xs (i + 1))
  refine vs_aload_n C rfl d_law_961 ?_
  refine vs_aload_nA C rfl d_law_962 ?_
  refine vs_iload C rfl d_law_963 ?_
  refine vs_iconst (v := 1) C (by decide) d_law_965 ?_
  refine vs_iadd C d_law_966 ?_
  refine vs_sld C hX hbl hbA d_law_967 (nI_add i 1) (by omega) (by omega) ?_
  refine vs_aload C rfl d_law_968 ?_
  refine vs_cSW (n := 3) C hLc w_626 w_0 ⟨by decide, by decide, by decide +kernel⟩ w_624 st_L_score d_law_970 rfl rfl (Nat.le_of_ble_eq_true rfl) (by exact ⟨Nat.le_of_ble_eq_true rfl, Nat.le_of_ble_eq_true rfl⟩) (by show kc + 1 ≤ 1107 ∧ ks + 6 ≤ 11239; omega) ?_
  refine vs_istore C d_law_973 (by decide) ?_
  refine vs_aload_n C rfl d_law_975 ?_
  refine vs_aload_nA C rfl d_law_976 ?_
  refine vs_iload C rfl d_law_977 ?_
  refine vs_iconst (v := 1) C (by decide) d_law_979 ?_
  refine vs_iadd C d_law_980 ?_
  refine vs_sld C hX hbl hbA d_law_981 (nI_add i 1) (by omega) (by omega) ?_
  refine vs_cV C hMc yk_M_score ml_L_139 im_M_score se_M_score d_law_982 rfl rfl rfl rfl (Nat.le_of_ble_eq_true rfl) (by exact ⟨Nat.le_of_ble_eq_true rfl, Nat.le_of_ble_eq_true rfl⟩) (by show kc + 1 + 0 ≤ 1107 ∧ ks + 6 + 0 ≤ 11239; omega) (fun h => by cases h) ?_
  refine vs_dstore C d_law_985 (by decide) ?_
  refine vs_aload_n C rfl d_law_987 ?_
  refine vs_cV C (k_M_thrown l b D aC S2) yk_M_thrown ml_L_81 im_M_thrown se_M_thrown d_law_988 rfl rfl rfl rfl (Nat.le_of_ble_eq_true rfl) (by exact ⟨Nat.le_of_ble_eq_true rfl, Nat.le_of_ble_eq_true rfl⟩) (by show kc + 1 + 0 + 0 ≤ 1107 ∧ ks + 6 + 0 + 0 ≤ 11239; omega) (fun h => by cases h) ?_
  refine vs_iload C rfl d_law_991 ?_
  refine vs_icmp_eq (tgt := 998) C d_law_993 (by decide) (fun _ => ?_) (fun h => absurd hT h)
  refine vs_iload C rfl d_law_998 ?_
  have hend : ∀ o6 o7 o8, vs_G p l e room_1 s m args below meth c b D aC 9 Q (kc + 1) (ks + 6) false (vs_mem S2) 1035 [some (.retAddr b0), some (.ref 0), some (.ref 35), some (.ref 63), some (.ref 64), some (.int (nI i)), o6, o7, o8] [] := fun o6 o7 o8 => vs_goto (tgt := 1174) C d_law_1035 (by decide) (K S2 o6 o7 o8 hIn)
  refine vs_if_ne (tgt := 1035) C d_law_1000 (by decide) (fun _ => hend _ _ _) (fun h0 => ?_)
  have hec0 : ec = 0 := (nI_eq (by omega) (by decide)).mp (show nI ec = nI 0 from h0)
  have hf2 := hfn hec0
  refine vs_aload C rfl d_law_1003 ?_
  refine vs_iconst (v := 0) C (by decide) d_law_1005 ?_
  refine vs_daldN (i := 0) C d_law_1006 rfl rfl (by decide) (by decide) ?_
  refine vs_dload C rfl d_law_1007 ?_
  refine vs_dcmp C d_law_1009 ?_
  refine vs_if_eq (tgt := 1035) C d_law_1010 (by decide) (fun _ => hend _ _ _) (fun h => absurd (by rw [hf2.1]; exact hf2.2) h)
set_option maxRecDepth 100000 in
set_option maxHeartbeats 4000000 in
theorem law_value (Inv : Nat → vs_S → Prop) (C : vs_X p s m args meth c b D aC "VeilSearchLaw" code 9) (hX : va_X b0 Ln xs s s.heap) (hbl : b0 < s.heap.size) (hbA : ¬ b ≤ b0) (S : vs_S) (t i : Nat) (ht : t < 512) (hop : op_value Inv l b D aC) (hI : Inv t S) (hi : i + 5 ≤ Ln) (hL : Ln ≤ 2560) (hkc : kc + 1 ≤ 1107) (hks : ks + 6 ≤ 11239) (K : ∀ S2 o6 o7 o8, Inv (t + 1) S2 → vs_G p l e room_1 s m args below meth c b D aC 9 Q (kc + 1) (ks + 6) false (vs_mem S2) 1174 [some (.retAddr b0), some (.ref 0), some (.ref 35), some (.ref 63), some (.ref 64), some (.int (nI i)), o6, o7, o8] []) (o6 o7 o8 : Option Value) : vs_G p l e room_1 s m args below meth c b D aC 9 Q kc ks false (vs_mem S) 1038 [some (.retAddr b0), some (.ref 0), some (.ref 35), some (.ref 63), some (.ref 64), some (.int (nI i)), o6, o7, o8] [] := by
  obtain ⟨ec, w, S1, S2, hLc, hMc, hT, hec, hfn, hIn⟩ := hop t S ht hI (xs (i + 1)) (xs (i + 2)) (xs (i + 3))
  refine vs_aload_n C rfl d_law_1038 ?_
  refine vs_aload_nA C rfl d_law_1039 ?_
  refine vs_iload C rfl d_law_1040 ?_
  refine vs_iconst (v := 1) C (by decide) d_law_1042 ?_
  refine vs_iadd C d_law_1043 ?_
  refine vs_sld C hX hbl hbA d_law_1044 (nI_add i 1) (by omega) (by omega) ?_
  refine vs_aload_nA C rfl d_law_1045 ?_
  refine vs_iload C rfl d_law_1046 ?_
  refine vs_iconst (v := 2) C (by decide) d_law_1048 ?_
  refine vs_iadd C d_law_1049 ?_
  refine vs_sld C hX hbl hbA d_law_1050 (nI_add i 2) (by omega) (by omega) ?_
  refine vs_aload_nA C rfl d_law_1051 ?_
  refine vs_iload C rfl d_law_1052 ?_
  refine vs_iconst (v := 3) C (by decide) d_law_1054 ?_
  refine vs_iadd C d_law_1055 ?_
  refine vs_sld C hX hbl hbA d_law_1056 (nI_add i 3) (by omega) (by omega) ?_
  refine vs_aload_n C rfl d_law_1057 ?_
  refine vs_cSW (n := 5) C hLc w_633 w_0 ⟨by decide, by decide, by decide +kernel⟩ w_631 st_L_value d_law_1058 rfl rfl (Nat.le_of_ble_eq_true rfl) (by exact ⟨Nat.le_of_ble_eq_true rfl, Nat.le_of_ble_eq_true rfl⟩) (by show kc + 1 ≤ 1107 ∧ ks + 6 ≤ 11239; omega) ?_
  refine vs_istore C d_law_1061 (by decide) ?_
  refine vs_aload_n C rfl d_law_1063 ?_
  refine vs_aload_nA C rfl d_law_1064 ?_
  refine vs_iload C rfl d_law_1065 ?_
  refine vs_iconst (v := 1) C (by decide) d_law_1067 ?_
  refine vs_iadd C d_law_1068 ?_
  refine vs_sld C hX hbl hbA d_law_1069 (nI_add i 1) (by omega) (by omega) ?_
  refine vs_aload_nA C rfl d_law_1070 ?_
  refine vs_iload C rfl d_law_1071 ?_
  refine vs_iconst (v := 2) C (by decide) d_law_1073 ?_
  refine vs_iadd C d_law_1074 ?_
  refine vs_sld C hX hbl hbA d_law_1075 (nI_add i 2) (by omega) (by omega) ?_
  refine vs_aload_nA C rfl d_law_1076 ?_
  refine vs_iload C rfl d_law_1077 ?_
  refine vs_iconst (v := 3) C (by decide) d_law_1079 ?_
  refine vs_iadd C d_law_1080 ?_
  refine vs_sld C hX hbl hbA d_law_1081 (nI_add i 3) (by omega) (by omega) ?_
  refine vs_cV C hMc yk_M_value ml_L_142 im_M_value se_M_value d_law_1082 rfl rfl rfl rfl (Nat.le_of_ble_eq_true rfl) (by exact ⟨Nat.le_of_ble_eq_true rfl, Nat.le_of_ble_eq_true rfl⟩) (by show kc + 1 + 0 ≤ 1107 ∧ ks + 6 + 0 ≤ 11239; omega) (fun h => by cases h) ?_
  refine vs_istore C d_law_1085 (by decide) ?_
  refine vs_aload_n C rfl d_law_1087 ?_
  refine vs_cV C (k_M_thrown l b D aC S2) yk_M_thrown ml_L_81 im_M_thrown se_M_thrown d_law_1088 rfl rfl rfl rfl (Nat.le_of_ble_eq_true rfl) (by exact ⟨Nat.le_of_ble_eq_true rfl, Nat.le_of_ble_eq_true rfl⟩) (by show kc + 1 + 0 + 0 ≤ 1107 ∧ ks + 6 + 0 + 0 ≤ 11239; omega) (fun h => by cases h) ?_
  refine vs_iload C rfl d_law_1091 ?_
  refine vs_icmp_eq (tgt := 1098) C d_law_1093 (by decide) (fun _ => ?_) (fun h => absurd hT h)
  refine vs_iload C rfl d_law_1098 ?_
  have hend : ∀ o6 o7 o8, vs_G p l e room_1 s m args below meth c b D aC 9 Q (kc + 1) (ks + 6) false (vs_mem S2) 1115 [some (.retAddr b0), some (.ref 0), some (.ref 35), some (.ref 63), some (.ref 64), some (.int (nI i)), o6, o7, o8] [] := fun o6 o7 o8 => vs_goto (tgt := 1174) C d_law_1115 (by decide) (K S2 o6 o7 o8 hIn)
  refine vs_if_ne (tgt := 1115) C d_law_1100 (by decide) (fun _ => hend _ _ _) (fun h0 => ?_)
  have hec0 : ec = 0 := (nI_eq (by omega) (by decide)).mp (show nI ec = nI 0 from h0)
  have hf2 := hfn hec0
  refine vs_aload_n C rfl d_law_1103 ?_
  refine vs_iconst (v := 0) C (by decide) d_law_1104 ?_
  refine vs_laldN (i := 0) C d_law_1105 rfl rfl (by decide) (by decide) ?_
  refine vs_iload C rfl d_law_1106 ?_
  refine vs_i2l C d_law_1108 ?_
  refine vs_lcmp C d_law_1109 ?_
  refine vs_if_eq (tgt := 1115) C d_law_1110 (by decide) (fun _ => hend _ _ _) (fun h => absurd (lg0.mpr hf2) h)
set_option maxRecDepth 100000 in
set_option maxHeartbeats 4000000 in
theorem law_count (Inv : Nat → vs_S → Prop) (C : vs_X p s m args meth c b D aC "VeilSearchLaw" code 9) (hX : va_X b0 Ln xs s s.heap) (hbl : b0 < s.heap.size) (hbA : ¬ b ≤ b0) (S : vs_S) (t i : Nat) (ht : t < 512) (hop : op_count Inv l b D aC) (hI : Inv t S) (hi : i + 5 ≤ Ln) (hL : Ln ≤ 2560) (hkc : kc + 1 ≤ 1107) (hks : ks + 6 ≤ 11239) (K : ∀ S2 o6 o7 o8, Inv (t + 1) S2 → vs_G p l e room_1 s m args below meth c b D aC 9 Q (kc + 1) (ks + 6) false (vs_mem S2) 1174 [some (.retAddr b0), some (.ref 0), some (.ref 35), some (.ref 63), some (.ref 64), some (.int (nI i)), o6, o7, o8] []) (o6 o7 o8 : Option Value) : vs_G p l e room_1 s m args below meth c b D aC 9 Q kc ks false (vs_mem S) 1118 [some (.retAddr b0), some (.ref 0), some (.ref 35), some (.ref 63), some (.ref 64), some (.int (nI i)), o6, o7, o8] [] := by
  obtain ⟨ec, w, S1, S2, hLc, hMc, hT, hec, hfn, hIn⟩ := hop t S ht hI (xs (i + 1))
  refine vs_aload_n C rfl d_law_1118 ?_
  refine vs_aload_nA C rfl d_law_1119 ?_
  refine vs_iload C rfl d_law_1120 ?_
  refine vs_iconst (v := 1) C (by decide) d_law_1122 ?_
  refine vs_iadd C d_law_1123 ?_
  refine vs_sld C hX hbl hbA d_law_1124 (nI_add i 1) (by omega) (by omega) ?_
  refine vs_aload_n C rfl d_law_1125 ?_
  refine vs_cSW (n := 3) C hLc w_658 w_0 ⟨by decide, by decide, by decide +kernel⟩ w_656 st_L_count d_law_1126 rfl rfl (Nat.le_of_ble_eq_true rfl) (by exact ⟨Nat.le_of_ble_eq_true rfl, Nat.le_of_ble_eq_true rfl⟩) (by show kc + 1 ≤ 1107 ∧ ks + 6 ≤ 11239; omega) ?_
  refine vs_istore C d_law_1129 (by decide) ?_
  refine vs_aload_n C rfl d_law_1131 ?_
  refine vs_aload_nA C rfl d_law_1132 ?_
  refine vs_iload C rfl d_law_1133 ?_
  refine vs_iconst (v := 1) C (by decide) d_law_1135 ?_
  refine vs_iadd C d_law_1136 ?_
  refine vs_sld C hX hbl hbA d_law_1137 (nI_add i 1) (by omega) (by omega) ?_
  refine vs_cV C hMc yk_M_count ml_L_145 im_M_count se_M_count d_law_1138 rfl rfl rfl rfl (Nat.le_of_ble_eq_true rfl) (by exact ⟨Nat.le_of_ble_eq_true rfl, Nat.le_of_ble_eq_true rfl⟩) (by show kc + 1 + 0 ≤ 1107 ∧ ks + 6 + 0 ≤ 11239; omega) (fun h => by cases h) ?_
  refine vs_istore C d_law_1141 (by decide) ?_
  refine vs_aload_n C rfl d_law_1143 ?_
  refine vs_cV C (k_M_thrown l b D aC S2) yk_M_thrown ml_L_81 im_M_thrown se_M_thrown d_law_1144 rfl rfl rfl rfl (Nat.le_of_ble_eq_true rfl) (by exact ⟨Nat.le_of_ble_eq_true rfl, Nat.le_of_ble_eq_true rfl⟩) (by show kc + 1 + 0 + 0 ≤ 1107 ∧ ks + 6 + 0 + 0 ≤ 11239; omega) (fun h => by cases h) ?_
  refine vs_iload C rfl d_law_1147 ?_
  refine vs_icmp_eq (tgt := 1154) C d_law_1149 (by decide) (fun _ => ?_) (fun h => absurd hT h)
  refine vs_iload C rfl d_law_1154 ?_
  have hend : ∀ o6 o7 o8, vs_G p l e room_1 s m args below meth c b D aC 9 Q (kc + 1) (ks + 6) false (vs_mem S2) 1171 [some (.retAddr b0), some (.ref 0), some (.ref 35), some (.ref 63), some (.ref 64), some (.int (nI i)), o6, o7, o8] [] := fun o6 o7 o8 => vs_goto (tgt := 1174) C d_law_1171 (by decide) (K S2 o6 o7 o8 hIn)
  refine vs_if_ne (tgt := 1171) C d_law_1156 (by decide) (fun _ => hend _ _ _) (fun h0 => ?_)
  have hec0 : ec = 0 := (nI_eq (by omega) (by decide)).mp (show nI ec = nI 0 from h0)
  have hf2 := hfn hec0
  refine vs_aload_n C rfl d_law_1159 ?_
  refine vs_iconst (v := 0) C (by decide) d_law_1160 ?_
  refine vs_laldN (i := 0) C d_law_1161 rfl rfl (by decide) (by decide) ?_
  refine vs_iload C rfl d_law_1162 ?_
  refine vs_i2l C d_law_1164 ?_
  refine vs_lcmp C d_law_1165 ?_
  refine vs_if_eq (tgt := 1171) C d_law_1166 (by decide) (fun _ => hend _ _ _) (fun h => absurd (lg0.mpr hf2) h)
end LW
