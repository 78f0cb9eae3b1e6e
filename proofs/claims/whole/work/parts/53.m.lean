/-! the law: one call after the other -/
def mL : bf_M := (yL_law, cL_law, 4, some .boolean)
def PL : bf_P := fun r _ => r = some (.int 1)
/-- the script's ints -/
def scR (xs : Nat → Int32) (Ln : Nat) (J : bf_J) : Prop := (∀ (pc : Nat) (L : bf_L) (S : List Value) (G : bf_G) (i : Nat), decode cL_law pc = .ok (.iaload, 1) → i < Ln → J (pc + 1) L (.int (xs i) :: S) G → J pc L (.int (nI i) :: .ref 102 :: S) G) ∧ ∀ (pc : Nat) (L : bf_L) (S : List Value) (G : bf_G), decode cL_law pc = .ok (.arraylength, 1) → J (pc + 1) L (.int (nI Ln) :: S) G → J pc L (.ref 102 :: S) G
theorem lc_panel {e : Nat} (he : 20 ≤ e) {J : bf_J} (r : bf_All (bf_Cl e) 57 PL mL J) {xs : Nat → Int32} {Ln : Nat} (hs : scR xs Ln J) (hL : Ln ≤ 448) {i : Nat} (hi : i + 7 ≤ Ln) {D : bf_D} {P : bf_Pn} {S : bf_Sh} {Q : bf_Rd} {F : Nat} {T : Int32} (va : vA (P, S, Q, F, T)) (ca : cA D (P, S, Q, F, T)) (ma : mA D (P, S, Q, F, T)) (nx : ∀ (st : bf_St) (D : bf_D), vA st → cA D st → mA D st → J 1374 [some (.ref 102), some (.ref 0), some (.ref 37), some (.int (nI i))] [] (bf_MD D)) : J 192 [some (.ref 102), some (.ref 0), some (.ref 37), some (.int (nI i))] [] (bf_MD D) := by
  refine bf_aload_n r.1 dL_law_192 rfl ?_
  refine bf_aload_n r.1 dL_law_193 rfl ?_
  refine bf_iload_n r.1 dL_law_194 rfl ?_
  refine bf_iconst r.1 (v := nI 1) dL_law_195 rfl ?_
  refine na_add r dL_law_196  ?_
  refine hs.1 197 _ _ _ (i + 1) dL_law_197 (by omega) ?_
  refine bf_aload_n r.1 dL_law_198 rfl ?_
  refine bf_iload_n r.1 dL_law_199 rfl ?_
  refine bf_iconst r.1 (v := nI 2) dL_law_200 rfl ?_
  refine na_add r dL_law_201  ?_
  refine hs.1 202 _ _ _ (i + 2) dL_law_202 (by omega) ?_
  refine bf_aload_n r.1 dL_law_203 rfl ?_
  refine bf_iload_n r.1 dL_law_204 rfl ?_
  refine bf_iconst r.1 (v := nI 3) dL_law_205 rfl ?_
  refine na_add r dL_law_206  ?_
  refine hs.1 207 _ _ _ (i + 3) dL_law_207 (by omega) ?_
  refine bf_aload_n r.1 dL_law_208 rfl ?_
  refine bf_iload_n r.1 dL_law_209 rfl ?_
  refine bf_iconst r.1 (v := nI 4) dL_law_210 rfl ?_
  refine na_add r dL_law_211  ?_
  refine hs.1 212 _ _ _ (i + 4) dL_law_212 (by omega) ?_
  refine ce_v r (y2 := mX8_panel) dL_law_213 li_L_13 mv_X8_panel rfl (by decide) [.int (xs (i + 1)), .int (xs (i + 2)), .int (xs (i + 3)), .int (xs (i + 4))] [] rfl (Nat.le_of_ble_eq_true rfl) rfl (e_X8_panel (by omega) va ca (xs (i + 1)) (xs (i + 2)) (xs (i + 3)) (xs (i + 4))) (fun res D847 hq847 => ?_)
  obtain ⟨rfl, hca847, hf847⟩ := hq847
  show J 216 [some (.ref 102), some (.ref 0), some (.ref 37), some (.int (nI i))] [.int ((ox_panel P S Q F T (xs (i + 1)) (xs (i + 2)) (xs (i + 3)) (xs (i + 4))).1)] (bf_MD D847)
  have ma1 := mA_fr _ va ma hf847
  refine bf_aload_n r.1 dL_law_216 rfl ?_
  refine bf_aload_n r.1 dL_law_217 rfl ?_
  refine bf_iload_n r.1 dL_law_218 rfl ?_
  refine bf_iconst r.1 (v := nI 1) dL_law_219 rfl ?_
  refine na_add r dL_law_220  ?_
  refine hs.1 221 _ _ _ (i + 1) dL_law_221 (by omega) ?_
  refine bf_aload_n r.1 dL_law_222 rfl ?_
  refine bf_iload_n r.1 dL_law_223 rfl ?_
  refine bf_iconst r.1 (v := nI 2) dL_law_224 rfl ?_
  refine na_add r dL_law_225  ?_
  refine hs.1 226 _ _ _ (i + 2) dL_law_226 (by omega) ?_
  refine bf_aload_n r.1 dL_law_227 rfl ?_
  refine bf_iload_n r.1 dL_law_228 rfl ?_
  refine bf_iconst r.1 (v := nI 3) dL_law_229 rfl ?_
  refine na_add r dL_law_230  ?_
  refine hs.1 231 _ _ _ (i + 3) dL_law_231 (by omega) ?_
  refine bf_aload_n r.1 dL_law_232 rfl ?_
  refine bf_iload_n r.1 dL_law_233 rfl ?_
  refine bf_iconst r.1 (v := nI 4) dL_law_234 rfl ?_
  refine na_add r dL_law_235  ?_
  refine hs.1 236 _ _ _ (i + 4) dL_law_236 (by omega) ?_
  refine ce_v r (y2 := mX9_panel) dL_law_237 li_L_17 mv_X9_panel rfl (by decide) [.int (xs (i + 1)), .int (xs (i + 2)), .int (xs (i + 3)), .int (xs (i + 4))] [.int ((ox_panel P S Q F T (xs (i + 1)) (xs (i + 2)) (xs (i + 3)) (xs (i + 4))).1)] rfl (Nat.le_of_ble_eq_true rfl) rfl (e_X9_panel (by omega) va ma1 (xs (i + 1)) (xs (i + 2)) (xs (i + 3)) (xs (i + 4))) (fun res D848 hq848 => ?_)
  obtain ⟨rfl, hma848, hf848⟩ := hq848
  show J 240 [some (.ref 102), some (.ref 0), some (.ref 37), some (.int (nI i))] [.int ((ox_panel P S Q F T (xs (i + 1)) (xs (i + 2)) (xs (i + 3)) (xs (i + 4))).1), .int ((ox_panel P S Q F T (xs (i + 1)) (xs (i + 2)) (xs (i + 3)) (xs (i + 4))).1)] (bf_MD D848)
  have va2 := v_panel va (xs (i + 1)) (xs (i + 2)) (xs (i + 3)) (xs (i + 4))
  have ca2 := cA_fr _ va2 hca847 hf848
  refine bf_icmp_eq r.1 (tgt := 1374) dL_law_240 (by decide) (fun c849 => ?_) (fun c849 => ?_)
  · exact nx _ _ va2 ca2 hma848
  · exact absurd rfl c849
theorem lc_ofPlace {e : Nat} (he : 20 ≤ e) {J : bf_J} (r : bf_All (bf_Cl e) 57 PL mL J) {xs : Nat → Int32} {Ln : Nat} (hs : scR xs Ln J) (hL : Ln ≤ 448) {i : Nat} (hi : i + 7 ≤ Ln) {D : bf_D} {P : bf_Pn} {S : bf_Sh} {Q : bf_Rd} {F : Nat} {T : Int32} (va : vA (P, S, Q, F, T)) (ca : cA D (P, S, Q, F, T)) (ma : mA D (P, S, Q, F, T)) (nx : ∀ (st : bf_St) (D : bf_D), vA st → cA D st → mA D st → J 1374 [some (.ref 102), some (.ref 0), some (.ref 37), some (.int (nI i))] [] (bf_MD D)) : J 245 [some (.ref 102), some (.ref 0), some (.ref 37), some (.int (nI i))] [] (bf_MD D) := by
  refine bf_aload_n r.1 dL_law_245 rfl ?_
  refine bf_aload_n r.1 dL_law_246 rfl ?_
  refine bf_iload_n r.1 dL_law_247 rfl ?_
  refine bf_iconst r.1 (v := nI 1) dL_law_248 rfl ?_
  refine na_add r dL_law_249  ?_
  refine hs.1 250 _ _ _ (i + 1) dL_law_250 (by omega) ?_
  refine bf_aload_n r.1 dL_law_251 rfl ?_
  refine bf_iload_n r.1 dL_law_252 rfl ?_
  refine bf_iconst r.1 (v := nI 2) dL_law_253 rfl ?_
  refine na_add r dL_law_254  ?_
  refine hs.1 255 _ _ _ (i + 2) dL_law_255 (by omega) ?_
  refine cl_v r (y2 := mX8_ofPlace) dL_law_256 li_L_18 mv_X8_ofPlace rfl (by decide) [.int (xs (i + 1)), .int (xs (i + 2))] [] rfl (Nat.le_of_ble_eq_true rfl) rfl (c_X8_ofPlace (by omega) va.1 ca.1 (xs (i + 1)) (xs (i + 2))) ?_
  show J 259 [some (.ref 102), some (.ref 0), some (.ref 37), some (.int (nI i))] [.int (ox_ofPlace P (xs (i + 1)) (xs (i + 2)))] (bf_MD D)
  refine bf_aload_n r.1 dL_law_259 rfl ?_
  refine bf_aload_n r.1 dL_law_260 rfl ?_
  refine bf_iload_n r.1 dL_law_261 rfl ?_
  refine bf_iconst r.1 (v := nI 1) dL_law_262 rfl ?_
  refine na_add r dL_law_263  ?_
  refine hs.1 264 _ _ _ (i + 1) dL_law_264 (by omega) ?_
  refine bf_aload_n r.1 dL_law_265 rfl ?_
  refine bf_iload_n r.1 dL_law_266 rfl ?_
  refine bf_iconst r.1 (v := nI 2) dL_law_267 rfl ?_
  refine na_add r dL_law_268  ?_
  refine hs.1 269 _ _ _ (i + 2) dL_law_269 (by omega) ?_
  refine cl_v r (y2 := mX9_ofPlace) dL_law_270 li_L_22 mv_X9_ofPlace rfl (by decide) [.int (xs (i + 1)), .int (xs (i + 2))] [.int (ox_ofPlace P (xs (i + 1)) (xs (i + 2)))] rfl (Nat.le_of_ble_eq_true rfl) rfl (c_X9_ofPlace (by omega) va.1 ma.1 (xs (i + 1)) (xs (i + 2))) ?_
  show J 273 [some (.ref 102), some (.ref 0), some (.ref 37), some (.int (nI i))] [.int (ox_ofPlace P (xs (i + 1)) (xs (i + 2))), .int (ox_ofPlace P (xs (i + 1)) (xs (i + 2)))] (bf_MD D)
  refine bf_icmp_eq r.1 (tgt := 1374) dL_law_273 (by decide) (fun c850 => ?_) (fun c850 => ?_)
  · exact nx _ _ va ca ma
  · exact absurd rfl c850
theorem lc_wear {e : Nat} (he : 20 ≤ e) {J : bf_J} (r : bf_All (bf_Cl e) 57 PL mL J) {xs : Nat → Int32} {Ln : Nat} (hs : scR xs Ln J) (hL : Ln ≤ 448) {i : Nat} (hi : i + 7 ≤ Ln) {D : bf_D} {P : bf_Pn} {S : bf_Sh} {Q : bf_Rd} {F : Nat} {T : Int32} (va : vA (P, S, Q, F, T)) (ca : cA D (P, S, Q, F, T)) (ma : mA D (P, S, Q, F, T)) (nx : ∀ (st : bf_St) (D : bf_D), vA st → cA D st → mA D st → J 1374 [some (.ref 102), some (.ref 0), some (.ref 37), some (.int (nI i))] [] (bf_MD D)) : J 278 [some (.ref 102), some (.ref 0), some (.ref 37), some (.int (nI i))] [] (bf_MD D) := by
  refine bf_aload_n r.1 dL_law_278 rfl ?_
  refine bf_aload_n r.1 dL_law_279 rfl ?_
  refine bf_iload_n r.1 dL_law_280 rfl ?_
  refine bf_iconst r.1 (v := nI 1) dL_law_281 rfl ?_
  refine na_add r dL_law_282  ?_
  refine hs.1 283 _ _ _ (i + 1) dL_law_283 (by omega) ?_
  refine bf_aload_n r.1 dL_law_284 rfl ?_
  refine bf_iload_n r.1 dL_law_285 rfl ?_
  refine bf_iconst r.1 (v := nI 2) dL_law_286 rfl ?_
  refine na_add r dL_law_287  ?_
  refine hs.1 288 _ _ _ (i + 2) dL_law_288 (by omega) ?_
  refine cl_v r (y2 := mX8_wear) dL_law_289 li_L_23 mv_X8_wear rfl (by decide) [.int (xs (i + 1)), .int (xs (i + 2))] [] rfl (Nat.le_of_ble_eq_true rfl) rfl (c_X8_wear (by omega) va.1 ca.1 (xs (i + 1)) (xs (i + 2))) ?_
  show J 292 [some (.ref 102), some (.ref 0), some (.ref 37), some (.int (nI i))] [.int (ox_wear P (xs (i + 1)) (xs (i + 2)))] (bf_MD D)
  refine bf_aload_n r.1 dL_law_292 rfl ?_
  refine bf_aload_n r.1 dL_law_293 rfl ?_
  refine bf_iload_n r.1 dL_law_294 rfl ?_
  refine bf_iconst r.1 (v := nI 1) dL_law_295 rfl ?_
  refine na_add r dL_law_296  ?_
  refine hs.1 297 _ _ _ (i + 1) dL_law_297 (by omega) ?_
  refine bf_aload_n r.1 dL_law_298 rfl ?_
  refine bf_iload_n r.1 dL_law_299 rfl ?_
  refine bf_iconst r.1 (v := nI 2) dL_law_300 rfl ?_
  refine na_add r dL_law_301  ?_
  refine hs.1 302 _ _ _ (i + 2) dL_law_302 (by omega) ?_
  refine cl_v r (y2 := mX9_wear) dL_law_303 li_L_26 mv_X9_wear rfl (by decide) [.int (xs (i + 1)), .int (xs (i + 2))] [.int (ox_wear P (xs (i + 1)) (xs (i + 2)))] rfl (Nat.le_of_ble_eq_true rfl) rfl (c_X9_wear (by omega) va.1 ma.1 (xs (i + 1)) (xs (i + 2))) ?_
  show J 306 [some (.ref 102), some (.ref 0), some (.ref 37), some (.int (nI i))] [.int (ox_wear P (xs (i + 1)) (xs (i + 2))), .int (ox_wear P (xs (i + 1)) (xs (i + 2)))] (bf_MD D)
  refine bf_icmp_eq r.1 (tgt := 1374) dL_law_306 (by decide) (fun c851 => ?_) (fun c851 => ?_)
  · exact nx _ _ va ca ma
  · exact absurd rfl c851
theorem lc_kill {e : Nat} (he : 20 ≤ e) {J : bf_J} (r : bf_All (bf_Cl e) 57 PL mL J) {xs : Nat → Int32} {Ln : Nat} (hs : scR xs Ln J) (hL : Ln ≤ 448) {i : Nat} (hi : i + 7 ≤ Ln) {D : bf_D} {P : bf_Pn} {S : bf_Sh} {Q : bf_Rd} {F : Nat} {T : Int32} (va : vA (P, S, Q, F, T)) (ca : cA D (P, S, Q, F, T)) (ma : mA D (P, S, Q, F, T)) (nx : ∀ (st : bf_St) (D : bf_D), vA st → cA D st → mA D st → J 1374 [some (.ref 102), some (.ref 0), some (.ref 37), some (.int (nI i))] [] (bf_MD D)) : J 311 [some (.ref 102), some (.ref 0), some (.ref 37), some (.int (nI i))] [] (bf_MD D) := by
  refine bf_aload_n r.1 dL_law_311 rfl ?_
  refine bf_aload_n r.1 dL_law_312 rfl ?_
  refine bf_iload_n r.1 dL_law_313 rfl ?_
  refine bf_iconst r.1 (v := nI 1) dL_law_314 rfl ?_
  refine na_add r dL_law_315  ?_
  refine hs.1 316 _ _ _ (i + 1) dL_law_316 (by omega) ?_
  refine bf_aload_n r.1 dL_law_317 rfl ?_
  refine bf_iload_n r.1 dL_law_318 rfl ?_
  refine bf_iconst r.1 (v := nI 2) dL_law_319 rfl ?_
  refine na_add r dL_law_320  ?_
  refine hs.1 321 _ _ _ (i + 2) dL_law_321 (by omega) ?_
  refine ce_v r (y2 := mX8_kill) dL_law_322 li_L_27 mv_X8_kill rfl (by decide) [.int (xs (i + 1)), .int (xs (i + 2))] [] rfl (Nat.le_of_ble_eq_true rfl) rfl (e_X8_kill (by omega) va ca (xs (i + 1)) (xs (i + 2))) (fun res D852 hq852 => ?_)
  obtain ⟨rfl, hca852, hf852⟩ := hq852
  show J 325 [some (.ref 102), some (.ref 0), some (.ref 37), some (.int (nI i))] [.int ((ox_kill P S Q F T (xs (i + 1)) (xs (i + 2))).1)] (bf_MD D852)
  have ma1 := mA_fr _ va ma hf852
  refine bf_aload_n r.1 dL_law_325 rfl ?_
  refine bf_aload_n r.1 dL_law_326 rfl ?_
  refine bf_iload_n r.1 dL_law_327 rfl ?_
  refine bf_iconst r.1 (v := nI 1) dL_law_328 rfl ?_
  refine na_add r dL_law_329  ?_
  refine hs.1 330 _ _ _ (i + 1) dL_law_330 (by omega) ?_
  refine bf_aload_n r.1 dL_law_331 rfl ?_
  refine bf_iload_n r.1 dL_law_332 rfl ?_
  refine bf_iconst r.1 (v := nI 2) dL_law_333 rfl ?_
  refine na_add r dL_law_334  ?_
  refine hs.1 335 _ _ _ (i + 2) dL_law_335 (by omega) ?_
  refine ce_v r (y2 := mX9_kill) dL_law_336 li_L_30 mv_X9_kill rfl (by decide) [.int (xs (i + 1)), .int (xs (i + 2))] [.int ((ox_kill P S Q F T (xs (i + 1)) (xs (i + 2))).1)] rfl (Nat.le_of_ble_eq_true rfl) rfl (e_X9_kill (by omega) va ma1 (xs (i + 1)) (xs (i + 2))) (fun res D853 hq853 => ?_)
  obtain ⟨rfl, hma853, hf853⟩ := hq853
  show J 339 [some (.ref 102), some (.ref 0), some (.ref 37), some (.int (nI i))] [.int ((ox_kill P S Q F T (xs (i + 1)) (xs (i + 2))).1), .int ((ox_kill P S Q F T (xs (i + 1)) (xs (i + 2))).1)] (bf_MD D853)
  have va2 := v_kill va (xs (i + 1)) (xs (i + 2))
  have ca2 := cA_fr _ va2 hca852 hf853
  refine bf_icmp_eq r.1 (tgt := 1374) dL_law_339 (by decide) (fun c854 => ?_) (fun c854 => ?_)
  · exact nx _ _ va2 ca2 hma853
  · exact absurd rfl c854
theorem lc_jam {e : Nat} (he : 20 ≤ e) {J : bf_J} (r : bf_All (bf_Cl e) 57 PL mL J) {xs : Nat → Int32} {Ln : Nat} (hs : scR xs Ln J) (hL : Ln ≤ 448) {i : Nat} (hi : i + 7 ≤ Ln) {D : bf_D} {P : bf_Pn} {S : bf_Sh} {Q : bf_Rd} {F : Nat} {T : Int32} (va : vA (P, S, Q, F, T)) (ca : cA D (P, S, Q, F, T)) (ma : mA D (P, S, Q, F, T)) (nx : ∀ (st : bf_St) (D : bf_D), vA st → cA D st → mA D st → J 1374 [some (.ref 102), some (.ref 0), some (.ref 37), some (.int (nI i))] [] (bf_MD D)) : J 344 [some (.ref 102), some (.ref 0), some (.ref 37), some (.int (nI i))] [] (bf_MD D) := by
  refine bf_aload_n r.1 dL_law_344 rfl ?_
  refine bf_aload_n r.1 dL_law_345 rfl ?_
  refine bf_iload_n r.1 dL_law_346 rfl ?_
  refine bf_iconst r.1 (v := nI 1) dL_law_347 rfl ?_
  refine na_add r dL_law_348  ?_
  refine hs.1 349 _ _ _ (i + 1) dL_law_349 (by omega) ?_
  refine bf_aload_n r.1 dL_law_350 rfl ?_
  refine bf_iload_n r.1 dL_law_351 rfl ?_
  refine bf_iconst r.1 (v := nI 2) dL_law_352 rfl ?_
  refine na_add r dL_law_353  ?_
  refine hs.1 354 _ _ _ (i + 2) dL_law_354 (by omega) ?_
  refine ce_v r (y2 := mX8_jam) dL_law_355 li_L_31 mv_X8_jam rfl (by decide) [.int (xs (i + 1)), .int (xs (i + 2))] [] rfl (Nat.le_of_ble_eq_true rfl) rfl (e_X8_jam (by omega) va ca (xs (i + 1)) (xs (i + 2))) (fun res D855 hq855 => ?_)
  obtain ⟨rfl, hca855, hf855⟩ := hq855
  show J 358 [some (.ref 102), some (.ref 0), some (.ref 37), some (.int (nI i))] [.int ((ox_jam P S Q F T (xs (i + 1)) (xs (i + 2))).1)] (bf_MD D855)
  have ma1 := mA_fr _ va ma hf855
  refine bf_aload_n r.1 dL_law_358 rfl ?_
  refine bf_aload_n r.1 dL_law_359 rfl ?_
  refine bf_iload_n r.1 dL_law_360 rfl ?_
  refine bf_iconst r.1 (v := nI 1) dL_law_361 rfl ?_
  refine na_add r dL_law_362  ?_
  refine hs.1 363 _ _ _ (i + 1) dL_law_363 (by omega) ?_
  refine bf_aload_n r.1 dL_law_364 rfl ?_
  refine bf_iload_n r.1 dL_law_365 rfl ?_
  refine bf_iconst r.1 (v := nI 2) dL_law_366 rfl ?_
  refine na_add r dL_law_367  ?_
  refine hs.1 368 _ _ _ (i + 2) dL_law_368 (by omega) ?_
  refine ce_v r (y2 := mX9_jam) dL_law_369 li_L_34 mv_X9_jam rfl (by decide) [.int (xs (i + 1)), .int (xs (i + 2))] [.int ((ox_jam P S Q F T (xs (i + 1)) (xs (i + 2))).1)] rfl (Nat.le_of_ble_eq_true rfl) rfl (e_X9_jam (by omega) va ma1 (xs (i + 1)) (xs (i + 2))) (fun res D856 hq856 => ?_)
  obtain ⟨rfl, hma856, hf856⟩ := hq856
  show J 372 [some (.ref 102), some (.ref 0), some (.ref 37), some (.int (nI i))] [.int ((ox_jam P S Q F T (xs (i + 1)) (xs (i + 2))).1), .int ((ox_jam P S Q F T (xs (i + 1)) (xs (i + 2))).1)] (bf_MD D856)
  have va2 := v_jam va (xs (i + 1)) (xs (i + 2))
  have ca2 := cA_fr _ va2 hca855 hf856
  refine bf_icmp_eq r.1 (tgt := 1374) dL_law_372 (by decide) (fun c857 => ?_) (fun c857 => ?_)
  · exact nx _ _ va2 ca2 hma856
  · exact absurd rfl c857
theorem lc_burns {e : Nat} (he : 20 ≤ e) {J : bf_J} (r : bf_All (bf_Cl e) 57 PL mL J) {xs : Nat → Int32} {Ln : Nat} (hs : scR xs Ln J) (hL : Ln ≤ 448) {i : Nat} (hi : i + 7 ≤ Ln) {D : bf_D} {P : bf_Pn} {S : bf_Sh} {Q : bf_Rd} {F : Nat} {T : Int32} (va : vA (P, S, Q, F, T)) (ca : cA D (P, S, Q, F, T)) (ma : mA D (P, S, Q, F, T)) (nx : ∀ (st : bf_St) (D : bf_D), vA st → cA D st → mA D st → J 1374 [some (.ref 102), some (.ref 0), some (.ref 37), some (.int (nI i))] [] (bf_MD D)) : J 377 [some (.ref 102), some (.ref 0), some (.ref 37), some (.int (nI i))] [] (bf_MD D) := by
  refine bf_aload_n r.1 dL_law_377 rfl ?_
  refine bf_aload_n r.1 dL_law_378 rfl ?_
  refine bf_iload_n r.1 dL_law_379 rfl ?_
  refine bf_iconst r.1 (v := nI 1) dL_law_380 rfl ?_
  refine na_add r dL_law_381  ?_
  refine hs.1 382 _ _ _ (i + 1) dL_law_382 (by omega) ?_
  refine bf_aload_n r.1 dL_law_383 rfl ?_
  refine bf_iload_n r.1 dL_law_384 rfl ?_
  refine bf_iconst r.1 (v := nI 2) dL_law_385 rfl ?_
  refine na_add r dL_law_386  ?_
  refine hs.1 387 _ _ _ (i + 2) dL_law_387 (by omega) ?_
  refine cl_v r (y2 := mX8_burns) dL_law_388 li_L_35 mv_X8_burns rfl (by decide) [.int (xs (i + 1)), .int (xs (i + 2))] [] rfl (Nat.le_of_ble_eq_true rfl) rfl (c_X8_burns (by omega) va.1 ca.1 (xs (i + 1)) (xs (i + 2))) ?_
  show J 391 [some (.ref 102), some (.ref 0), some (.ref 37), some (.int (nI i))] [.int (ox_burns P (xs (i + 1)) (xs (i + 2)))] (bf_MD D)
  refine bf_aload_n r.1 dL_law_391 rfl ?_
  refine bf_aload_n r.1 dL_law_392 rfl ?_
  refine bf_iload_n r.1 dL_law_393 rfl ?_
  refine bf_iconst r.1 (v := nI 1) dL_law_394 rfl ?_
  refine na_add r dL_law_395  ?_
  refine hs.1 396 _ _ _ (i + 1) dL_law_396 (by omega) ?_
  refine bf_aload_n r.1 dL_law_397 rfl ?_
  refine bf_iload_n r.1 dL_law_398 rfl ?_
  refine bf_iconst r.1 (v := nI 2) dL_law_399 rfl ?_
  refine na_add r dL_law_400  ?_
  refine hs.1 401 _ _ _ (i + 2) dL_law_401 (by omega) ?_
  refine cl_v r (y2 := mX9_burns) dL_law_402 li_L_38 mv_X9_burns rfl (by decide) [.int (xs (i + 1)), .int (xs (i + 2))] [.int (ox_burns P (xs (i + 1)) (xs (i + 2)))] rfl (Nat.le_of_ble_eq_true rfl) rfl (c_X9_burns (by omega) va.1 ma.1 (xs (i + 1)) (xs (i + 2))) ?_
  show J 405 [some (.ref 102), some (.ref 0), some (.ref 37), some (.int (nI i))] [.int (ox_burns P (xs (i + 1)) (xs (i + 2))), .int (ox_burns P (xs (i + 1)) (xs (i + 2)))] (bf_MD D)
  refine bf_icmp_eq r.1 (tgt := 1374) dL_law_405 (by decide) (fun c858 => ?_) (fun c858 => ?_)
  · exact nx _ _ va ca ma
  · exact absurd rfl c858
theorem lc_digits {e : Nat} (he : 20 ≤ e) {J : bf_J} (r : bf_All (bf_Cl e) 57 PL mL J) {xs : Nat → Int32} {Ln : Nat} (hs : scR xs Ln J) (hL : Ln ≤ 448) {i : Nat} (hi : i + 7 ≤ Ln) {D : bf_D} {P : bf_Pn} {S : bf_Sh} {Q : bf_Rd} {F : Nat} {T : Int32} (va : vA (P, S, Q, F, T)) (ca : cA D (P, S, Q, F, T)) (ma : mA D (P, S, Q, F, T)) (nx : ∀ (st : bf_St) (D : bf_D), vA st → cA D st → mA D st → J 1374 [some (.ref 102), some (.ref 0), some (.ref 37), some (.int (nI i))] [] (bf_MD D)) : J 410 [some (.ref 102), some (.ref 0), some (.ref 37), some (.int (nI i))] [] (bf_MD D) := by
  refine bf_aload_n r.1 dL_law_410 rfl ?_
  refine bf_aload_n r.1 dL_law_411 rfl ?_
  refine bf_iload_n r.1 dL_law_412 rfl ?_
  refine bf_iconst r.1 (v := nI 1) dL_law_413 rfl ?_
  refine na_add r dL_law_414  ?_
  refine hs.1 415 _ _ _ (i + 1) dL_law_415 (by omega) ?_
  refine bf_aload_n r.1 dL_law_416 rfl ?_
  refine bf_iload_n r.1 dL_law_417 rfl ?_
  refine bf_iconst r.1 (v := nI 2) dL_law_418 rfl ?_
  refine na_add r dL_law_419  ?_
  refine hs.1 420 _ _ _ (i + 2) dL_law_420 (by omega) ?_
  refine cl_v r (y2 := mX8_digits) dL_law_421 li_L_39 mv_X8_digits rfl (by decide) [.int (xs (i + 1)), .int (xs (i + 2))] [] rfl (Nat.le_of_ble_eq_true rfl) rfl (c_X8_digits (by omega) va.1 ca.1 (xs (i + 1)) (xs (i + 2))) ?_
  show J 424 [some (.ref 102), some (.ref 0), some (.ref 37), some (.int (nI i))] [.int (ox_digits P (xs (i + 1)) (xs (i + 2)))] (bf_MD D)
  refine bf_aload_n r.1 dL_law_424 rfl ?_
  refine bf_aload_n r.1 dL_law_425 rfl ?_
  refine bf_iload_n r.1 dL_law_426 rfl ?_
  refine bf_iconst r.1 (v := nI 1) dL_law_427 rfl ?_
  refine na_add r dL_law_428  ?_
  refine hs.1 429 _ _ _ (i + 1) dL_law_429 (by omega) ?_
  refine bf_aload_n r.1 dL_law_430 rfl ?_
  refine bf_iload_n r.1 dL_law_431 rfl ?_
  refine bf_iconst r.1 (v := nI 2) dL_law_432 rfl ?_
  refine na_add r dL_law_433  ?_
  refine hs.1 434 _ _ _ (i + 2) dL_law_434 (by omega) ?_
  refine cl_v r (y2 := mX9_digits) dL_law_435 li_L_42 mv_X9_digits rfl (by decide) [.int (xs (i + 1)), .int (xs (i + 2))] [.int (ox_digits P (xs (i + 1)) (xs (i + 2)))] rfl (Nat.le_of_ble_eq_true rfl) rfl (c_X9_digits (by omega) va.1 ma.1 (xs (i + 1)) (xs (i + 2))) ?_
  show J 438 [some (.ref 102), some (.ref 0), some (.ref 37), some (.int (nI i))] [.int (ox_digits P (xs (i + 1)) (xs (i + 2))), .int (ox_digits P (xs (i + 1)) (xs (i + 2)))] (bf_MD D)
  refine bf_icmp_eq r.1 (tgt := 1374) dL_law_438 (by decide) (fun c859 => ?_) (fun c859 => ?_)
  · exact nx _ _ va ca ma
  · exact absurd rfl c859
theorem lc_bars {e : Nat} (he : 20 ≤ e) {J : bf_J} (r : bf_All (bf_Cl e) 57 PL mL J) {xs : Nat → Int32} {Ln : Nat} (hs : scR xs Ln J) (hL : Ln ≤ 448) {i : Nat} (hi : i + 7 ≤ Ln) {D : bf_D} {P : bf_Pn} {S : bf_Sh} {Q : bf_Rd} {F : Nat} {T : Int32} (va : vA (P, S, Q, F, T)) (ca : cA D (P, S, Q, F, T)) (ma : mA D (P, S, Q, F, T)) (nx : ∀ (st : bf_St) (D : bf_D), vA st → cA D st → mA D st → J 1374 [some (.ref 102), some (.ref 0), some (.ref 37), some (.int (nI i))] [] (bf_MD D)) : J 443 [some (.ref 102), some (.ref 0), some (.ref 37), some (.int (nI i))] [] (bf_MD D) := by
  refine bf_aload_n r.1 dL_law_443 rfl ?_
  refine bf_aload_n r.1 dL_law_444 rfl ?_
  refine bf_iload_n r.1 dL_law_445 rfl ?_
  refine bf_iconst r.1 (v := nI 1) dL_law_446 rfl ?_
  refine na_add r dL_law_447  ?_
  refine hs.1 448 _ _ _ (i + 1) dL_law_448 (by omega) ?_
  refine cl_v r (y2 := mX8_bars) dL_law_449 li_L_43 mv_X8_bars rfl (by decide) [.int (xs (i + 1))] [] rfl (Nat.le_of_ble_eq_true rfl) rfl (c_X8_bars (by omega) va.1 ca.1 (xs (i + 1))) ?_
  show J 452 [some (.ref 102), some (.ref 0), some (.ref 37), some (.int (nI i))] [.int (ox_bars P (xs (i + 1)))] (bf_MD D)
  refine bf_aload_n r.1 dL_law_452 rfl ?_
  refine bf_aload_n r.1 dL_law_453 rfl ?_
  refine bf_iload_n r.1 dL_law_454 rfl ?_
  refine bf_iconst r.1 (v := nI 1) dL_law_455 rfl ?_
  refine na_add r dL_law_456  ?_
  refine hs.1 457 _ _ _ (i + 1) dL_law_457 (by omega) ?_
  refine cl_v r (y2 := mX9_bars) dL_law_458 li_L_47 mv_X9_bars rfl (by decide) [.int (xs (i + 1))] [.int (ox_bars P (xs (i + 1)))] rfl (Nat.le_of_ble_eq_true rfl) rfl (c_X9_bars (by omega) va.1 ma.1 (xs (i + 1))) ?_
  show J 461 [some (.ref 102), some (.ref 0), some (.ref 37), some (.int (nI i))] [.int (ox_bars P (xs (i + 1))), .int (ox_bars P (xs (i + 1)))] (bf_MD D)
  refine bf_icmp_eq r.1 (tgt := 1374) dL_law_461 (by decide) (fun c860 => ?_) (fun c860 => ?_)
  · exact nx _ _ va ca ma
  · exact absurd rfl c860
theorem lc_alike {e : Nat} (he : 20 ≤ e) {J : bf_J} (r : bf_All (bf_Cl e) 57 PL mL J) {xs : Nat → Int32} {Ln : Nat} (hs : scR xs Ln J) (hL : Ln ≤ 448) {i : Nat} (hi : i + 7 ≤ Ln) {D : bf_D} {P : bf_Pn} {S : bf_Sh} {Q : bf_Rd} {F : Nat} {T : Int32} (va : vA (P, S, Q, F, T)) (ca : cA D (P, S, Q, F, T)) (ma : mA D (P, S, Q, F, T)) (nx : ∀ (st : bf_St) (D : bf_D), vA st → cA D st → mA D st → J 1374 [some (.ref 102), some (.ref 0), some (.ref 37), some (.int (nI i))] [] (bf_MD D)) : J 466 [some (.ref 102), some (.ref 0), some (.ref 37), some (.int (nI i))] [] (bf_MD D) := by
  refine bf_aload_n r.1 dL_law_466 rfl ?_
  refine bf_aload_n r.1 dL_law_467 rfl ?_
  refine bf_iload_n r.1 dL_law_468 rfl ?_
  refine bf_iconst r.1 (v := nI 1) dL_law_469 rfl ?_
  refine na_add r dL_law_470  ?_
  refine hs.1 471 _ _ _ (i + 1) dL_law_471 (by omega) ?_
  refine cl_v r (y2 := mX8_alike) dL_law_472 li_L_48 mv_X8_alike rfl (by decide) [.int (xs (i + 1))] [] rfl (Nat.le_of_ble_eq_true rfl) rfl (c_X8_alike (by omega) va.1 ca.1 (xs (i + 1))) ?_
  show J 475 [some (.ref 102), some (.ref 0), some (.ref 37), some (.int (nI i))] [.int (ox_alike P (xs (i + 1)))] (bf_MD D)
  refine bf_aload_n r.1 dL_law_475 rfl ?_
  refine bf_aload_n r.1 dL_law_476 rfl ?_
  refine bf_iload_n r.1 dL_law_477 rfl ?_
  refine bf_iconst r.1 (v := nI 1) dL_law_478 rfl ?_
  refine na_add r dL_law_479  ?_
  refine hs.1 480 _ _ _ (i + 1) dL_law_480 (by omega) ?_
  refine cl_v r (y2 := mX9_alike) dL_law_481 li_L_51 mv_X9_alike rfl (by decide) [.int (xs (i + 1))] [.int (ox_alike P (xs (i + 1)))] rfl (Nat.le_of_ble_eq_true rfl) rfl (c_X9_alike (by omega) va.1 ma.1 (xs (i + 1))) ?_
  show J 484 [some (.ref 102), some (.ref 0), some (.ref 37), some (.int (nI i))] [.int (ox_alike P (xs (i + 1))), .int (ox_alike P (xs (i + 1)))] (bf_MD D)
  refine bf_icmp_eq r.1 (tgt := 1374) dL_law_484 (by decide) (fun c861 => ?_) (fun c861 => ?_)
  · exact nx _ _ va ca ma
  · exact absurd rfl c861
theorem lc_which {e : Nat} (he : 20 ≤ e) {J : bf_J} (r : bf_All (bf_Cl e) 57 PL mL J) {xs : Nat → Int32} {Ln : Nat} (hs : scR xs Ln J) (hL : Ln ≤ 448) {i : Nat} (hi : i + 7 ≤ Ln) {D : bf_D} {P : bf_Pn} {S : bf_Sh} {Q : bf_Rd} {F : Nat} {T : Int32} (va : vA (P, S, Q, F, T)) (ca : cA D (P, S, Q, F, T)) (ma : mA D (P, S, Q, F, T)) (nx : ∀ (st : bf_St) (D : bf_D), vA st → cA D st → mA D st → J 1374 [some (.ref 102), some (.ref 0), some (.ref 37), some (.int (nI i))] [] (bf_MD D)) : J 489 [some (.ref 102), some (.ref 0), some (.ref 37), some (.int (nI i))] [] (bf_MD D) := by
  refine bf_aload_n r.1 dL_law_489 rfl ?_
  refine bf_aload_n r.1 dL_law_490 rfl ?_
  refine bf_iload_n r.1 dL_law_491 rfl ?_
  refine bf_iconst r.1 (v := nI 1) dL_law_492 rfl ?_
  refine na_add r dL_law_493  ?_
  refine hs.1 494 _ _ _ (i + 1) dL_law_494 (by omega) ?_
  refine bf_aload_n r.1 dL_law_495 rfl ?_
  refine bf_iload_n r.1 dL_law_496 rfl ?_
  refine bf_iconst r.1 (v := nI 2) dL_law_497 rfl ?_
  refine na_add r dL_law_498  ?_
  refine hs.1 499 _ _ _ (i + 2) dL_law_499 (by omega) ?_
  refine cl_v r (y2 := mX8_which) dL_law_500 li_L_52 mv_X8_which rfl (by decide) [.int (xs (i + 1)), .int (xs (i + 2))] [] rfl (Nat.le_of_ble_eq_true rfl) rfl (c_X8_which (by omega) va.1 ca.1 (xs (i + 1)) (xs (i + 2))) ?_
  show J 503 [some (.ref 102), some (.ref 0), some (.ref 37), some (.int (nI i))] [.int (ox_which P (xs (i + 1)) (xs (i + 2)))] (bf_MD D)
  refine bf_aload_n r.1 dL_law_503 rfl ?_
  refine bf_aload_n r.1 dL_law_504 rfl ?_
  refine bf_iload_n r.1 dL_law_505 rfl ?_
  refine bf_iconst r.1 (v := nI 1) dL_law_506 rfl ?_
  refine na_add r dL_law_507  ?_
  refine hs.1 508 _ _ _ (i + 1) dL_law_508 (by omega) ?_
  refine bf_aload_n r.1 dL_law_509 rfl ?_
  refine bf_iload_n r.1 dL_law_510 rfl ?_
  refine bf_iconst r.1 (v := nI 2) dL_law_511 rfl ?_
  refine na_add r dL_law_512  ?_
  refine hs.1 513 _ _ _ (i + 2) dL_law_513 (by omega) ?_
  refine cl_v r (y2 := mX9_which) dL_law_514 li_L_55 mv_X9_which rfl (by decide) [.int (xs (i + 1)), .int (xs (i + 2))] [.int (ox_which P (xs (i + 1)) (xs (i + 2)))] rfl (Nat.le_of_ble_eq_true rfl) rfl (c_X9_which (by omega) va.1 ma.1 (xs (i + 1)) (xs (i + 2))) ?_
  show J 517 [some (.ref 102), some (.ref 0), some (.ref 37), some (.int (nI i))] [.int (ox_which P (xs (i + 1)) (xs (i + 2))), .int (ox_which P (xs (i + 1)) (xs (i + 2)))] (bf_MD D)
  refine bf_icmp_eq r.1 (tgt := 1374) dL_law_517 (by decide) (fun c862 => ?_) (fun c862 => ?_)
  · exact nx _ _ va ca ma
  · exact absurd rfl c862
theorem lc_flips {e : Nat} (he : 20 ≤ e) {J : bf_J} (r : bf_All (bf_Cl e) 57 PL mL J) {xs : Nat → Int32} {Ln : Nat} (hs : scR xs Ln J) (hL : Ln ≤ 448) {i : Nat} (hi : i + 7 ≤ Ln) {D : bf_D} {P : bf_Pn} {S : bf_Sh} {Q : bf_Rd} {F : Nat} {T : Int32} (va : vA (P, S, Q, F, T)) (ca : cA D (P, S, Q, F, T)) (ma : mA D (P, S, Q, F, T)) (nx : ∀ (st : bf_St) (D : bf_D), vA st → cA D st → mA D st → J 1374 [some (.ref 102), some (.ref 0), some (.ref 37), some (.int (nI i))] [] (bf_MD D)) : J 522 [some (.ref 102), some (.ref 0), some (.ref 37), some (.int (nI i))] [] (bf_MD D) := by
  refine bf_aload_n r.1 dL_law_522 rfl ?_
  refine bf_aload_n r.1 dL_law_523 rfl ?_
  refine bf_iload_n r.1 dL_law_524 rfl ?_
  refine bf_iconst r.1 (v := nI 1) dL_law_525 rfl ?_
  refine na_add r dL_law_526  ?_
  refine hs.1 527 _ _ _ (i + 1) dL_law_527 (by omega) ?_
  refine bf_aload_n r.1 dL_law_528 rfl ?_
  refine bf_iload_n r.1 dL_law_529 rfl ?_
  refine bf_iconst r.1 (v := nI 2) dL_law_530 rfl ?_
  refine na_add r dL_law_531  ?_
  refine hs.1 532 _ _ _ (i + 2) dL_law_532 (by omega) ?_
  refine cl_v r (y2 := mX8_flips) dL_law_533 li_L_56 mv_X8_flips rfl (by decide) [.int (xs (i + 1)), .int (xs (i + 2))] [] rfl (Nat.le_of_ble_eq_true rfl) rfl (c_X8_flips (by omega) va.1 ca.1 (xs (i + 1)) (xs (i + 2))) ?_
  show J 536 [some (.ref 102), some (.ref 0), some (.ref 37), some (.int (nI i))] [.int (ox_flips P (xs (i + 1)) (xs (i + 2)))] (bf_MD D)
  refine bf_aload_n r.1 dL_law_536 rfl ?_
  refine bf_aload_n r.1 dL_law_537 rfl ?_
  refine bf_iload_n r.1 dL_law_538 rfl ?_
  refine bf_iconst r.1 (v := nI 1) dL_law_539 rfl ?_
  refine na_add r dL_law_540  ?_
  refine hs.1 541 _ _ _ (i + 1) dL_law_541 (by omega) ?_
  refine bf_aload_n r.1 dL_law_542 rfl ?_
  refine bf_iload_n r.1 dL_law_543 rfl ?_
  refine bf_iconst r.1 (v := nI 2) dL_law_544 rfl ?_
  refine na_add r dL_law_545  ?_
  refine hs.1 546 _ _ _ (i + 2) dL_law_546 (by omega) ?_
  refine cl_v r (y2 := mX9_flips) dL_law_547 li_L_59 mv_X9_flips rfl (by decide) [.int (xs (i + 1)), .int (xs (i + 2))] [.int (ox_flips P (xs (i + 1)) (xs (i + 2)))] rfl (Nat.le_of_ble_eq_true rfl) rfl (c_X9_flips (by omega) va.1 ma.1 (xs (i + 1)) (xs (i + 2))) ?_
  show J 550 [some (.ref 102), some (.ref 0), some (.ref 37), some (.int (nI i))] [.int (ox_flips P (xs (i + 1)) (xs (i + 2))), .int (ox_flips P (xs (i + 1)) (xs (i + 2)))] (bf_MD D)
  refine bf_icmp_eq r.1 (tgt := 1374) dL_law_550 (by decide) (fun c863 => ?_) (fun c863 => ?_)
  · exact nx _ _ va ca ma
  · exact absurd rfl c863
theorem lc_counting {e : Nat} (he : 20 ≤ e) {J : bf_J} (r : bf_All (bf_Cl e) 57 PL mL J) {xs : Nat → Int32} {Ln : Nat} (hs : scR xs Ln J) (hL : Ln ≤ 448) {i : Nat} (hi : i + 7 ≤ Ln) {D : bf_D} {P : bf_Pn} {S : bf_Sh} {Q : bf_Rd} {F : Nat} {T : Int32} (va : vA (P, S, Q, F, T)) (ca : cA D (P, S, Q, F, T)) (ma : mA D (P, S, Q, F, T)) (nx : ∀ (st : bf_St) (D : bf_D), vA st → cA D st → mA D st → J 1374 [some (.ref 102), some (.ref 0), some (.ref 37), some (.int (nI i))] [] (bf_MD D)) : J 555 [some (.ref 102), some (.ref 0), some (.ref 37), some (.int (nI i))] [] (bf_MD D) := by
  refine bf_aload_n r.1 dL_law_555 rfl ?_
  refine bf_aload_n r.1 dL_law_556 rfl ?_
  refine bf_iload_n r.1 dL_law_557 rfl ?_
  refine bf_iconst r.1 (v := nI 1) dL_law_558 rfl ?_
  refine na_add r dL_law_559  ?_
  refine hs.1 560 _ _ _ (i + 1) dL_law_560 (by omega) ?_
  refine bf_aload_n r.1 dL_law_561 rfl ?_
  refine bf_iload_n r.1 dL_law_562 rfl ?_
  refine bf_iconst r.1 (v := nI 2) dL_law_563 rfl ?_
  refine na_add r dL_law_564  ?_
  refine hs.1 565 _ _ _ (i + 2) dL_law_565 (by omega) ?_
  refine bf_aload_n r.1 dL_law_566 rfl ?_
  refine bf_iload_n r.1 dL_law_567 rfl ?_
  refine bf_iconst r.1 (v := nI 3) dL_law_568 rfl ?_
  refine na_add r dL_law_569  ?_
  refine hs.1 570 _ _ _ (i + 3) dL_law_570 (by omega) ?_
  refine cl_v r (y2 := mX8_counting) dL_law_571 li_L_60 mv_X8_counting rfl (by decide) [.int (xs (i + 1)), .int (xs (i + 2)), .int (xs (i + 3))] [] rfl (Nat.le_of_ble_eq_true rfl) rfl (c_X8_counting (by omega) va.1 ca.1 (xs (i + 1)) (xs (i + 2)) (xs (i + 3))) ?_
  show J 574 [some (.ref 102), some (.ref 0), some (.ref 37), some (.int (nI i))] [.int (ox_counting P (xs (i + 1)) (xs (i + 2)) (xs (i + 3)))] (bf_MD D)
  refine bf_aload_n r.1 dL_law_574 rfl ?_
  refine bf_aload_n r.1 dL_law_575 rfl ?_
  refine bf_iload_n r.1 dL_law_576 rfl ?_
  refine bf_iconst r.1 (v := nI 1) dL_law_577 rfl ?_
  refine na_add r dL_law_578  ?_
  refine hs.1 579 _ _ _ (i + 1) dL_law_579 (by omega) ?_
  refine bf_aload_n r.1 dL_law_580 rfl ?_
  refine bf_iload_n r.1 dL_law_581 rfl ?_
  refine bf_iconst r.1 (v := nI 2) dL_law_582 rfl ?_
  refine na_add r dL_law_583  ?_
  refine hs.1 584 _ _ _ (i + 2) dL_law_584 (by omega) ?_
  refine bf_aload_n r.1 dL_law_585 rfl ?_
  refine bf_iload_n r.1 dL_law_586 rfl ?_
  refine bf_iconst r.1 (v := nI 3) dL_law_587 rfl ?_
  refine na_add r dL_law_588  ?_
  refine hs.1 589 _ _ _ (i + 3) dL_law_589 (by omega) ?_
  refine cl_v r (y2 := mX9_counting) dL_law_590 li_L_64 mv_X9_counting rfl (by decide) [.int (xs (i + 1)), .int (xs (i + 2)), .int (xs (i + 3))] [.int (ox_counting P (xs (i + 1)) (xs (i + 2)) (xs (i + 3)))] rfl (Nat.le_of_ble_eq_true rfl) rfl (c_X9_counting (by omega) va.1 ma.1 (xs (i + 1)) (xs (i + 2)) (xs (i + 3))) ?_
  show J 593 [some (.ref 102), some (.ref 0), some (.ref 37), some (.int (nI i))] [.int (ox_counting P (xs (i + 1)) (xs (i + 2)) (xs (i + 3))), .int (ox_counting P (xs (i + 1)) (xs (i + 2)) (xs (i + 3)))] (bf_MD D)
  refine bf_icmp_eq r.1 (tgt := 1374) dL_law_593 (by decide) (fun c864 => ?_) (fun c864 => ?_)
  · exact nx _ _ va ca ma
  · exact absurd rfl c864
theorem lc_near {e : Nat} (he : 20 ≤ e) {J : bf_J} (r : bf_All (bf_Cl e) 57 PL mL J) {xs : Nat → Int32} {Ln : Nat} (hs : scR xs Ln J) (hL : Ln ≤ 448) {i : Nat} (hi : i + 7 ≤ Ln) {D : bf_D} {P : bf_Pn} {S : bf_Sh} {Q : bf_Rd} {F : Nat} {T : Int32} (va : vA (P, S, Q, F, T)) (ca : cA D (P, S, Q, F, T)) (ma : mA D (P, S, Q, F, T)) (nx : ∀ (st : bf_St) (D : bf_D), vA st → cA D st → mA D st → J 1374 [some (.ref 102), some (.ref 0), some (.ref 37), some (.int (nI i))] [] (bf_MD D)) : J 598 [some (.ref 102), some (.ref 0), some (.ref 37), some (.int (nI i))] [] (bf_MD D) := by
  refine bf_aload_n r.1 dL_law_598 rfl ?_
  refine bf_aload_n r.1 dL_law_599 rfl ?_
  refine bf_iload_n r.1 dL_law_600 rfl ?_
  refine bf_iconst r.1 (v := nI 1) dL_law_601 rfl ?_
  refine na_add r dL_law_602  ?_
  refine hs.1 603 _ _ _ (i + 1) dL_law_603 (by omega) ?_
  refine bf_aload_n r.1 dL_law_604 rfl ?_
  refine bf_iload_n r.1 dL_law_605 rfl ?_
  refine bf_iconst r.1 (v := nI 2) dL_law_606 rfl ?_
  refine na_add r dL_law_607  ?_
  refine hs.1 608 _ _ _ (i + 2) dL_law_608 (by omega) ?_
  refine cl_v r (y2 := mX8_near) dL_law_609 li_L_65 mv_X8_near rfl (by decide) [.int (xs (i + 1)), .int (xs (i + 2))] [] rfl (Nat.le_of_ble_eq_true rfl) rfl (c_X8_near (by omega) va.1 ca.1 (xs (i + 1)) (xs (i + 2))) ?_
  show J 612 [some (.ref 102), some (.ref 0), some (.ref 37), some (.int (nI i))] [.int (ox_near P (xs (i + 1)) (xs (i + 2)))] (bf_MD D)
  refine bf_aload_n r.1 dL_law_612 rfl ?_
  refine bf_aload_n r.1 dL_law_613 rfl ?_
  refine bf_iload_n r.1 dL_law_614 rfl ?_
  refine bf_iconst r.1 (v := nI 1) dL_law_615 rfl ?_
  refine na_add r dL_law_616  ?_
  refine hs.1 617 _ _ _ (i + 1) dL_law_617 (by omega) ?_
  refine bf_aload_n r.1 dL_law_618 rfl ?_
  refine bf_iload_n r.1 dL_law_619 rfl ?_
  refine bf_iconst r.1 (v := nI 2) dL_law_620 rfl ?_
  refine na_add r dL_law_621  ?_
  refine hs.1 622 _ _ _ (i + 2) dL_law_622 (by omega) ?_
  refine cl_v r (y2 := mX9_near) dL_law_623 li_L_68 mv_X9_near rfl (by decide) [.int (xs (i + 1)), .int (xs (i + 2))] [.int (ox_near P (xs (i + 1)) (xs (i + 2)))] rfl (Nat.le_of_ble_eq_true rfl) rfl (c_X9_near (by omega) va.1 ma.1 (xs (i + 1)) (xs (i + 2))) ?_
  show J 626 [some (.ref 102), some (.ref 0), some (.ref 37), some (.int (nI i))] [.int (ox_near P (xs (i + 1)) (xs (i + 2))), .int (ox_near P (xs (i + 1)) (xs (i + 2)))] (bf_MD D)
  refine bf_icmp_eq r.1 (tgt := 1374) dL_law_626 (by decide) (fun c865 => ?_) (fun c865 => ?_)
  · exact nx _ _ va ca ma
  · exact absurd rfl c865
theorem lc_pictures {e : Nat} (he : 20 ≤ e) {J : bf_J} (r : bf_All (bf_Cl e) 57 PL mL J) {xs : Nat → Int32} {Ln : Nat} (hs : scR xs Ln J) (hL : Ln ≤ 448) {i : Nat} (hi : i + 7 ≤ Ln) {D : bf_D} {P : bf_Pn} {S : bf_Sh} {Q : bf_Rd} {F : Nat} {T : Int32} (va : vA (P, S, Q, F, T)) (ca : cA D (P, S, Q, F, T)) (ma : mA D (P, S, Q, F, T)) (nx : ∀ (st : bf_St) (D : bf_D), vA st → cA D st → mA D st → J 1374 [some (.ref 102), some (.ref 0), some (.ref 37), some (.int (nI i))] [] (bf_MD D)) : J 631 [some (.ref 102), some (.ref 0), some (.ref 37), some (.int (nI i))] [] (bf_MD D) := by
  refine bf_aload_n r.1 dL_law_631 rfl ?_
  refine cl_v r (y2 := mX8_pictures) dL_law_632 li_L_69 mv_X8_pictures rfl (by decide) [] [] rfl (Nat.le_of_ble_eq_true rfl) rfl (c_X8_pictures (by omega) va.1 ca.1 ) ?_
  show J 635 [some (.ref 102), some (.ref 0), some (.ref 37), some (.int (nI i))] [.int (ox_pictures P)] (bf_MD D)
  refine bf_aload_n r.1 dL_law_635 rfl ?_
  refine cl_v r (y2 := mX9_pictures) dL_law_636 li_L_73 mv_X9_pictures rfl (by decide) [] [.int (ox_pictures P)] rfl (Nat.le_of_ble_eq_true rfl) rfl (c_X9_pictures (by omega) va.1 ma.1 ) ?_
  show J 639 [some (.ref 102), some (.ref 0), some (.ref 37), some (.int (nI i))] [.int (ox_pictures P), .int (ox_pictures P)] (bf_MD D)
  refine bf_icmp_eq r.1 (tgt := 1374) dL_law_639 (by decide) (fun c866 => ?_) (fun c866 => ?_)
  · exact nx _ _ va ca ma
  · exact absurd rfl c866
theorem lc_go {e : Nat} (he : 20 ≤ e) {J : bf_J} (r : bf_All (bf_Cl e) 57 PL mL J) {xs : Nat → Int32} {Ln : Nat} (hs : scR xs Ln J) (hL : Ln ≤ 448) {i : Nat} (hi : i + 7 ≤ Ln) {D : bf_D} {P : bf_Pn} {S : bf_Sh} {Q : bf_Rd} {F : Nat} {T : Int32} (va : vA (P, S, Q, F, T)) (ca : cA D (P, S, Q, F, T)) (ma : mA D (P, S, Q, F, T)) (nx : ∀ (st : bf_St) (D : bf_D), vA st → cA D st → mA D st → J 1374 [some (.ref 102), some (.ref 0), some (.ref 37), some (.int (nI i))] [] (bf_MD D)) : J 644 [some (.ref 102), some (.ref 0), some (.ref 37), some (.int (nI i))] [] (bf_MD D) := by
  refine bf_aload_n r.1 dL_law_644 rfl ?_
  refine bf_aload_n r.1 dL_law_645 rfl ?_
  refine bf_iload_n r.1 dL_law_646 rfl ?_
  refine bf_iconst r.1 (v := nI 1) dL_law_647 rfl ?_
  refine na_add r dL_law_648  ?_
  refine hs.1 649 _ _ _ (i + 1) dL_law_649 (by omega) ?_
  refine ce_v r (y2 := mX8_go) dL_law_650 li_L_74 mv_X8_go rfl (by decide) [.int (xs (i + 1))] [] rfl (Nat.le_of_ble_eq_true rfl) rfl (e_X8_go (by omega) va ca (xs (i + 1))) (fun res D867 hq867 => ?_)
  obtain ⟨rfl, hca867, hf867⟩ := hq867
  show J 653 [some (.ref 102), some (.ref 0), some (.ref 37), some (.int (nI i))] [.int ((ox_go P S Q F T (xs (i + 1))).1)] (bf_MD D867)
  have ma1 := mA_fr _ va ma hf867
  refine bf_aload_n r.1 dL_law_653 rfl ?_
  refine bf_aload_n r.1 dL_law_654 rfl ?_
  refine bf_iload_n r.1 dL_law_655 rfl ?_
  refine bf_iconst r.1 (v := nI 1) dL_law_656 rfl ?_
  refine na_add r dL_law_657  ?_
  refine hs.1 658 _ _ _ (i + 1) dL_law_658 (by omega) ?_
  refine ce_v r (y2 := mX9_go) dL_law_659 li_L_77 mv_X9_go rfl (by decide) [.int (xs (i + 1))] [.int ((ox_go P S Q F T (xs (i + 1))).1)] rfl (Nat.le_of_ble_eq_true rfl) rfl (e_X9_go (by omega) va ma1 (xs (i + 1))) (fun res D868 hq868 => ?_)
  obtain ⟨rfl, hma868, hf868⟩ := hq868
  show J 662 [some (.ref 102), some (.ref 0), some (.ref 37), some (.int (nI i))] [.int ((ox_go P S Q F T (xs (i + 1))).1), .int ((ox_go P S Q F T (xs (i + 1))).1)] (bf_MD D868)
  have va2 := v_go va (xs (i + 1))
  have ca2 := cA_fr _ va2 hca867 hf868
  refine bf_icmp_eq r.1 (tgt := 1374) dL_law_662 (by decide) (fun c869 => ?_) (fun c869 => ?_)
  · exact nx _ _ va2 ca2 hma868
  · exact absurd rfl c869
theorem lc_dies {e : Nat} (he : 20 ≤ e) {J : bf_J} (r : bf_All (bf_Cl e) 57 PL mL J) {xs : Nat → Int32} {Ln : Nat} (hs : scR xs Ln J) (hL : Ln ≤ 448) {i : Nat} (hi : i + 7 ≤ Ln) {D : bf_D} {P : bf_Pn} {S : bf_Sh} {Q : bf_Rd} {F : Nat} {T : Int32} (va : vA (P, S, Q, F, T)) (ca : cA D (P, S, Q, F, T)) (ma : mA D (P, S, Q, F, T)) (nx : ∀ (st : bf_St) (D : bf_D), vA st → cA D st → mA D st → J 1374 [some (.ref 102), some (.ref 0), some (.ref 37), some (.int (nI i))] [] (bf_MD D)) : J 667 [some (.ref 102), some (.ref 0), some (.ref 37), some (.int (nI i))] [] (bf_MD D) := by
  refine bf_aload_n r.1 dL_law_667 rfl ?_
  refine bf_aload_n r.1 dL_law_668 rfl ?_
  refine bf_iload_n r.1 dL_law_669 rfl ?_
  refine bf_iconst r.1 (v := nI 1) dL_law_670 rfl ?_
  refine na_add r dL_law_671  ?_
  refine hs.1 672 _ _ _ (i + 1) dL_law_672 (by omega) ?_
  refine bf_aload_n r.1 dL_law_673 rfl ?_
  refine bf_iload_n r.1 dL_law_674 rfl ?_
  refine bf_iconst r.1 (v := nI 2) dL_law_675 rfl ?_
  refine na_add r dL_law_676  ?_
  refine hs.1 677 _ _ _ (i + 2) dL_law_677 (by omega) ?_
  refine cl_v r (y2 := mX8_dies) dL_law_678 li_L_78 mv_X8_dies rfl (by decide) [.int (xs (i + 1)), .int (xs (i + 2))] [] rfl (Nat.le_of_ble_eq_true rfl) rfl (c_X8_dies (by omega) va.1 ca.1 (xs (i + 1)) (xs (i + 2))) ?_
  show J 681 [some (.ref 102), some (.ref 0), some (.ref 37), some (.int (nI i))] [.int (ox_dies P (xs (i + 1)) (xs (i + 2)))] (bf_MD D)
  refine bf_aload_n r.1 dL_law_681 rfl ?_
  refine bf_aload_n r.1 dL_law_682 rfl ?_
  refine bf_iload_n r.1 dL_law_683 rfl ?_
  refine bf_iconst r.1 (v := nI 1) dL_law_684 rfl ?_
  refine na_add r dL_law_685  ?_
  refine hs.1 686 _ _ _ (i + 1) dL_law_686 (by omega) ?_
  refine bf_aload_n r.1 dL_law_687 rfl ?_
  refine bf_iload_n r.1 dL_law_688 rfl ?_
  refine bf_iconst r.1 (v := nI 2) dL_law_689 rfl ?_
  refine na_add r dL_law_690  ?_
  refine hs.1 691 _ _ _ (i + 2) dL_law_691 (by omega) ?_
  refine ce_v r (y2 := mX9_dies) dL_law_692 li_L_81 mv_X9_dies rfl (by decide) [.int (xs (i + 1)), .int (xs (i + 2))] [.int (ox_dies P (xs (i + 1)) (xs (i + 2)))] rfl (Nat.le_of_ble_eq_true rfl) rfl (e_X9_dies (by omega) va ma (xs (i + 1)) (xs (i + 2))) (fun res D870 hq870 => ?_)
  obtain ⟨rfl, hma870, hf870⟩ := hq870
  show J 695 [some (.ref 102), some (.ref 0), some (.ref 37), some (.int (nI i))] [.int (ox_dies P (xs (i + 1)) (xs (i + 2))), .int (ox_dies P (xs (i + 1)) (xs (i + 2)))] (bf_MD D870)
  have ca2 := cA_fr _ va ca hf870
  refine bf_icmp_eq r.1 (tgt := 1374) dL_law_695 (by decide) (fun c871 => ?_) (fun c871 => ?_)
  · exact nx _ _ va ca2 hma870
  · exact absurd rfl c871
theorem lc_first {e : Nat} (he : 20 ≤ e) {J : bf_J} (r : bf_All (bf_Cl e) 57 PL mL J) {xs : Nat → Int32} {Ln : Nat} (hs : scR xs Ln J) (hL : Ln ≤ 448) {i : Nat} (hi : i + 7 ≤ Ln) {D : bf_D} {P : bf_Pn} {S : bf_Sh} {Q : bf_Rd} {F : Nat} {T : Int32} (va : vA (P, S, Q, F, T)) (ca : cA D (P, S, Q, F, T)) (ma : mA D (P, S, Q, F, T)) (nx : ∀ (st : bf_St) (D : bf_D), vA st → cA D st → mA D st → J 1374 [some (.ref 102), some (.ref 0), some (.ref 37), some (.int (nI i))] [] (bf_MD D)) : J 700 [some (.ref 102), some (.ref 0), some (.ref 37), some (.int (nI i))] [] (bf_MD D) := by
  refine bf_aload_n r.1 dL_law_700 rfl ?_
  refine bf_aload_n r.1 dL_law_701 rfl ?_
  refine bf_iload_n r.1 dL_law_702 rfl ?_
  refine bf_iconst r.1 (v := nI 1) dL_law_703 rfl ?_
  refine na_add r dL_law_704  ?_
  refine hs.1 705 _ _ _ (i + 1) dL_law_705 (by omega) ?_
  refine cl_v r (y2 := mX8_first) dL_law_706 li_L_82 mv_X8_first rfl (by decide) [.int (xs (i + 1))] [] rfl (Nat.le_of_ble_eq_true rfl) rfl (c_X8_first (by omega) va.1 ca.1 (xs (i + 1))) ?_
  show J 709 [some (.ref 102), some (.ref 0), some (.ref 37), some (.int (nI i))] [.int (ox_first P (xs (i + 1)))] (bf_MD D)
  refine bf_aload_n r.1 dL_law_709 rfl ?_
  refine bf_aload_n r.1 dL_law_710 rfl ?_
  refine bf_iload_n r.1 dL_law_711 rfl ?_
  refine bf_iconst r.1 (v := nI 1) dL_law_712 rfl ?_
  refine na_add r dL_law_713  ?_
  refine hs.1 714 _ _ _ (i + 1) dL_law_714 (by omega) ?_
  refine ce_v r (y2 := mX9_first) dL_law_715 li_L_85 mv_X9_first rfl (by decide) [.int (xs (i + 1))] [.int (ox_first P (xs (i + 1)))] rfl (Nat.le_of_ble_eq_true rfl) rfl (e_X9_first (by omega) va ma (xs (i + 1))) (fun res D872 hq872 => ?_)
  obtain ⟨rfl, hma872, hf872⟩ := hq872
  show J 718 [some (.ref 102), some (.ref 0), some (.ref 37), some (.int (nI i))] [.int (ox_first P (xs (i + 1))), .int (ox_first P (xs (i + 1)))] (bf_MD D872)
  have ca2 := cA_fr _ va ca hf872
  refine bf_icmp_eq r.1 (tgt := 1374) dL_law_718 (by decide) (fun c873 => ?_) (fun c873 => ?_)
  · exact nx _ _ va ca2 hma872
  · exact absurd rfl c873
theorem lc_seen {e : Nat} (he : 20 ≤ e) {J : bf_J} (r : bf_All (bf_Cl e) 57 PL mL J) {xs : Nat → Int32} {Ln : Nat} (hs : scR xs Ln J) (hL : Ln ≤ 448) {i : Nat} (hi : i + 7 ≤ Ln) {D : bf_D} {P : bf_Pn} {S : bf_Sh} {Q : bf_Rd} {F : Nat} {T : Int32} (va : vA (P, S, Q, F, T)) (ca : cA D (P, S, Q, F, T)) (ma : mA D (P, S, Q, F, T)) (nx : ∀ (st : bf_St) (D : bf_D), vA st → cA D st → mA D st → J 1374 [some (.ref 102), some (.ref 0), some (.ref 37), some (.int (nI i))] [] (bf_MD D)) : J 723 [some (.ref 102), some (.ref 0), some (.ref 37), some (.int (nI i))] [] (bf_MD D) := by
  refine bf_aload_n r.1 dL_law_723 rfl ?_
  refine bf_aload_n r.1 dL_law_724 rfl ?_
  refine bf_iload_n r.1 dL_law_725 rfl ?_
  refine bf_iconst r.1 (v := nI 1) dL_law_726 rfl ?_
  refine na_add r dL_law_727  ?_
  refine hs.1 728 _ _ _ (i + 1) dL_law_728 (by omega) ?_
  refine bf_aload_n r.1 dL_law_729 rfl ?_
  refine bf_iload_n r.1 dL_law_730 rfl ?_
  refine bf_iconst r.1 (v := nI 2) dL_law_731 rfl ?_
  refine na_add r dL_law_732  ?_
  refine hs.1 733 _ _ _ (i + 2) dL_law_733 (by omega) ?_
  refine bf_aload_n r.1 dL_law_734 rfl ?_
  refine bf_iload_n r.1 dL_law_735 rfl ?_
  refine bf_iconst r.1 (v := nI 3) dL_law_736 rfl ?_
  refine na_add r dL_law_737  ?_
  refine hs.1 738 _ _ _ (i + 3) dL_law_738 (by omega) ?_
  refine bf_aload_n r.1 dL_law_739 rfl ?_
  refine bf_iload_n r.1 dL_law_740 rfl ?_
  refine bf_iconst r.1 (v := nI 4) dL_law_741 rfl ?_
  refine na_add r dL_law_742  ?_
  refine hs.1 743 _ _ _ (i + 4) dL_law_743 (by omega) ?_
  refine bf_aload_n r.1 dL_law_744 rfl ?_
  refine bf_iload_n r.1 dL_law_745 rfl ?_
  refine bf_iconst r.1 (v := nI 5) dL_law_746 rfl ?_
  refine na_add r dL_law_747  ?_
  refine hs.1 748 _ _ _ (i + 5) dL_law_748 (by omega) ?_
  refine bf_aload_n r.1 dL_law_749 rfl ?_
  refine bf_iload_n r.1 dL_law_750 rfl ?_
  refine bf_bipush r.1 (v := nI 6) dL_law_751 rfl ?_
  refine na_add r dL_law_753  ?_
  refine hs.1 754 _ _ _ (i + 6) dL_law_754 (by omega) ?_
  refine ce_v r (y2 := mX8_seen) dL_law_755 li_L_86 mv_X8_seen rfl (by decide) [.int (xs (i + 1)), .int (xs (i + 2)), .int (xs (i + 3)), .int (xs (i + 4)), .int (xs (i + 5)), .int (xs (i + 6))] [] rfl (Nat.le_of_ble_eq_true rfl) rfl (e_X8_seen (by omega) va ca (xs (i + 1)) (xs (i + 2)) (xs (i + 3)) (xs (i + 4)) (xs (i + 5)) (xs (i + 6))) (fun res D874 hq874 => ?_)
  obtain ⟨rfl, hca874, hf874⟩ := hq874
  show J 758 [some (.ref 102), some (.ref 0), some (.ref 37), some (.int (nI i))] [.int ((ox_seen P S Q F T (xs (i + 1)) (xs (i + 2)) (xs (i + 3)) (xs (i + 4)) (xs (i + 5)) (xs (i + 6))).1)] (bf_MD D874)
  have ma1 := mA_fr _ va ma hf874
  refine bf_aload_n r.1 dL_law_758 rfl ?_
  refine bf_aload_n r.1 dL_law_759 rfl ?_
  refine bf_iload_n r.1 dL_law_760 rfl ?_
  refine bf_iconst r.1 (v := nI 1) dL_law_761 rfl ?_
  refine na_add r dL_law_762  ?_
  refine hs.1 763 _ _ _ (i + 1) dL_law_763 (by omega) ?_
  refine bf_aload_n r.1 dL_law_764 rfl ?_
  refine bf_iload_n r.1 dL_law_765 rfl ?_
  refine bf_iconst r.1 (v := nI 2) dL_law_766 rfl ?_
  refine na_add r dL_law_767  ?_
  refine hs.1 768 _ _ _ (i + 2) dL_law_768 (by omega) ?_
  refine bf_aload_n r.1 dL_law_769 rfl ?_
  refine bf_iload_n r.1 dL_law_770 rfl ?_
  refine bf_iconst r.1 (v := nI 3) dL_law_771 rfl ?_
  refine na_add r dL_law_772  ?_
  refine hs.1 773 _ _ _ (i + 3) dL_law_773 (by omega) ?_
  refine bf_aload_n r.1 dL_law_774 rfl ?_
  refine bf_iload_n r.1 dL_law_775 rfl ?_
  refine bf_iconst r.1 (v := nI 4) dL_law_776 rfl ?_
  refine na_add r dL_law_777  ?_
  refine hs.1 778 _ _ _ (i + 4) dL_law_778 (by omega) ?_
  refine bf_aload_n r.1 dL_law_779 rfl ?_
  refine bf_iload_n r.1 dL_law_780 rfl ?_
  refine bf_iconst r.1 (v := nI 5) dL_law_781 rfl ?_
  refine na_add r dL_law_782  ?_
  refine hs.1 783 _ _ _ (i + 5) dL_law_783 (by omega) ?_
  refine bf_aload_n r.1 dL_law_784 rfl ?_
  refine bf_iload_n r.1 dL_law_785 rfl ?_
  refine bf_bipush r.1 (v := nI 6) dL_law_786 rfl ?_
  refine na_add r dL_law_788  ?_
  refine hs.1 789 _ _ _ (i + 6) dL_law_789 (by omega) ?_
  refine ce_v r (y2 := mX9_seen) dL_law_790 li_L_90 mv_X9_seen rfl (by decide) [.int (xs (i + 1)), .int (xs (i + 2)), .int (xs (i + 3)), .int (xs (i + 4)), .int (xs (i + 5)), .int (xs (i + 6))] [.int ((ox_seen P S Q F T (xs (i + 1)) (xs (i + 2)) (xs (i + 3)) (xs (i + 4)) (xs (i + 5)) (xs (i + 6))).1)] rfl (Nat.le_of_ble_eq_true rfl) rfl (e_X9_seen (by omega) va ma1 (xs (i + 1)) (xs (i + 2)) (xs (i + 3)) (xs (i + 4)) (xs (i + 5)) (xs (i + 6))) (fun res D875 hq875 => ?_)
  obtain ⟨rfl, hma875, hf875⟩ := hq875
  show J 793 [some (.ref 102), some (.ref 0), some (.ref 37), some (.int (nI i))] [.int ((ox_seen P S Q F T (xs (i + 1)) (xs (i + 2)) (xs (i + 3)) (xs (i + 4)) (xs (i + 5)) (xs (i + 6))).1), .int ((ox_seen P S Q F T (xs (i + 1)) (xs (i + 2)) (xs (i + 3)) (xs (i + 4)) (xs (i + 5)) (xs (i + 6))).1)] (bf_MD D875)
  have va2 := v_seen va (xs (i + 1)) (xs (i + 2)) (xs (i + 3)) (xs (i + 4)) (xs (i + 5)) (xs (i + 6))
  have ca2 := cA_fr _ va2 hca874 hf875
  refine bf_icmp_eq r.1 (tgt := 1374) dL_law_793 (by decide) (fun c876 => ?_) (fun c876 => ?_)
  · exact nx _ _ va2 ca2 hma875
  · exact absurd rfl c876
theorem lc_repair {e : Nat} (he : 20 ≤ e) {J : bf_J} (r : bf_All (bf_Cl e) 57 PL mL J) {xs : Nat → Int32} {Ln : Nat} (hs : scR xs Ln J) (hL : Ln ≤ 448) {i : Nat} (hi : i + 7 ≤ Ln) {D : bf_D} {P : bf_Pn} {S : bf_Sh} {Q : bf_Rd} {F : Nat} {T : Int32} (va : vA (P, S, Q, F, T)) (ca : cA D (P, S, Q, F, T)) (ma : mA D (P, S, Q, F, T)) (nx : ∀ (st : bf_St) (D : bf_D), vA st → cA D st → mA D st → J 1374 [some (.ref 102), some (.ref 0), some (.ref 37), some (.int (nI i))] [] (bf_MD D)) : J 798 [some (.ref 102), some (.ref 0), some (.ref 37), some (.int (nI i))] [] (bf_MD D) := by
  refine bf_aload_n r.1 dL_law_798 rfl ?_
  refine bf_aload_n r.1 dL_law_799 rfl ?_
  refine bf_iload_n r.1 dL_law_800 rfl ?_
  refine bf_iconst r.1 (v := nI 1) dL_law_801 rfl ?_
  refine na_add r dL_law_802  ?_
  refine hs.1 803 _ _ _ (i + 1) dL_law_803 (by omega) ?_
  refine cl_v r (y2 := mX8_repair) dL_law_804 li_L_91 mv_X8_repair rfl (by decide) [.int (xs (i + 1))] [] rfl (Nat.le_of_ble_eq_true rfl) rfl (c_X8_repair (by omega) va.1 ca.1 (xs (i + 1))) ?_
  show J 807 [some (.ref 102), some (.ref 0), some (.ref 37), some (.int (nI i))] [.int (ox_repair P (xs (i + 1)))] (bf_MD D)
  refine bf_aload_n r.1 dL_law_807 rfl ?_
  refine bf_aload_n r.1 dL_law_808 rfl ?_
  refine bf_iload_n r.1 dL_law_809 rfl ?_
  refine bf_iconst r.1 (v := nI 1) dL_law_810 rfl ?_
  refine na_add r dL_law_811  ?_
  refine hs.1 812 _ _ _ (i + 1) dL_law_812 (by omega) ?_
  refine ce_v r (y2 := mX9_repair) dL_law_813 li_L_94 mv_X9_repair rfl (by decide) [.int (xs (i + 1))] [.int (ox_repair P (xs (i + 1)))] rfl (Nat.le_of_ble_eq_true rfl) rfl (e_X9_repair (by omega) va ma (xs (i + 1))) (fun res D877 hq877 => ?_)
  obtain ⟨rfl, hma877, hf877⟩ := hq877
  show J 816 [some (.ref 102), some (.ref 0), some (.ref 37), some (.int (nI i))] [.int (ox_repair P (xs (i + 1))), .int (ox_repair P (xs (i + 1)))] (bf_MD D877)
  have ca2 := cA_fr _ va ca hf877
  refine bf_icmp_eq r.1 (tgt := 1374) dL_law_816 (by decide) (fun c878 => ?_) (fun c878 => ?_)
  · exact nx _ _ va ca2 hma877
  · exact absurd rfl c878
theorem lc_order {e : Nat} (he : 20 ≤ e) {J : bf_J} (r : bf_All (bf_Cl e) 57 PL mL J) {xs : Nat → Int32} {Ln : Nat} (hs : scR xs Ln J) (hL : Ln ≤ 448) {i : Nat} (hi : i + 7 ≤ Ln) {D : bf_D} {P : bf_Pn} {S : bf_Sh} {Q : bf_Rd} {F : Nat} {T : Int32} (va : vA (P, S, Q, F, T)) (ca : cA D (P, S, Q, F, T)) (ma : mA D (P, S, Q, F, T)) (nx : ∀ (st : bf_St) (D : bf_D), vA st → cA D st → mA D st → J 1374 [some (.ref 102), some (.ref 0), some (.ref 37), some (.int (nI i))] [] (bf_MD D)) : J 821 [some (.ref 102), some (.ref 0), some (.ref 37), some (.int (nI i))] [] (bf_MD D) := by
  refine bf_aload_n r.1 dL_law_821 rfl ?_
  refine bf_aload_n r.1 dL_law_822 rfl ?_
  refine bf_iload_n r.1 dL_law_823 rfl ?_
  refine bf_iconst r.1 (v := nI 1) dL_law_824 rfl ?_
  refine na_add r dL_law_825  ?_
  refine hs.1 826 _ _ _ (i + 1) dL_law_826 (by omega) ?_
  refine bf_aload_n r.1 dL_law_827 rfl ?_
  refine bf_iload_n r.1 dL_law_828 rfl ?_
  refine bf_iconst r.1 (v := nI 2) dL_law_829 rfl ?_
  refine na_add r dL_law_830  ?_
  refine hs.1 831 _ _ _ (i + 2) dL_law_831 (by omega) ?_
  refine bf_aload_n r.1 dL_law_832 rfl ?_
  refine bf_iload_n r.1 dL_law_833 rfl ?_
  refine bf_iconst r.1 (v := nI 3) dL_law_834 rfl ?_
  refine na_add r dL_law_835  ?_
  refine hs.1 836 _ _ _ (i + 3) dL_law_836 (by omega) ?_
  refine bf_aload_n r.1 dL_law_837 rfl ?_
  refine bf_iload_n r.1 dL_law_838 rfl ?_
  refine bf_iconst r.1 (v := nI 4) dL_law_839 rfl ?_
  refine na_add r dL_law_840  ?_
  refine hs.1 841 _ _ _ (i + 4) dL_law_841 (by omega) ?_
  refine bf_aload_n r.1 dL_law_842 rfl ?_
  refine bf_iload_n r.1 dL_law_843 rfl ?_
  refine bf_iconst r.1 (v := nI 5) dL_law_844 rfl ?_
  refine na_add r dL_law_845  ?_
  refine hs.1 846 _ _ _ (i + 5) dL_law_846 (by omega) ?_
  refine ce_v r (y2 := mX8_order) dL_law_847 li_L_95 mv_X8_order rfl (by decide) [.int (xs (i + 1)), .int (xs (i + 2)), .int (xs (i + 3)), .int (xs (i + 4)), .int (xs (i + 5))] [] rfl (Nat.le_of_ble_eq_true rfl) rfl (e_X8_order (by omega) va ca (xs (i + 1)) (xs (i + 2)) (xs (i + 3)) (xs (i + 4)) (xs (i + 5))) (fun res D879 hq879 => ?_)
  obtain ⟨rfl, hca879, hf879⟩ := hq879
  show J 850 [some (.ref 102), some (.ref 0), some (.ref 37), some (.int (nI i))] [.int ((ox_order P S Q F T (xs (i + 1)) (xs (i + 2)) (xs (i + 3)) (xs (i + 4)) (xs (i + 5))).1)] (bf_MD D879)
  have ma1 := mA_fr _ va ma hf879
  refine bf_aload_n r.1 dL_law_850 rfl ?_
  refine bf_aload_n r.1 dL_law_851 rfl ?_
  refine bf_iload_n r.1 dL_law_852 rfl ?_
  refine bf_iconst r.1 (v := nI 1) dL_law_853 rfl ?_
  refine na_add r dL_law_854  ?_
  refine hs.1 855 _ _ _ (i + 1) dL_law_855 (by omega) ?_
  refine bf_aload_n r.1 dL_law_856 rfl ?_
  refine bf_iload_n r.1 dL_law_857 rfl ?_
  refine bf_iconst r.1 (v := nI 2) dL_law_858 rfl ?_
  refine na_add r dL_law_859  ?_
  refine hs.1 860 _ _ _ (i + 2) dL_law_860 (by omega) ?_
  refine bf_aload_n r.1 dL_law_861 rfl ?_
  refine bf_iload_n r.1 dL_law_862 rfl ?_
  refine bf_iconst r.1 (v := nI 3) dL_law_863 rfl ?_
  refine na_add r dL_law_864  ?_
  refine hs.1 865 _ _ _ (i + 3) dL_law_865 (by omega) ?_
  refine bf_aload_n r.1 dL_law_866 rfl ?_
  refine bf_iload_n r.1 dL_law_867 rfl ?_
  refine bf_iconst r.1 (v := nI 4) dL_law_868 rfl ?_
  refine na_add r dL_law_869  ?_
  refine hs.1 870 _ _ _ (i + 4) dL_law_870 (by omega) ?_
  refine bf_aload_n r.1 dL_law_871 rfl ?_
  refine bf_iload_n r.1 dL_law_872 rfl ?_
  refine bf_iconst r.1 (v := nI 5) dL_law_873 rfl ?_
  refine na_add r dL_law_874  ?_
  refine hs.1 875 _ _ _ (i + 5) dL_law_875 (by omega) ?_
  refine ce_v r (y2 := mX9_order) dL_law_876 li_L_99 mv_X9_order rfl (by decide) [.int (xs (i + 1)), .int (xs (i + 2)), .int (xs (i + 3)), .int (xs (i + 4)), .int (xs (i + 5))] [.int ((ox_order P S Q F T (xs (i + 1)) (xs (i + 2)) (xs (i + 3)) (xs (i + 4)) (xs (i + 5))).1)] rfl (Nat.le_of_ble_eq_true rfl) rfl (e_X9_order (by omega) va ma1 (xs (i + 1)) (xs (i + 2)) (xs (i + 3)) (xs (i + 4)) (xs (i + 5))) (fun res D880 hq880 => ?_)
  obtain ⟨rfl, hma880, hf880⟩ := hq880
  show J 879 [some (.ref 102), some (.ref 0), some (.ref 37), some (.int (nI i))] [.int ((ox_order P S Q F T (xs (i + 1)) (xs (i + 2)) (xs (i + 3)) (xs (i + 4)) (xs (i + 5))).1), .int ((ox_order P S Q F T (xs (i + 1)) (xs (i + 2)) (xs (i + 3)) (xs (i + 4)) (xs (i + 5))).1)] (bf_MD D880)
  have va2 := v_order va (xs (i + 1)) (xs (i + 2)) (xs (i + 3)) (xs (i + 4)) (xs (i + 5))
  have ca2 := cA_fr _ va2 hca879 hf880
  refine bf_icmp_eq r.1 (tgt := 1374) dL_law_879 (by decide) (fun c881 => ?_) (fun c881 => ?_)
  · exact nx _ _ va2 ca2 hma880
  · exact absurd rfl c881
theorem lc_reading {e : Nat} (he : 20 ≤ e) {J : bf_J} (r : bf_All (bf_Cl e) 57 PL mL J) {xs : Nat → Int32} {Ln : Nat} (hs : scR xs Ln J) (hL : Ln ≤ 448) {i : Nat} (hi : i + 7 ≤ Ln) {D : bf_D} {P : bf_Pn} {S : bf_Sh} {Q : bf_Rd} {F : Nat} {T : Int32} (va : vA (P, S, Q, F, T)) (ca : cA D (P, S, Q, F, T)) (ma : mA D (P, S, Q, F, T)) (nx : ∀ (st : bf_St) (D : bf_D), vA st → cA D st → mA D st → J 1374 [some (.ref 102), some (.ref 0), some (.ref 37), some (.int (nI i))] [] (bf_MD D)) : J 884 [some (.ref 102), some (.ref 0), some (.ref 37), some (.int (nI i))] [] (bf_MD D) := by
  refine bf_aload_n r.1 dL_law_884 rfl ?_
  refine bf_aload_n r.1 dL_law_885 rfl ?_
  refine bf_iload_n r.1 dL_law_886 rfl ?_
  refine bf_iconst r.1 (v := nI 1) dL_law_887 rfl ?_
  refine na_add r dL_law_888  ?_
  refine hs.1 889 _ _ _ (i + 1) dL_law_889 (by omega) ?_
  refine bf_aload_n r.1 dL_law_890 rfl ?_
  refine bf_iload_n r.1 dL_law_891 rfl ?_
  refine bf_iconst r.1 (v := nI 2) dL_law_892 rfl ?_
  refine na_add r dL_law_893  ?_
  refine hs.1 894 _ _ _ (i + 2) dL_law_894 (by omega) ?_
  refine bf_aload_n r.1 dL_law_895 rfl ?_
  refine bf_iload_n r.1 dL_law_896 rfl ?_
  refine bf_iconst r.1 (v := nI 3) dL_law_897 rfl ?_
  refine na_add r dL_law_898  ?_
  refine hs.1 899 _ _ _ (i + 3) dL_law_899 (by omega) ?_
  refine ce_v r (y2 := mX8_reading) dL_law_900 li_L_100 mv_X8_reading rfl (by decide) [.int (xs (i + 1)), .int (xs (i + 2)), .int (xs (i + 3))] [] rfl (Nat.le_of_ble_eq_true rfl) rfl (e_X8_reading (by omega) va ca (xs (i + 1)) (xs (i + 2)) (xs (i + 3))) (fun res D882 hq882 => ?_)
  obtain ⟨rfl, hca882, hf882⟩ := hq882
  show J 903 [some (.ref 102), some (.ref 0), some (.ref 37), some (.int (nI i))] [.int ((ox_reading P S Q F T (xs (i + 1)) (xs (i + 2)) (xs (i + 3))).1)] (bf_MD D882)
  have ma1 := mA_fr _ va ma hf882
  refine bf_aload_n r.1 dL_law_903 rfl ?_
  refine bf_aload_n r.1 dL_law_904 rfl ?_
  refine bf_iload_n r.1 dL_law_905 rfl ?_
  refine bf_iconst r.1 (v := nI 1) dL_law_906 rfl ?_
  refine na_add r dL_law_907  ?_
  refine hs.1 908 _ _ _ (i + 1) dL_law_908 (by omega) ?_
  refine bf_aload_n r.1 dL_law_909 rfl ?_
  refine bf_iload_n r.1 dL_law_910 rfl ?_
  refine bf_iconst r.1 (v := nI 2) dL_law_911 rfl ?_
  refine na_add r dL_law_912  ?_
  refine hs.1 913 _ _ _ (i + 2) dL_law_913 (by omega) ?_
  refine bf_aload_n r.1 dL_law_914 rfl ?_
  refine bf_iload_n r.1 dL_law_915 rfl ?_
  refine bf_iconst r.1 (v := nI 3) dL_law_916 rfl ?_
  refine na_add r dL_law_917  ?_
  refine hs.1 918 _ _ _ (i + 3) dL_law_918 (by omega) ?_
  refine ce_v r (y2 := mX9_reading) dL_law_919 li_L_103 mv_X9_reading rfl (by decide) [.int (xs (i + 1)), .int (xs (i + 2)), .int (xs (i + 3))] [.int ((ox_reading P S Q F T (xs (i + 1)) (xs (i + 2)) (xs (i + 3))).1)] rfl (Nat.le_of_ble_eq_true rfl) rfl (e_X9_reading (by omega) va ma1 (xs (i + 1)) (xs (i + 2)) (xs (i + 3))) (fun res D883 hq883 => ?_)
  obtain ⟨rfl, hma883, hf883⟩ := hq883
  show J 922 [some (.ref 102), some (.ref 0), some (.ref 37), some (.int (nI i))] [.int ((ox_reading P S Q F T (xs (i + 1)) (xs (i + 2)) (xs (i + 3))).1), .int ((ox_reading P S Q F T (xs (i + 1)) (xs (i + 2)) (xs (i + 3))).1)] (bf_MD D883)
  have va2 := v_reading va (xs (i + 1)) (xs (i + 2)) (xs (i + 3))
  have ca2 := cA_fr _ va2 hca882 hf883
  refine bf_icmp_eq r.1 (tgt := 1374) dL_law_922 (by decide) (fun c884 => ?_) (fun c884 => ?_)
  · exact nx _ _ va2 ca2 hma883
  · exact absurd rfl c884
theorem lc_back {e : Nat} (he : 20 ≤ e) {J : bf_J} (r : bf_All (bf_Cl e) 57 PL mL J) {xs : Nat → Int32} {Ln : Nat} (hs : scR xs Ln J) (hL : Ln ≤ 448) {i : Nat} (hi : i + 7 ≤ Ln) {D : bf_D} {P : bf_Pn} {S : bf_Sh} {Q : bf_Rd} {F : Nat} {T : Int32} (va : vA (P, S, Q, F, T)) (ca : cA D (P, S, Q, F, T)) (ma : mA D (P, S, Q, F, T)) (nx : ∀ (st : bf_St) (D : bf_D), vA st → cA D st → mA D st → J 1374 [some (.ref 102), some (.ref 0), some (.ref 37), some (.int (nI i))] [] (bf_MD D)) : J 927 [some (.ref 102), some (.ref 0), some (.ref 37), some (.int (nI i))] [] (bf_MD D) := by
  refine bf_aload_n r.1 dL_law_927 rfl ?_
  refine bf_aload_n r.1 dL_law_928 rfl ?_
  refine bf_iload_n r.1 dL_law_929 rfl ?_
  refine bf_iconst r.1 (v := nI 1) dL_law_930 rfl ?_
  refine na_add r dL_law_931  ?_
  refine hs.1 932 _ _ _ (i + 1) dL_law_932 (by omega) ?_
  refine ce_v r (y2 := mX8_back) dL_law_933 li_L_104 mv_X8_back rfl (by decide) [.int (xs (i + 1))] [] rfl (Nat.le_of_ble_eq_true rfl) rfl (e_X8_back (by omega) va ca (xs (i + 1))) (fun res D885 hq885 => ?_)
  obtain ⟨rfl, hca885, hf885⟩ := hq885
  show J 936 [some (.ref 102), some (.ref 0), some (.ref 37), some (.int (nI i))] [.int ((ox_back P S Q F T (xs (i + 1))).1)] (bf_MD D885)
  have ma1 := mA_fr _ va ma hf885
  refine bf_aload_n r.1 dL_law_936 rfl ?_
  refine bf_aload_n r.1 dL_law_937 rfl ?_
  refine bf_iload_n r.1 dL_law_938 rfl ?_
  refine bf_iconst r.1 (v := nI 1) dL_law_939 rfl ?_
  refine na_add r dL_law_940  ?_
  refine hs.1 941 _ _ _ (i + 1) dL_law_941 (by omega) ?_
  refine ce_v r (y2 := mX9_back) dL_law_942 li_L_107 mv_X9_back rfl (by decide) [.int (xs (i + 1))] [.int ((ox_back P S Q F T (xs (i + 1))).1)] rfl (Nat.le_of_ble_eq_true rfl) rfl (e_X9_back (by omega) va ma1 (xs (i + 1))) (fun res D886 hq886 => ?_)
  obtain ⟨rfl, hma886, hf886⟩ := hq886
  show J 945 [some (.ref 102), some (.ref 0), some (.ref 37), some (.int (nI i))] [.int ((ox_back P S Q F T (xs (i + 1))).1), .int ((ox_back P S Q F T (xs (i + 1))).1)] (bf_MD D886)
  have va2 := v_back va (xs (i + 1))
  have ca2 := cA_fr _ va2 hca885 hf886
  refine bf_icmp_eq r.1 (tgt := 1374) dL_law_945 (by decide) (fun c887 => ?_) (fun c887 => ?_)
  · exact nx _ _ va2 ca2 hma886
  · exact absurd rfl c887
theorem lc_deads {e : Nat} (he : 20 ≤ e) {J : bf_J} (r : bf_All (bf_Cl e) 57 PL mL J) {xs : Nat → Int32} {Ln : Nat} (hs : scR xs Ln J) (hL : Ln ≤ 448) {i : Nat} (hi : i + 7 ≤ Ln) {D : bf_D} {P : bf_Pn} {S : bf_Sh} {Q : bf_Rd} {F : Nat} {T : Int32} (va : vA (P, S, Q, F, T)) (ca : cA D (P, S, Q, F, T)) (ma : mA D (P, S, Q, F, T)) (nx : ∀ (st : bf_St) (D : bf_D), vA st → cA D st → mA D st → J 1374 [some (.ref 102), some (.ref 0), some (.ref 37), some (.int (nI i))] [] (bf_MD D)) : J 950 [some (.ref 102), some (.ref 0), some (.ref 37), some (.int (nI i))] [] (bf_MD D) := by
  refine bf_aload_n r.1 dL_law_950 rfl ?_
  refine bf_aload_n r.1 dL_law_951 rfl ?_
  refine bf_iload_n r.1 dL_law_952 rfl ?_
  refine bf_iconst r.1 (v := nI 1) dL_law_953 rfl ?_
  refine na_add r dL_law_954  ?_
  refine hs.1 955 _ _ _ (i + 1) dL_law_955 (by omega) ?_
  refine bf_aload_n r.1 dL_law_956 rfl ?_
  refine bf_iload_n r.1 dL_law_957 rfl ?_
  refine bf_iconst r.1 (v := nI 2) dL_law_958 rfl ?_
  refine na_add r dL_law_959  ?_
  refine hs.1 960 _ _ _ (i + 2) dL_law_960 (by omega) ?_
  refine cl_v r (y2 := mX8_deads) dL_law_961 li_L_108 mv_X8_deads rfl (by decide) [.int (xs (i + 1)), .int (xs (i + 2))] [] rfl (Nat.le_of_ble_eq_true rfl) rfl (c_X8_deads (by omega) va.1 ca.1 ca.2.2.1 va.2.2.1 (xs (i + 1)) (xs (i + 2))) ?_
  show J 964 [some (.ref 102), some (.ref 0), some (.ref 37), some (.int (nI i))] [.int (ox_deads P Q (xs (i + 1)) (xs (i + 2)))] (bf_MD D)
  refine bf_aload_n r.1 dL_law_964 rfl ?_
  refine bf_aload_n r.1 dL_law_965 rfl ?_
  refine bf_iload_n r.1 dL_law_966 rfl ?_
  refine bf_iconst r.1 (v := nI 1) dL_law_967 rfl ?_
  refine na_add r dL_law_968  ?_
  refine hs.1 969 _ _ _ (i + 1) dL_law_969 (by omega) ?_
  refine bf_aload_n r.1 dL_law_970 rfl ?_
  refine bf_iload_n r.1 dL_law_971 rfl ?_
  refine bf_iconst r.1 (v := nI 2) dL_law_972 rfl ?_
  refine na_add r dL_law_973  ?_
  refine hs.1 974 _ _ _ (i + 2) dL_law_974 (by omega) ?_
  refine ce_v r (y2 := mX9_deads) dL_law_975 li_L_111 mv_X9_deads rfl (by decide) [.int (xs (i + 1)), .int (xs (i + 2))] [.int (ox_deads P Q (xs (i + 1)) (xs (i + 2)))] rfl (Nat.le_of_ble_eq_true rfl) rfl (e_X9_deads (by omega) va ma (xs (i + 1)) (xs (i + 2))) (fun res D888 hq888 => ?_)
  obtain ⟨rfl, hma888, hf888⟩ := hq888
  show J 978 [some (.ref 102), some (.ref 0), some (.ref 37), some (.int (nI i))] [.int (ox_deads P Q (xs (i + 1)) (xs (i + 2))), .int (ox_deads P Q (xs (i + 1)) (xs (i + 2)))] (bf_MD D888)
  have ca2 := cA_fr _ va ca hf888
  refine bf_icmp_eq r.1 (tgt := 1374) dL_law_978 (by decide) (fun c889 => ?_) (fun c889 => ?_)
  · exact nx _ _ va ca2 hma888
  · exact absurd rfl c889
theorem lc_kinds {e : Nat} (he : 20 ≤ e) {J : bf_J} (r : bf_All (bf_Cl e) 57 PL mL J) {xs : Nat → Int32} {Ln : Nat} (hs : scR xs Ln J) (hL : Ln ≤ 448) {i : Nat} (hi : i + 7 ≤ Ln) {D : bf_D} {P : bf_Pn} {S : bf_Sh} {Q : bf_Rd} {F : Nat} {T : Int32} (va : vA (P, S, Q, F, T)) (ca : cA D (P, S, Q, F, T)) (ma : mA D (P, S, Q, F, T)) (nx : ∀ (st : bf_St) (D : bf_D), vA st → cA D st → mA D st → J 1374 [some (.ref 102), some (.ref 0), some (.ref 37), some (.int (nI i))] [] (bf_MD D)) : J 983 [some (.ref 102), some (.ref 0), some (.ref 37), some (.int (nI i))] [] (bf_MD D) := by
  refine bf_aload_n r.1 dL_law_983 rfl ?_
  refine bf_aload_n r.1 dL_law_984 rfl ?_
  refine bf_iload_n r.1 dL_law_985 rfl ?_
  refine bf_iconst r.1 (v := nI 1) dL_law_986 rfl ?_
  refine na_add r dL_law_987  ?_
  refine hs.1 988 _ _ _ (i + 1) dL_law_988 (by omega) ?_
  refine cl_v r (y2 := mX8_kinds) dL_law_989 li_L_112 mv_X8_kinds rfl (by decide) [.int (xs (i + 1))] [] rfl (Nat.le_of_ble_eq_true rfl) rfl (c_X8_kinds (by omega) va.1 ca.1 ca.2.2.1 va.2.2.1 (xs (i + 1))) ?_
  show J 992 [some (.ref 102), some (.ref 0), some (.ref 37), some (.int (nI i))] [.int (ox_kinds P Q (xs (i + 1)))] (bf_MD D)
  refine bf_aload_n r.1 dL_law_992 rfl ?_
  refine bf_aload_n r.1 dL_law_993 rfl ?_
  refine bf_iload_n r.1 dL_law_994 rfl ?_
  refine bf_iconst r.1 (v := nI 1) dL_law_995 rfl ?_
  refine na_add r dL_law_996  ?_
  refine hs.1 997 _ _ _ (i + 1) dL_law_997 (by omega) ?_
  refine ce_v r (y2 := mX9_kinds) dL_law_998 li_L_115 mv_X9_kinds rfl (by decide) [.int (xs (i + 1))] [.int (ox_kinds P Q (xs (i + 1)))] rfl (Nat.le_of_ble_eq_true rfl) rfl (e_X9_kinds (by omega) va ma (xs (i + 1))) (fun res D890 hq890 => ?_)
  obtain ⟨rfl, hma890, hf890⟩ := hq890
  show J 1001 [some (.ref 102), some (.ref 0), some (.ref 37), some (.int (nI i))] [.int (ox_kinds P Q (xs (i + 1))), .int (ox_kinds P Q (xs (i + 1)))] (bf_MD D890)
  have ca2 := cA_fr _ va ca hf890
  refine bf_icmp_eq r.1 (tgt := 1374) dL_law_1001 (by decide) (fun c891 => ?_) (fun c891 => ?_)
  · exact nx _ _ va ca2 hma890
  · exact absurd rfl c891
theorem lc_odds {e : Nat} (he : 20 ≤ e) {J : bf_J} (r : bf_All (bf_Cl e) 57 PL mL J) {xs : Nat → Int32} {Ln : Nat} (hs : scR xs Ln J) (hL : Ln ≤ 448) {i : Nat} (hi : i + 7 ≤ Ln) {D : bf_D} {P : bf_Pn} {S : bf_Sh} {Q : bf_Rd} {F : Nat} {T : Int32} (va : vA (P, S, Q, F, T)) (ca : cA D (P, S, Q, F, T)) (ma : mA D (P, S, Q, F, T)) (nx : ∀ (st : bf_St) (D : bf_D), vA st → cA D st → mA D st → J 1374 [some (.ref 102), some (.ref 0), some (.ref 37), some (.int (nI i))] [] (bf_MD D)) : J 1006 [some (.ref 102), some (.ref 0), some (.ref 37), some (.int (nI i))] [] (bf_MD D) := by
  refine bf_aload_n r.1 dL_law_1006 rfl ?_
  refine bf_aload_n r.1 dL_law_1007 rfl ?_
  refine bf_iload_n r.1 dL_law_1008 rfl ?_
  refine bf_iconst r.1 (v := nI 1) dL_law_1009 rfl ?_
  refine na_add r dL_law_1010  ?_
  refine hs.1 1011 _ _ _ (i + 1) dL_law_1011 (by omega) ?_
  refine cl_v r (y2 := mX8_odds) dL_law_1012 li_L_116 mv_X8_odds rfl (by decide) [.int (xs (i + 1))] [] rfl (Nat.le_of_ble_eq_true rfl) rfl (c_X8_odds (by omega) va.1 ca.1 (xs (i + 1))) ?_
  show J 1015 [some (.ref 102), some (.ref 0), some (.ref 37), some (.int (nI i))] [.long (ox_odds P (xs (i + 1)))] (bf_MD D)
  refine bf_aload_n r.1 dL_law_1015 rfl ?_
  refine bf_aload_n r.1 dL_law_1016 rfl ?_
  refine bf_iload_n r.1 dL_law_1017 rfl ?_
  refine bf_iconst r.1 (v := nI 1) dL_law_1018 rfl ?_
  refine na_add r dL_law_1019  ?_
  refine hs.1 1020 _ _ _ (i + 1) dL_law_1020 (by omega) ?_
  refine cl_v r (y2 := mX9_odds) dL_law_1021 li_L_120 mv_X9_odds rfl (by decide) [.int (xs (i + 1))] [.long (ox_odds P (xs (i + 1)))] rfl (Nat.le_of_ble_eq_true rfl) rfl (c_X9_odds (by omega) va.1 ma.1 (xs (i + 1))) ?_
  show J 1024 [some (.ref 102), some (.ref 0), some (.ref 37), some (.int (nI i))] [.long (ox_odds P (xs (i + 1))), .long (ox_odds P (xs (i + 1)))] (bf_MD D)
  refine bf_lcmp r.1 dL_law_1024 ?_
  refine bf_if_eq r.1 (tgt := 1374) dL_law_1025 (by decide) (fun c892 => ?_) (fun c892 => ?_)
  · exact nx _ _ va ca ma
  · exact absurd ((lg_cmp_eq _ _).mpr rfl) c892
theorem lc_sheet {e : Nat} (he : 20 ≤ e) {J : bf_J} (r : bf_All (bf_Cl e) 57 PL mL J) {xs : Nat → Int32} {Ln : Nat} (hs : scR xs Ln J) (hL : Ln ≤ 448) {i : Nat} (hi : i + 7 ≤ Ln) {D : bf_D} {P : bf_Pn} {S : bf_Sh} {Q : bf_Rd} {F : Nat} {T : Int32} (va : vA (P, S, Q, F, T)) (ca : cA D (P, S, Q, F, T)) (ma : mA D (P, S, Q, F, T)) (nx : ∀ (st : bf_St) (D : bf_D), vA st → cA D st → mA D st → J 1374 [some (.ref 102), some (.ref 0), some (.ref 37), some (.int (nI i))] [] (bf_MD D)) : J 1030 [some (.ref 102), some (.ref 0), some (.ref 37), some (.int (nI i))] [] (bf_MD D) := by
  refine bf_aload_n r.1 dL_law_1030 rfl ?_
  refine bf_aload_n r.1 dL_law_1031 rfl ?_
  refine bf_iload_n r.1 dL_law_1032 rfl ?_
  refine bf_iconst r.1 (v := nI 1) dL_law_1033 rfl ?_
  refine na_add r dL_law_1034  ?_
  refine hs.1 1035 _ _ _ (i + 1) dL_law_1035 (by omega) ?_
  refine bf_aload_n r.1 dL_law_1036 rfl ?_
  refine bf_iload_n r.1 dL_law_1037 rfl ?_
  refine bf_iconst r.1 (v := nI 2) dL_law_1038 rfl ?_
  refine na_add r dL_law_1039  ?_
  refine hs.1 1040 _ _ _ (i + 2) dL_law_1040 (by omega) ?_
  refine bf_aload_n r.1 dL_law_1041 rfl ?_
  refine bf_iload_n r.1 dL_law_1042 rfl ?_
  refine bf_iconst r.1 (v := nI 3) dL_law_1043 rfl ?_
  refine na_add r dL_law_1044  ?_
  refine hs.1 1045 _ _ _ (i + 3) dL_law_1045 (by omega) ?_
  refine ce_v r (y2 := mX8_sheet) dL_law_1046 li_L_121 mv_X8_sheet rfl (by decide) [.int (xs (i + 1)), .int (xs (i + 2)), .int (xs (i + 3))] [] rfl (Nat.le_of_ble_eq_true rfl) rfl (e_X8_sheet (by omega) va ca (xs (i + 1)) (xs (i + 2)) (xs (i + 3))) (fun res D893 hq893 => ?_)
  obtain ⟨rfl, hca893, hf893⟩ := hq893
  show J 1049 [some (.ref 102), some (.ref 0), some (.ref 37), some (.int (nI i))] [.int ((ox_sheet P S Q F T (xs (i + 1)) (xs (i + 2)) (xs (i + 3))).1)] (bf_MD D893)
  have ma1 := mA_fr _ va ma hf893
  refine bf_aload_n r.1 dL_law_1049 rfl ?_
  refine bf_aload_n r.1 dL_law_1050 rfl ?_
  refine bf_iload_n r.1 dL_law_1051 rfl ?_
  refine bf_iconst r.1 (v := nI 1) dL_law_1052 rfl ?_
  refine na_add r dL_law_1053  ?_
  refine hs.1 1054 _ _ _ (i + 1) dL_law_1054 (by omega) ?_
  refine bf_aload_n r.1 dL_law_1055 rfl ?_
  refine bf_iload_n r.1 dL_law_1056 rfl ?_
  refine bf_iconst r.1 (v := nI 2) dL_law_1057 rfl ?_
  refine na_add r dL_law_1058  ?_
  refine hs.1 1059 _ _ _ (i + 2) dL_law_1059 (by omega) ?_
  refine bf_aload_n r.1 dL_law_1060 rfl ?_
  refine bf_iload_n r.1 dL_law_1061 rfl ?_
  refine bf_iconst r.1 (v := nI 3) dL_law_1062 rfl ?_
  refine na_add r dL_law_1063  ?_
  refine hs.1 1064 _ _ _ (i + 3) dL_law_1064 (by omega) ?_
  refine ce_v r (y2 := mX9_sheet) dL_law_1065 li_L_124 mv_X9_sheet rfl (by decide) [.int (xs (i + 1)), .int (xs (i + 2)), .int (xs (i + 3))] [.int ((ox_sheet P S Q F T (xs (i + 1)) (xs (i + 2)) (xs (i + 3))).1)] rfl (Nat.le_of_ble_eq_true rfl) rfl (e_X9_sheet (by omega) va ma1 (xs (i + 1)) (xs (i + 2)) (xs (i + 3))) (fun res D894 hq894 => ?_)
  obtain ⟨rfl, hma894, hf894⟩ := hq894
  show J 1068 [some (.ref 102), some (.ref 0), some (.ref 37), some (.int (nI i))] [.int ((ox_sheet P S Q F T (xs (i + 1)) (xs (i + 2)) (xs (i + 3))).1), .int ((ox_sheet P S Q F T (xs (i + 1)) (xs (i + 2)) (xs (i + 3))).1)] (bf_MD D894)
  have va2 := v_sheet va (xs (i + 1)) (xs (i + 2)) (xs (i + 3))
  have ca2 := cA_fr _ va2 hca893 hf894
  refine bf_icmp_eq r.1 (tgt := 1374) dL_law_1068 (by decide) (fun c895 => ?_) (fun c895 => ?_)
  · exact nx _ _ va2 ca2 hma894
  · exact absurd rfl c895
theorem lc_lose {e : Nat} (he : 20 ≤ e) {J : bf_J} (r : bf_All (bf_Cl e) 57 PL mL J) {xs : Nat → Int32} {Ln : Nat} (hs : scR xs Ln J) (hL : Ln ≤ 448) {i : Nat} (hi : i + 7 ≤ Ln) {D : bf_D} {P : bf_Pn} {S : bf_Sh} {Q : bf_Rd} {F : Nat} {T : Int32} (va : vA (P, S, Q, F, T)) (ca : cA D (P, S, Q, F, T)) (ma : mA D (P, S, Q, F, T)) (nx : ∀ (st : bf_St) (D : bf_D), vA st → cA D st → mA D st → J 1374 [some (.ref 102), some (.ref 0), some (.ref 37), some (.int (nI i))] [] (bf_MD D)) : J 1073 [some (.ref 102), some (.ref 0), some (.ref 37), some (.int (nI i))] [] (bf_MD D) := by
  refine bf_aload_n r.1 dL_law_1073 rfl ?_
  refine bf_aload_n r.1 dL_law_1074 rfl ?_
  refine bf_iload_n r.1 dL_law_1075 rfl ?_
  refine bf_iconst r.1 (v := nI 1) dL_law_1076 rfl ?_
  refine na_add r dL_law_1077  ?_
  refine hs.1 1078 _ _ _ (i + 1) dL_law_1078 (by omega) ?_
  refine ce_v r (y2 := mX8_lose) dL_law_1079 li_L_125 mv_X8_lose rfl (by decide) [.int (xs (i + 1))] [] rfl (Nat.le_of_ble_eq_true rfl) rfl (e_X8_lose (by omega) va ca (xs (i + 1))) (fun res D896 hq896 => ?_)
  obtain ⟨rfl, hca896, hf896⟩ := hq896
  show J 1082 [some (.ref 102), some (.ref 0), some (.ref 37), some (.int (nI i))] [.int ((ox_lose P S Q F T (xs (i + 1))).1)] (bf_MD D896)
  have ma1 := mA_fr _ va ma hf896
  refine bf_aload_n r.1 dL_law_1082 rfl ?_
  refine bf_aload_n r.1 dL_law_1083 rfl ?_
  refine bf_iload_n r.1 dL_law_1084 rfl ?_
  refine bf_iconst r.1 (v := nI 1) dL_law_1085 rfl ?_
  refine na_add r dL_law_1086  ?_
  refine hs.1 1087 _ _ _ (i + 1) dL_law_1087 (by omega) ?_
  refine ce_v r (y2 := mX9_lose) dL_law_1088 li_L_128 mv_X9_lose rfl (by decide) [.int (xs (i + 1))] [.int ((ox_lose P S Q F T (xs (i + 1))).1)] rfl (Nat.le_of_ble_eq_true rfl) rfl (e_X9_lose (by omega) va ma1 (xs (i + 1))) (fun res D897 hq897 => ?_)
  obtain ⟨rfl, hma897, hf897⟩ := hq897
  show J 1091 [some (.ref 102), some (.ref 0), some (.ref 37), some (.int (nI i))] [.int ((ox_lose P S Q F T (xs (i + 1))).1), .int ((ox_lose P S Q F T (xs (i + 1))).1)] (bf_MD D897)
  have va2 := v_lose va (xs (i + 1))
  have ca2 := cA_fr _ va2 hca896 hf897
  refine bf_icmp_eq r.1 (tgt := 1374) dL_law_1091 (by decide) (fun c898 => ?_) (fun c898 => ?_)
  · exact nx _ _ va2 ca2 hma897
  · exact absurd rfl c898
theorem lc_put {e : Nat} (he : 20 ≤ e) {J : bf_J} (r : bf_All (bf_Cl e) 57 PL mL J) {xs : Nat → Int32} {Ln : Nat} (hs : scR xs Ln J) (hL : Ln ≤ 448) {i : Nat} (hi : i + 7 ≤ Ln) {D : bf_D} {P : bf_Pn} {S : bf_Sh} {Q : bf_Rd} {F : Nat} {T : Int32} (va : vA (P, S, Q, F, T)) (ca : cA D (P, S, Q, F, T)) (ma : mA D (P, S, Q, F, T)) (nx : ∀ (st : bf_St) (D : bf_D), vA st → cA D st → mA D st → J 1374 [some (.ref 102), some (.ref 0), some (.ref 37), some (.int (nI i))] [] (bf_MD D)) : J 1096 [some (.ref 102), some (.ref 0), some (.ref 37), some (.int (nI i))] [] (bf_MD D) := by
  refine bf_aload_n r.1 dL_law_1096 rfl ?_
  refine bf_aload_n r.1 dL_law_1097 rfl ?_
  refine bf_iload_n r.1 dL_law_1098 rfl ?_
  refine bf_iconst r.1 (v := nI 1) dL_law_1099 rfl ?_
  refine na_add r dL_law_1100  ?_
  refine hs.1 1101 _ _ _ (i + 1) dL_law_1101 (by omega) ?_
  refine bf_aload_n r.1 dL_law_1102 rfl ?_
  refine bf_iload_n r.1 dL_law_1103 rfl ?_
  refine bf_iconst r.1 (v := nI 2) dL_law_1104 rfl ?_
  refine na_add r dL_law_1105  ?_
  refine hs.1 1106 _ _ _ (i + 2) dL_law_1106 (by omega) ?_
  refine bf_aload_n r.1 dL_law_1107 rfl ?_
  refine bf_iload_n r.1 dL_law_1108 rfl ?_
  refine bf_iconst r.1 (v := nI 3) dL_law_1109 rfl ?_
  refine na_add r dL_law_1110  ?_
  refine hs.1 1111 _ _ _ (i + 3) dL_law_1111 (by omega) ?_
  refine ce_v r (y2 := mX8_put) dL_law_1112 li_L_129 mv_X8_put rfl (by decide) [.int (xs (i + 1)), .int (xs (i + 2)), .int (xs (i + 3))] [] rfl (Nat.le_of_ble_eq_true rfl) rfl (e_X8_put (by omega) va ca (xs (i + 1)) (xs (i + 2)) (xs (i + 3))) (fun res D899 hq899 => ?_)
  obtain ⟨rfl, hca899, hf899⟩ := hq899
  show J 1115 [some (.ref 102), some (.ref 0), some (.ref 37), some (.int (nI i))] [.int ((ox_put P S Q F T (xs (i + 1)) (xs (i + 2)) (xs (i + 3))).1)] (bf_MD D899)
  have ma1 := mA_fr _ va ma hf899
  refine bf_aload_n r.1 dL_law_1115 rfl ?_
  refine bf_aload_n r.1 dL_law_1116 rfl ?_
  refine bf_iload_n r.1 dL_law_1117 rfl ?_
  refine bf_iconst r.1 (v := nI 1) dL_law_1118 rfl ?_
  refine na_add r dL_law_1119  ?_
  refine hs.1 1120 _ _ _ (i + 1) dL_law_1120 (by omega) ?_
  refine bf_aload_n r.1 dL_law_1121 rfl ?_
  refine bf_iload_n r.1 dL_law_1122 rfl ?_
  refine bf_iconst r.1 (v := nI 2) dL_law_1123 rfl ?_
  refine na_add r dL_law_1124  ?_
  refine hs.1 1125 _ _ _ (i + 2) dL_law_1125 (by omega) ?_
  refine bf_aload_n r.1 dL_law_1126 rfl ?_
  refine bf_iload_n r.1 dL_law_1127 rfl ?_
  refine bf_iconst r.1 (v := nI 3) dL_law_1128 rfl ?_
  refine na_add r dL_law_1129  ?_
  refine hs.1 1130 _ _ _ (i + 3) dL_law_1130 (by omega) ?_
  refine ce_v r (y2 := mX9_put) dL_law_1131 li_L_132 mv_X9_put rfl (by decide) [.int (xs (i + 1)), .int (xs (i + 2)), .int (xs (i + 3))] [.int ((ox_put P S Q F T (xs (i + 1)) (xs (i + 2)) (xs (i + 3))).1)] rfl (Nat.le_of_ble_eq_true rfl) rfl (e_X9_put (by omega) va ma1 (xs (i + 1)) (xs (i + 2)) (xs (i + 3))) (fun res D900 hq900 => ?_)
  obtain ⟨rfl, hma900, hf900⟩ := hq900
  show J 1134 [some (.ref 102), some (.ref 0), some (.ref 37), some (.int (nI i))] [.int ((ox_put P S Q F T (xs (i + 1)) (xs (i + 2)) (xs (i + 3))).1), .int ((ox_put P S Q F T (xs (i + 1)) (xs (i + 2)) (xs (i + 3))).1)] (bf_MD D900)
  have va2 := v_put va (xs (i + 1)) (xs (i + 2)) (xs (i + 3))
  have ca2 := cA_fr _ va2 hca899 hf900
  refine bf_icmp_eq r.1 (tgt := 1374) dL_law_1134 (by decide) (fun c901 => ?_) (fun c901 => ?_)
  · exact nx _ _ va2 ca2 hma900
  · exact absurd rfl c901
theorem lc_cell {e : Nat} (he : 20 ≤ e) {J : bf_J} (r : bf_All (bf_Cl e) 57 PL mL J) {xs : Nat → Int32} {Ln : Nat} (hs : scR xs Ln J) (hL : Ln ≤ 448) {i : Nat} (hi : i + 7 ≤ Ln) {D : bf_D} {P : bf_Pn} {S : bf_Sh} {Q : bf_Rd} {F : Nat} {T : Int32} (va : vA (P, S, Q, F, T)) (ca : cA D (P, S, Q, F, T)) (ma : mA D (P, S, Q, F, T)) (nx : ∀ (st : bf_St) (D : bf_D), vA st → cA D st → mA D st → J 1374 [some (.ref 102), some (.ref 0), some (.ref 37), some (.int (nI i))] [] (bf_MD D)) : J 1139 [some (.ref 102), some (.ref 0), some (.ref 37), some (.int (nI i))] [] (bf_MD D) := by
  refine bf_aload_n r.1 dL_law_1139 rfl ?_
  refine bf_aload_n r.1 dL_law_1140 rfl ?_
  refine bf_iload_n r.1 dL_law_1141 rfl ?_
  refine bf_iconst r.1 (v := nI 1) dL_law_1142 rfl ?_
  refine na_add r dL_law_1143  ?_
  refine hs.1 1144 _ _ _ (i + 1) dL_law_1144 (by omega) ?_
  refine bf_aload_n r.1 dL_law_1145 rfl ?_
  refine bf_iload_n r.1 dL_law_1146 rfl ?_
  refine bf_iconst r.1 (v := nI 2) dL_law_1147 rfl ?_
  refine na_add r dL_law_1148  ?_
  refine hs.1 1149 _ _ _ (i + 2) dL_law_1149 (by omega) ?_
  refine bf_aload_n r.1 dL_law_1150 rfl ?_
  refine bf_iload_n r.1 dL_law_1151 rfl ?_
  refine bf_iconst r.1 (v := nI 3) dL_law_1152 rfl ?_
  refine na_add r dL_law_1153  ?_
  refine hs.1 1154 _ _ _ (i + 3) dL_law_1154 (by omega) ?_
  refine ce_v r (y2 := mX8_cell) dL_law_1155 li_L_133 mv_X8_cell rfl (by decide) [.int (xs (i + 1)), .int (xs (i + 2)), .int (xs (i + 3))] [] rfl (Nat.le_of_ble_eq_true rfl) rfl (e_X8_cell (by omega) va ca (xs (i + 1)) (xs (i + 2)) (xs (i + 3))) (fun res D902 hq902 => ?_)
  obtain ⟨rfl, hca902, hf902⟩ := hq902
  show J 1158 [some (.ref 102), some (.ref 0), some (.ref 37), some (.int (nI i))] [.long ((ox_cell P S Q F T (xs (i + 1)) (xs (i + 2)) (xs (i + 3))).1)] (bf_MD D902)
  have ma1 := mA_fr _ va ma hf902
  refine bf_aload_n r.1 dL_law_1158 rfl ?_
  refine bf_aload_n r.1 dL_law_1159 rfl ?_
  refine bf_iload_n r.1 dL_law_1160 rfl ?_
  refine bf_iconst r.1 (v := nI 1) dL_law_1161 rfl ?_
  refine na_add r dL_law_1162  ?_
  refine hs.1 1163 _ _ _ (i + 1) dL_law_1163 (by omega) ?_
  refine bf_aload_n r.1 dL_law_1164 rfl ?_
  refine bf_iload_n r.1 dL_law_1165 rfl ?_
  refine bf_iconst r.1 (v := nI 2) dL_law_1166 rfl ?_
  refine na_add r dL_law_1167  ?_
  refine hs.1 1168 _ _ _ (i + 2) dL_law_1168 (by omega) ?_
  refine bf_aload_n r.1 dL_law_1169 rfl ?_
  refine bf_iload_n r.1 dL_law_1170 rfl ?_
  refine bf_iconst r.1 (v := nI 3) dL_law_1171 rfl ?_
  refine na_add r dL_law_1172  ?_
  refine hs.1 1173 _ _ _ (i + 3) dL_law_1173 (by omega) ?_
  refine ce_v r (y2 := mX9_cell) dL_law_1174 li_L_137 mv_X9_cell rfl (by decide) [.int (xs (i + 1)), .int (xs (i + 2)), .int (xs (i + 3))] [.long ((ox_cell P S Q F T (xs (i + 1)) (xs (i + 2)) (xs (i + 3))).1)] rfl (Nat.le_of_ble_eq_true rfl) rfl (e_X9_cell (by omega) va ma1 (xs (i + 1)) (xs (i + 2)) (xs (i + 3))) (fun res D903 hq903 => ?_)
  obtain ⟨rfl, hma903, hf903⟩ := hq903
  show J 1177 [some (.ref 102), some (.ref 0), some (.ref 37), some (.int (nI i))] [.long ((ox_cell P S Q F T (xs (i + 1)) (xs (i + 2)) (xs (i + 3))).1), .long ((ox_cell P S Q F T (xs (i + 1)) (xs (i + 2)) (xs (i + 3))).1)] (bf_MD D903)
  have va2 := v_cell va (xs (i + 1)) (xs (i + 2)) (xs (i + 3))
  have ca2 := cA_fr _ va2 hca902 hf903
  refine bf_lcmp r.1 dL_law_1177 ?_
  refine bf_if_eq r.1 (tgt := 1374) dL_law_1178 (by decide) (fun c904 => ?_) (fun c904 => ?_)
  · exact nx _ _ va2 ca2 hma903
  · exact absurd ((lg_cmp_eq _ _).mpr rfl) c904
theorem lc_copy {e : Nat} (he : 20 ≤ e) {J : bf_J} (r : bf_All (bf_Cl e) 57 PL mL J) {xs : Nat → Int32} {Ln : Nat} (hs : scR xs Ln J) (hL : Ln ≤ 448) {i : Nat} (hi : i + 7 ≤ Ln) {D : bf_D} {P : bf_Pn} {S : bf_Sh} {Q : bf_Rd} {F : Nat} {T : Int32} (va : vA (P, S, Q, F, T)) (ca : cA D (P, S, Q, F, T)) (ma : mA D (P, S, Q, F, T)) (nx : ∀ (st : bf_St) (D : bf_D), vA st → cA D st → mA D st → J 1374 [some (.ref 102), some (.ref 0), some (.ref 37), some (.int (nI i))] [] (bf_MD D)) : J 1183 [some (.ref 102), some (.ref 0), some (.ref 37), some (.int (nI i))] [] (bf_MD D) := by
  refine bf_aload_n r.1 dL_law_1183 rfl ?_
  refine bf_aload_n r.1 dL_law_1184 rfl ?_
  refine bf_iload_n r.1 dL_law_1185 rfl ?_
  refine bf_iconst r.1 (v := nI 1) dL_law_1186 rfl ?_
  refine na_add r dL_law_1187  ?_
  refine hs.1 1188 _ _ _ (i + 1) dL_law_1188 (by omega) ?_
  refine bf_aload_n r.1 dL_law_1189 rfl ?_
  refine bf_iload_n r.1 dL_law_1190 rfl ?_
  refine bf_iconst r.1 (v := nI 2) dL_law_1191 rfl ?_
  refine na_add r dL_law_1192  ?_
  refine hs.1 1193 _ _ _ (i + 2) dL_law_1193 (by omega) ?_
  refine bf_aload_n r.1 dL_law_1194 rfl ?_
  refine bf_iload_n r.1 dL_law_1195 rfl ?_
  refine bf_iconst r.1 (v := nI 3) dL_law_1196 rfl ?_
  refine na_add r dL_law_1197  ?_
  refine hs.1 1198 _ _ _ (i + 3) dL_law_1198 (by omega) ?_
  refine bf_aload_n r.1 dL_law_1199 rfl ?_
  refine bf_iload_n r.1 dL_law_1200 rfl ?_
  refine bf_iconst r.1 (v := nI 4) dL_law_1201 rfl ?_
  refine na_add r dL_law_1202  ?_
  refine hs.1 1203 _ _ _ (i + 4) dL_law_1203 (by omega) ?_
  refine bf_aload_n r.1 dL_law_1204 rfl ?_
  refine bf_iload_n r.1 dL_law_1205 rfl ?_
  refine bf_iconst r.1 (v := nI 5) dL_law_1206 rfl ?_
  refine na_add r dL_law_1207  ?_
  refine hs.1 1208 _ _ _ (i + 5) dL_law_1208 (by omega) ?_
  refine ce_v r (y2 := mX8_copy) dL_law_1209 li_L_138 mv_X8_copy rfl (by decide) [.int (xs (i + 1)), .int (xs (i + 2)), .int (xs (i + 3)), .int (xs (i + 4)), .int (xs (i + 5))] [] rfl (Nat.le_of_ble_eq_true rfl) rfl (e_X8_copy (by omega) va ca (xs (i + 1)) (xs (i + 2)) (xs (i + 3)) (xs (i + 4)) (xs (i + 5))) (fun res D905 hq905 => ?_)
  obtain ⟨rfl, hca905, hf905⟩ := hq905
  show J 1212 [some (.ref 102), some (.ref 0), some (.ref 37), some (.int (nI i))] [.int ((ox_copy P S Q F T (xs (i + 1)) (xs (i + 2)) (xs (i + 3)) (xs (i + 4)) (xs (i + 5))).1)] (bf_MD D905)
  have ma1 := mA_fr _ va ma hf905
  refine bf_aload_n r.1 dL_law_1212 rfl ?_
  refine bf_aload_n r.1 dL_law_1213 rfl ?_
  refine bf_iload_n r.1 dL_law_1214 rfl ?_
  refine bf_iconst r.1 (v := nI 1) dL_law_1215 rfl ?_
  refine na_add r dL_law_1216  ?_
  refine hs.1 1217 _ _ _ (i + 1) dL_law_1217 (by omega) ?_
  refine bf_aload_n r.1 dL_law_1218 rfl ?_
  refine bf_iload_n r.1 dL_law_1219 rfl ?_
  refine bf_iconst r.1 (v := nI 2) dL_law_1220 rfl ?_
  refine na_add r dL_law_1221  ?_
  refine hs.1 1222 _ _ _ (i + 2) dL_law_1222 (by omega) ?_
  refine bf_aload_n r.1 dL_law_1223 rfl ?_
  refine bf_iload_n r.1 dL_law_1224 rfl ?_
  refine bf_iconst r.1 (v := nI 3) dL_law_1225 rfl ?_
  refine na_add r dL_law_1226  ?_
  refine hs.1 1227 _ _ _ (i + 3) dL_law_1227 (by omega) ?_
  refine bf_aload_n r.1 dL_law_1228 rfl ?_
  refine bf_iload_n r.1 dL_law_1229 rfl ?_
  refine bf_iconst r.1 (v := nI 4) dL_law_1230 rfl ?_
  refine na_add r dL_law_1231  ?_
  refine hs.1 1232 _ _ _ (i + 4) dL_law_1232 (by omega) ?_
  refine bf_aload_n r.1 dL_law_1233 rfl ?_
  refine bf_iload_n r.1 dL_law_1234 rfl ?_
  refine bf_iconst r.1 (v := nI 5) dL_law_1235 rfl ?_
  refine na_add r dL_law_1236  ?_
  refine hs.1 1237 _ _ _ (i + 5) dL_law_1237 (by omega) ?_
  refine ce_v r (y2 := mX9_copy) dL_law_1238 li_L_141 mv_X9_copy rfl (by decide) [.int (xs (i + 1)), .int (xs (i + 2)), .int (xs (i + 3)), .int (xs (i + 4)), .int (xs (i + 5))] [.int ((ox_copy P S Q F T (xs (i + 1)) (xs (i + 2)) (xs (i + 3)) (xs (i + 4)) (xs (i + 5))).1)] rfl (Nat.le_of_ble_eq_true rfl) rfl (e_X9_copy (by omega) va ma1 (xs (i + 1)) (xs (i + 2)) (xs (i + 3)) (xs (i + 4)) (xs (i + 5))) (fun res D906 hq906 => ?_)
  obtain ⟨rfl, hma906, hf906⟩ := hq906
  show J 1241 [some (.ref 102), some (.ref 0), some (.ref 37), some (.int (nI i))] [.int ((ox_copy P S Q F T (xs (i + 1)) (xs (i + 2)) (xs (i + 3)) (xs (i + 4)) (xs (i + 5))).1), .int ((ox_copy P S Q F T (xs (i + 1)) (xs (i + 2)) (xs (i + 3)) (xs (i + 4)) (xs (i + 5))).1)] (bf_MD D906)
  have va2 := v_copy va (xs (i + 1)) (xs (i + 2)) (xs (i + 3)) (xs (i + 4)) (xs (i + 5))
  have ca2 := cA_fr _ va2 hca905 hf906
  refine bf_icmp_eq r.1 (tgt := 1374) dL_law_1241 (by decide) (fun c907 => ?_) (fun c907 => ?_)
  · exact nx _ _ va2 ca2 hma906
  · exact absurd rfl c907
theorem lc_tell {e : Nat} (he : 20 ≤ e) {J : bf_J} (r : bf_All (bf_Cl e) 57 PL mL J) {xs : Nat → Int32} {Ln : Nat} (hs : scR xs Ln J) (hL : Ln ≤ 448) {i : Nat} (hi : i + 7 ≤ Ln) {D : bf_D} {P : bf_Pn} {S : bf_Sh} {Q : bf_Rd} {F : Nat} {T : Int32} (va : vA (P, S, Q, F, T)) (ca : cA D (P, S, Q, F, T)) (ma : mA D (P, S, Q, F, T)) (nx : ∀ (st : bf_St) (D : bf_D), vA st → cA D st → mA D st → J 1374 [some (.ref 102), some (.ref 0), some (.ref 37), some (.int (nI i))] [] (bf_MD D)) : J 1246 [some (.ref 102), some (.ref 0), some (.ref 37), some (.int (nI i))] [] (bf_MD D) := by
  refine bf_aload_n r.1 dL_law_1246 rfl ?_
  refine bf_aload_n r.1 dL_law_1247 rfl ?_
  refine bf_iload_n r.1 dL_law_1248 rfl ?_
  refine bf_iconst r.1 (v := nI 1) dL_law_1249 rfl ?_
  refine na_add r dL_law_1250  ?_
  refine hs.1 1251 _ _ _ (i + 1) dL_law_1251 (by omega) ?_
  refine ce_v r (y2 := mX8_tell) dL_law_1252 li_L_142 mv_X8_tell rfl (by decide) [.int (xs (i + 1))] [] rfl (Nat.le_of_ble_eq_true rfl) rfl (e_X8_tell (by omega) va ca (xs (i + 1))) (fun res D908 hq908 => ?_)
  obtain ⟨rfl, hca908, hf908⟩ := hq908
  show J 1255 [some (.ref 102), some (.ref 0), some (.ref 37), some (.int (nI i))] [.int ((ox_tell P S Q F T (xs (i + 1))).1)] (bf_MD D908)
  have ma1 := mA_fr _ va ma hf908
  refine bf_aload_n r.1 dL_law_1255 rfl ?_
  refine bf_aload_n r.1 dL_law_1256 rfl ?_
  refine bf_iload_n r.1 dL_law_1257 rfl ?_
  refine bf_iconst r.1 (v := nI 1) dL_law_1258 rfl ?_
  refine na_add r dL_law_1259  ?_
  refine hs.1 1260 _ _ _ (i + 1) dL_law_1260 (by omega) ?_
  refine ce_v r (y2 := mX9_tell) dL_law_1261 li_L_145 mv_X9_tell rfl (by decide) [.int (xs (i + 1))] [.int ((ox_tell P S Q F T (xs (i + 1))).1)] rfl (Nat.le_of_ble_eq_true rfl) rfl (e_X9_tell (by omega) va ma1 (xs (i + 1))) (fun res D909 hq909 => ?_)
  obtain ⟨rfl, hma909, hf909⟩ := hq909
  show J 1264 [some (.ref 102), some (.ref 0), some (.ref 37), some (.int (nI i))] [.int ((ox_tell P S Q F T (xs (i + 1))).1), .int ((ox_tell P S Q F T (xs (i + 1))).1)] (bf_MD D909)
  have va2 := v_tell va (xs (i + 1))
  have ca2 := cA_fr _ va2 hca908 hf909
  refine bf_icmp_eq r.1 (tgt := 1374) dL_law_1264 (by decide) (fun c910 => ?_) (fun c910 => ?_)
  · exact nx _ _ va2 ca2 hma909
  · exact absurd rfl c910
theorem lc_hum {e : Nat} (he : 20 ≤ e) {J : bf_J} (r : bf_All (bf_Cl e) 57 PL mL J) {xs : Nat → Int32} {Ln : Nat} (hs : scR xs Ln J) (hL : Ln ≤ 448) {i : Nat} (hi : i + 7 ≤ Ln) {D : bf_D} {P : bf_Pn} {S : bf_Sh} {Q : bf_Rd} {F : Nat} {T : Int32} (va : vA (P, S, Q, F, T)) (ca : cA D (P, S, Q, F, T)) (ma : mA D (P, S, Q, F, T)) (nx : ∀ (st : bf_St) (D : bf_D), vA st → cA D st → mA D st → J 1374 [some (.ref 102), some (.ref 0), some (.ref 37), some (.int (nI i))] [] (bf_MD D)) : J 1269 [some (.ref 102), some (.ref 0), some (.ref 37), some (.int (nI i))] [] (bf_MD D) := by
  refine bf_aload_n r.1 dL_law_1269 rfl ?_
  refine bf_aload_n r.1 dL_law_1270 rfl ?_
  refine bf_iload_n r.1 dL_law_1271 rfl ?_
  refine bf_iconst r.1 (v := nI 1) dL_law_1272 rfl ?_
  refine na_add r dL_law_1273  ?_
  refine hs.1 1274 _ _ _ (i + 1) dL_law_1274 (by omega) ?_
  refine ce_v r (y2 := mX8_hum) dL_law_1275 li_L_146 mv_X8_hum rfl (by decide) [.int (xs (i + 1))] [] rfl (Nat.le_of_ble_eq_true rfl) rfl (e_X8_hum (by omega) va ca (xs (i + 1))) (fun res D911 hq911 => ?_)
  obtain ⟨rfl, hca911, hf911⟩ := hq911
  show J 1278 [some (.ref 102), some (.ref 0), some (.ref 37), some (.int (nI i))] [.int ((ox_hum P S Q F T (xs (i + 1))).1)] (bf_MD D911)
  have ma1 := mA_fr _ va ma hf911
  refine bf_aload_n r.1 dL_law_1278 rfl ?_
  refine bf_aload_n r.1 dL_law_1279 rfl ?_
  refine bf_iload_n r.1 dL_law_1280 rfl ?_
  refine bf_iconst r.1 (v := nI 1) dL_law_1281 rfl ?_
  refine na_add r dL_law_1282  ?_
  refine hs.1 1283 _ _ _ (i + 1) dL_law_1283 (by omega) ?_
  refine ce_v r (y2 := mX9_hum) dL_law_1284 li_L_149 mv_X9_hum rfl (by decide) [.int (xs (i + 1))] [.int ((ox_hum P S Q F T (xs (i + 1))).1)] rfl (Nat.le_of_ble_eq_true rfl) rfl (e_X9_hum (by omega) va ma1 (xs (i + 1))) (fun res D912 hq912 => ?_)
  obtain ⟨rfl, hma912, hf912⟩ := hq912
  show J 1287 [some (.ref 102), some (.ref 0), some (.ref 37), some (.int (nI i))] [.int ((ox_hum P S Q F T (xs (i + 1))).1), .int ((ox_hum P S Q F T (xs (i + 1))).1)] (bf_MD D912)
  have va2 := v_hum va (xs (i + 1))
  have ca2 := cA_fr _ va2 hca911 hf912
  refine bf_icmp_eq r.1 (tgt := 1374) dL_law_1287 (by decide) (fun c913 => ?_) (fun c913 => ?_)
  · exact nx _ _ va2 ca2 hma912
  · exact absurd rfl c913
theorem lc_as {e : Nat} (he : 20 ≤ e) {J : bf_J} (r : bf_All (bf_Cl e) 57 PL mL J) {xs : Nat → Int32} {Ln : Nat} (hs : scR xs Ln J) (hL : Ln ≤ 448) {i : Nat} (hi : i + 7 ≤ Ln) {D : bf_D} {P : bf_Pn} {S : bf_Sh} {Q : bf_Rd} {F : Nat} {T : Int32} (va : vA (P, S, Q, F, T)) (ca : cA D (P, S, Q, F, T)) (ma : mA D (P, S, Q, F, T)) (nx : ∀ (st : bf_St) (D : bf_D), vA st → cA D st → mA D st → J 1374 [some (.ref 102), some (.ref 0), some (.ref 37), some (.int (nI i))] [] (bf_MD D)) : J 1292 [some (.ref 102), some (.ref 0), some (.ref 37), some (.int (nI i))] [] (bf_MD D) := by
  refine bf_aload_n r.1 dL_law_1292 rfl ?_
  refine bf_aload_n r.1 dL_law_1293 rfl ?_
  refine bf_iload_n r.1 dL_law_1294 rfl ?_
  refine bf_iconst r.1 (v := nI 1) dL_law_1295 rfl ?_
  refine na_add r dL_law_1296  ?_
  refine hs.1 1297 _ _ _ (i + 1) dL_law_1297 (by omega) ?_
  refine bf_aload_n r.1 dL_law_1298 rfl ?_
  refine bf_iload_n r.1 dL_law_1299 rfl ?_
  refine bf_iconst r.1 (v := nI 2) dL_law_1300 rfl ?_
  refine na_add r dL_law_1301  ?_
  refine hs.1 1302 _ _ _ (i + 2) dL_law_1302 (by omega) ?_
  refine ce_v r (y2 := mX8_as) dL_law_1303 li_L_150 mv_X8_as rfl (by decide) [.int (xs (i + 1)), .int (xs (i + 2))] [] rfl (Nat.le_of_ble_eq_true rfl) rfl (e_X8_as (by omega) va ca (xs (i + 1)) (xs (i + 2))) (fun res D914 hq914 => ?_)
  obtain ⟨rfl, hca914, hf914⟩ := hq914
  show J 1306 [some (.ref 102), some (.ref 0), some (.ref 37), some (.int (nI i))] [.int ((ox_as P S Q F T (xs (i + 1)) (xs (i + 2))).1)] (bf_MD D914)
  have ma1 := mA_fr _ va ma hf914
  refine bf_aload_n r.1 dL_law_1306 rfl ?_
  refine bf_aload_n r.1 dL_law_1307 rfl ?_
  refine bf_iload_n r.1 dL_law_1308 rfl ?_
  refine bf_iconst r.1 (v := nI 1) dL_law_1309 rfl ?_
  refine na_add r dL_law_1310  ?_
  refine hs.1 1311 _ _ _ (i + 1) dL_law_1311 (by omega) ?_
  refine bf_aload_n r.1 dL_law_1312 rfl ?_
  refine bf_iload_n r.1 dL_law_1313 rfl ?_
  refine bf_iconst r.1 (v := nI 2) dL_law_1314 rfl ?_
  refine na_add r dL_law_1315  ?_
  refine hs.1 1316 _ _ _ (i + 2) dL_law_1316 (by omega) ?_
  refine ce_v r (y2 := mX9_as) dL_law_1317 li_L_153 mv_X9_as rfl (by decide) [.int (xs (i + 1)), .int (xs (i + 2))] [.int ((ox_as P S Q F T (xs (i + 1)) (xs (i + 2))).1)] rfl (Nat.le_of_ble_eq_true rfl) rfl (e_X9_as (by omega) va ma1 (xs (i + 1)) (xs (i + 2))) (fun res D915 hq915 => ?_)
  obtain ⟨rfl, hma915, hf915⟩ := hq915
  show J 1320 [some (.ref 102), some (.ref 0), some (.ref 37), some (.int (nI i))] [.int ((ox_as P S Q F T (xs (i + 1)) (xs (i + 2))).1), .int ((ox_as P S Q F T (xs (i + 1)) (xs (i + 2))).1)] (bf_MD D915)
  have va2 := v_as va (xs (i + 1)) (xs (i + 2))
  have ca2 := cA_fr _ va2 hca914 hf915
  refine bf_icmp_eq r.1 (tgt := 1374) dL_law_1320 (by decide) (fun c916 => ?_) (fun c916 => ?_)
  · exact nx _ _ va2 ca2 hma915
  · exact absurd rfl c916
theorem lc_trace {e : Nat} (he : 20 ≤ e) {J : bf_J} (r : bf_All (bf_Cl e) 57 PL mL J) {xs : Nat → Int32} {Ln : Nat} (hs : scR xs Ln J) (hL : Ln ≤ 448) {i : Nat} (hi : i + 7 ≤ Ln) {D : bf_D} {P : bf_Pn} {S : bf_Sh} {Q : bf_Rd} {F : Nat} {T : Int32} (va : vA (P, S, Q, F, T)) (ca : cA D (P, S, Q, F, T)) (ma : mA D (P, S, Q, F, T)) (nx : ∀ (st : bf_St) (D : bf_D), vA st → cA D st → mA D st → J 1374 [some (.ref 102), some (.ref 0), some (.ref 37), some (.int (nI i))] [] (bf_MD D)) : J 1325 [some (.ref 102), some (.ref 0), some (.ref 37), some (.int (nI i))] [] (bf_MD D) := by
  refine bf_aload_n r.1 dL_law_1325 rfl ?_
  refine cl_v r (y2 := mX8_trace) dL_law_1326 li_L_154 mv_X8_trace rfl (by decide) [] [] rfl (Nat.le_of_ble_eq_true rfl) rfl (c_X8_trace (by omega) ca ) ?_
  show J 1329 [some (.ref 102), some (.ref 0), some (.ref 37), some (.int (nI i))] [.int (ox_trace T)] (bf_MD D)
  refine bf_aload_n r.1 dL_law_1329 rfl ?_
  refine cl_v r (y2 := mX9_trace) dL_law_1330 li_L_157 mv_X9_trace rfl (by decide) [] [.int (ox_trace T)] rfl (Nat.le_of_ble_eq_true rfl) rfl (c_X9_trace (by omega) ma ) ?_
  show J 1333 [some (.ref 102), some (.ref 0), some (.ref 37), some (.int (nI i))] [.int (ox_trace T), .int (ox_trace T)] (bf_MD D)
  refine bf_icmp_eq r.1 (tgt := 1374) dL_law_1333 (by decide) (fun c917 => ?_) (fun c917 => ?_)
  · exact nx _ _ va ca ma
  · exact absurd rfl c917
theorem lc_fault {e : Nat} (he : 20 ≤ e) {J : bf_J} (r : bf_All (bf_Cl e) 57 PL mL J) {xs : Nat → Int32} {Ln : Nat} (hs : scR xs Ln J) (hL : Ln ≤ 448) {i : Nat} (hi : i + 7 ≤ Ln) {D : bf_D} {P : bf_Pn} {S : bf_Sh} {Q : bf_Rd} {F : Nat} {T : Int32} (va : vA (P, S, Q, F, T)) (ca : cA D (P, S, Q, F, T)) (ma : mA D (P, S, Q, F, T)) (nx : ∀ (st : bf_St) (D : bf_D), vA st → cA D st → mA D st → J 1374 [some (.ref 102), some (.ref 0), some (.ref 37), some (.int (nI i))] [] (bf_MD D)) : J 1338 [some (.ref 102), some (.ref 0), some (.ref 37), some (.int (nI i))] [] (bf_MD D) := by
  refine bf_aload_n r.1 dL_law_1338 rfl ?_
  refine cl_v r (y2 := mX8_fault) dL_law_1339 li_L_158 mv_X8_fault rfl (by decide) [] [] rfl (Nat.le_of_ble_eq_true rfl) rfl (c_X8_fault (by omega) ca ) ?_
  show J 1342 [some (.ref 102), some (.ref 0), some (.ref 37), some (.int (nI i))] [.int (ox_fault F)] (bf_MD D)
  refine bf_aload_n r.1 dL_law_1342 rfl ?_
  refine cl_v r (y2 := mX9_fault) dL_law_1343 li_L_161 mv_X9_fault rfl (by decide) [] [.int (ox_fault F)] rfl (Nat.le_of_ble_eq_true rfl) rfl (c_X9_fault (by omega) ma ) ?_
  show J 1346 [some (.ref 102), some (.ref 0), some (.ref 37), some (.int (nI i))] [.int (ox_fault F), .int (ox_fault F)] (bf_MD D)
  refine bf_icmp_eq r.1 (tgt := 1374) dL_law_1346 (by decide) (fun c918 => ?_) (fun c918 => ?_)
  · exact nx _ _ va ca ma
  · exact absurd rfl c918
theorem lc_many {e : Nat} (he : 20 ≤ e) {J : bf_J} (r : bf_All (bf_Cl e) 57 PL mL J) {xs : Nat → Int32} {Ln : Nat} (hs : scR xs Ln J) (hL : Ln ≤ 448) {i : Nat} (hi : i + 7 ≤ Ln) {D : bf_D} {P : bf_Pn} {S : bf_Sh} {Q : bf_Rd} {F : Nat} {T : Int32} (va : vA (P, S, Q, F, T)) (ca : cA D (P, S, Q, F, T)) (ma : mA D (P, S, Q, F, T)) (nx : ∀ (st : bf_St) (D : bf_D), vA st → cA D st → mA D st → J 1374 [some (.ref 102), some (.ref 0), some (.ref 37), some (.int (nI i))] [] (bf_MD D)) : J 1351 [some (.ref 102), some (.ref 0), some (.ref 37), some (.int (nI i))] [] (bf_MD D) := by
  refine bf_aload_n r.1 dL_law_1351 rfl ?_
  refine bf_aload_n r.1 dL_law_1352 rfl ?_
  refine bf_iload_n r.1 dL_law_1353 rfl ?_
  refine bf_iconst r.1 (v := nI 1) dL_law_1354 rfl ?_
  refine na_add r dL_law_1355  ?_
  refine hs.1 1356 _ _ _ (i + 1) dL_law_1356 (by omega) ?_
  refine cl_v r (y2 := mX8_many) dL_law_1357 li_L_162 mv_X8_many rfl (by decide) [.int (xs (i + 1))] [] rfl (Nat.le_of_ble_eq_true rfl) rfl (c_X8_many (by omega) va.1 ca.1 ca.2.2.1 (xs (i + 1))) ?_
  show J 1360 [some (.ref 102), some (.ref 0), some (.ref 37), some (.int (nI i))] [.int (ox_many P Q (xs (i + 1)))] (bf_MD D)
  refine bf_aload_n r.1 dL_law_1360 rfl ?_
  refine bf_aload_n r.1 dL_law_1361 rfl ?_
  refine bf_iload_n r.1 dL_law_1362 rfl ?_
  refine bf_iconst r.1 (v := nI 1) dL_law_1363 rfl ?_
  refine na_add r dL_law_1364  ?_
  refine hs.1 1365 _ _ _ (i + 1) dL_law_1365 (by omega) ?_
  refine cl_v r (y2 := mX9_many) dL_law_1366 li_L_165 mv_X9_many rfl (by decide) [.int (xs (i + 1))] [.int (ox_many P Q (xs (i + 1)))] rfl (Nat.le_of_ble_eq_true rfl) rfl (c_X9_many (by omega) va.1 ma.1 ma.2.2.1 (xs (i + 1))) ?_
  show J 1369 [some (.ref 102), some (.ref 0), some (.ref 37), some (.int (nI i))] [.int (ox_many P Q (xs (i + 1))), .int (ox_many P Q (xs (i + 1)))] (bf_MD D)
  refine bf_icmp_eq r.1 (tgt := 1374) dL_law_1369 (by decide) (fun c919 => ?_) (fun c919 => ?_)
  · exact nx _ _ va ca ma
  · exact absurd rfl c919
theorem sw_in {xs : Int32} {k : Nat} (h : xs = nI k) : xs = nI k := h
theorem ln_7 {Ln i : Nat} (hL : Ln ≤ 448) (hi : i ≤ 448) : (¬ nI Ln - nI 7 < nI i) → i + 7 ≤ Ln := by
  intro h
  have h2 := Int32.not_lt.mp h
  rw [Int32.le_iff_toInt_le, pk_sub_toInt (by omega) (by decide), nI_toInt (by omega)] at h2
  omega
theorem law_loop {e : Nat} (he : 20 ≤ e) {J : bf_J} (r : bf_All (bf_Cl e) 57 PL mL J) {xs : Nat → Int32} {Ln : Nat} (hs : scR xs Ln J) (hL : Ln ≤ 448) : ∀ (f i : Nat) (st : bf_St) (D : bf_D), Ln ≤ i + f → i ≤ 448 → vA st → cA D st → mA D st → J 18 [some (.ref 102), some (.ref 0), some (.ref 37), some (.int (nI i))] [] (bf_MD D) := by
  intro f
  induction f with
  | zero =>
    intro i st D hf hi8 va ca ma
    obtain ⟨P, S, Q, F, T⟩ := st
    refine bf_iload_n r.1 dL_law_18 rfl ?_
    refine bf_aload_n r.1 dL_law_19 rfl ?_
    refine hs.2 20 _ _ _ dL_law_20 ?_
    refine bf_bipush r.1 (v := nI 7) dL_law_21 rfl ?_
    refine bf_isub r.1 dL_law_23 ?_
    refine bf_icmp_gt r.1 (tgt := 1380) dL_law_24 (by decide) (fun c920 => ?_) (fun c920 => ?_)
    · refine bf_iconst r.1 (v := nI 1) dL_law_1380 rfl ?_
      exact r.2.2.2.1 1381 _ _ _ .boolean dL_law_1381 rfl (by decide) rfl rfl
    · exact absurd (ln_7 hL hi8 c920) (by omega)
  | succ f ih =>
    intro i st D hf hi8 va ca ma
    obtain ⟨P, S, Q, F, T⟩ := st
    refine bf_iload_n r.1 dL_law_18 rfl ?_
    refine bf_aload_n r.1 dL_law_19 rfl ?_
    refine hs.2 20 _ _ _ dL_law_20 ?_
    refine bf_bipush r.1 (v := nI 7) dL_law_21 rfl ?_
    refine bf_isub r.1 dL_law_23 ?_
    refine bf_icmp_gt r.1 (tgt := 1380) dL_law_24 (by decide) (fun c921 => ?_) (fun c921 => ?_)
    · refine bf_iconst r.1 (v := nI 1) dL_law_1380 rfl ?_
      exact r.2.2.2.1 1381 _ _ _ .boolean dL_law_1381 rfl (by decide) rfl rfl
    · have hi7 : i + 7 ≤ Ln := ln_7 hL hi8 c921
      refine bf_aload_n r.1 dL_law_27 rfl ?_
      refine bf_iload_n r.1 dL_law_28 rfl ?_
      refine hs.1 29 _ _ _ (i) dL_law_29 (by omega) ?_
      refine bf_bipush r.1 (v := nI 63) dL_law_30 rfl ?_
      refine bf_iand r.1 dL_law_32 ?_
      have nx : ∀ (st : bf_St) (D : bf_D), vA st → cA D st → mA D st → J 1374 [some (.ref 102), some (.ref 0), some (.ref 37), some (.int (nI i))] [] (bf_MD D) := by
        intro st D va ca ma
        refine na_inc r (v := i + 7) (L2 := [some (.ref 102), some (.ref 0), some (.ref 37), some (.int (nI (i + 7)))]) dL_law_1374 rfl (nI_add _ 7) rfl ?_
        refine bf_goto r.1 (tgt := 18) dL_law_1377 (by decide) ?_
        exact ih _ _ _ (by omega) (by omega) va ca ma
      by_cases h0 : (xs (i)) &&& (nI 63) = nI 0
      · refine bf_tabIn r.1 (off := 159) (tgt := 192) dL_law_33 (by rw [h0]; decide) (by rw [h0]; decide) (by rw [h0]; rfl) (by decide) ?_
        exact lc_panel he r hs hL hi7 va ca ma nx
      by_cases h1 : (xs (i)) &&& (nI 63) = nI 1
      · refine bf_tabIn r.1 (off := 212) (tgt := 245) dL_law_33 (by rw [h1]; decide) (by rw [h1]; decide) (by rw [h1]; rfl) (by decide) ?_
        exact lc_ofPlace he r hs hL hi7 va ca ma nx
      by_cases h2 : (xs (i)) &&& (nI 63) = nI 2
      · refine bf_tabIn r.1 (off := 245) (tgt := 278) dL_law_33 (by rw [h2]; decide) (by rw [h2]; decide) (by rw [h2]; rfl) (by decide) ?_
        exact lc_wear he r hs hL hi7 va ca ma nx
      by_cases h3 : (xs (i)) &&& (nI 63) = nI 3
      · refine bf_tabIn r.1 (off := 278) (tgt := 311) dL_law_33 (by rw [h3]; decide) (by rw [h3]; decide) (by rw [h3]; rfl) (by decide) ?_
        exact lc_kill he r hs hL hi7 va ca ma nx
      by_cases h4 : (xs (i)) &&& (nI 63) = nI 4
      · refine bf_tabIn r.1 (off := 311) (tgt := 344) dL_law_33 (by rw [h4]; decide) (by rw [h4]; decide) (by rw [h4]; rfl) (by decide) ?_
        exact lc_jam he r hs hL hi7 va ca ma nx
      by_cases h5 : (xs (i)) &&& (nI 63) = nI 5
      · refine bf_tabIn r.1 (off := 344) (tgt := 377) dL_law_33 (by rw [h5]; decide) (by rw [h5]; decide) (by rw [h5]; rfl) (by decide) ?_
        exact lc_burns he r hs hL hi7 va ca ma nx
      by_cases h6 : (xs (i)) &&& (nI 63) = nI 6
      · refine bf_tabIn r.1 (off := 377) (tgt := 410) dL_law_33 (by rw [h6]; decide) (by rw [h6]; decide) (by rw [h6]; rfl) (by decide) ?_
        exact lc_digits he r hs hL hi7 va ca ma nx
      by_cases h7 : (xs (i)) &&& (nI 63) = nI 7
      · refine bf_tabIn r.1 (off := 410) (tgt := 443) dL_law_33 (by rw [h7]; decide) (by rw [h7]; decide) (by rw [h7]; rfl) (by decide) ?_
        exact lc_bars he r hs hL hi7 va ca ma nx
      by_cases h8 : (xs (i)) &&& (nI 63) = nI 8
      · refine bf_tabIn r.1 (off := 433) (tgt := 466) dL_law_33 (by rw [h8]; decide) (by rw [h8]; decide) (by rw [h8]; rfl) (by decide) ?_
        exact lc_alike he r hs hL hi7 va ca ma nx
      by_cases h9 : (xs (i)) &&& (nI 63) = nI 9
      · refine bf_tabIn r.1 (off := 456) (tgt := 489) dL_law_33 (by rw [h9]; decide) (by rw [h9]; decide) (by rw [h9]; rfl) (by decide) ?_
        exact lc_which he r hs hL hi7 va ca ma nx
      by_cases h10 : (xs (i)) &&& (nI 63) = nI 10
      · refine bf_tabIn r.1 (off := 489) (tgt := 522) dL_law_33 (by rw [h10]; decide) (by rw [h10]; decide) (by rw [h10]; rfl) (by decide) ?_
        exact lc_flips he r hs hL hi7 va ca ma nx
      by_cases h11 : (xs (i)) &&& (nI 63) = nI 11
      · refine bf_tabIn r.1 (off := 522) (tgt := 555) dL_law_33 (by rw [h11]; decide) (by rw [h11]; decide) (by rw [h11]; rfl) (by decide) ?_
        exact lc_counting he r hs hL hi7 va ca ma nx
      by_cases h12 : (xs (i)) &&& (nI 63) = nI 12
      · refine bf_tabIn r.1 (off := 565) (tgt := 598) dL_law_33 (by rw [h12]; decide) (by rw [h12]; decide) (by rw [h12]; rfl) (by decide) ?_
        exact lc_near he r hs hL hi7 va ca ma nx
      by_cases h13 : (xs (i)) &&& (nI 63) = nI 13
      · refine bf_tabIn r.1 (off := 598) (tgt := 631) dL_law_33 (by rw [h13]; decide) (by rw [h13]; decide) (by rw [h13]; rfl) (by decide) ?_
        exact lc_pictures he r hs hL hi7 va ca ma nx
      by_cases h14 : (xs (i)) &&& (nI 63) = nI 14
      · refine bf_tabIn r.1 (off := 611) (tgt := 644) dL_law_33 (by rw [h14]; decide) (by rw [h14]; decide) (by rw [h14]; rfl) (by decide) ?_
        exact lc_go he r hs hL hi7 va ca ma nx
      by_cases h15 : (xs (i)) &&& (nI 63) = nI 15
      · refine bf_tabIn r.1 (off := 634) (tgt := 667) dL_law_33 (by rw [h15]; decide) (by rw [h15]; decide) (by rw [h15]; rfl) (by decide) ?_
        exact lc_dies he r hs hL hi7 va ca ma nx
      by_cases h16 : (xs (i)) &&& (nI 63) = nI 16
      · refine bf_tabIn r.1 (off := 667) (tgt := 700) dL_law_33 (by rw [h16]; decide) (by rw [h16]; decide) (by rw [h16]; rfl) (by decide) ?_
        exact lc_first he r hs hL hi7 va ca ma nx
      by_cases h17 : (xs (i)) &&& (nI 63) = nI 17
      · refine bf_tabIn r.1 (off := 690) (tgt := 723) dL_law_33 (by rw [h17]; decide) (by rw [h17]; decide) (by rw [h17]; rfl) (by decide) ?_
        exact lc_seen he r hs hL hi7 va ca ma nx
      by_cases h18 : (xs (i)) &&& (nI 63) = nI 18
      · refine bf_tabIn r.1 (off := 765) (tgt := 798) dL_law_33 (by rw [h18]; decide) (by rw [h18]; decide) (by rw [h18]; rfl) (by decide) ?_
        exact lc_repair he r hs hL hi7 va ca ma nx
      by_cases h19 : (xs (i)) &&& (nI 63) = nI 19
      · refine bf_tabIn r.1 (off := 788) (tgt := 821) dL_law_33 (by rw [h19]; decide) (by rw [h19]; decide) (by rw [h19]; rfl) (by decide) ?_
        exact lc_order he r hs hL hi7 va ca ma nx
      by_cases h20 : (xs (i)) &&& (nI 63) = nI 20
      · refine bf_tabIn r.1 (off := 851) (tgt := 884) dL_law_33 (by rw [h20]; decide) (by rw [h20]; decide) (by rw [h20]; rfl) (by decide) ?_
        exact lc_reading he r hs hL hi7 va ca ma nx
      by_cases h21 : (xs (i)) &&& (nI 63) = nI 21
      · refine bf_tabIn r.1 (off := 894) (tgt := 927) dL_law_33 (by rw [h21]; decide) (by rw [h21]; decide) (by rw [h21]; rfl) (by decide) ?_
        exact lc_back he r hs hL hi7 va ca ma nx
      by_cases h22 : (xs (i)) &&& (nI 63) = nI 22
      · refine bf_tabIn r.1 (off := 917) (tgt := 950) dL_law_33 (by rw [h22]; decide) (by rw [h22]; decide) (by rw [h22]; rfl) (by decide) ?_
        exact lc_deads he r hs hL hi7 va ca ma nx
      by_cases h23 : (xs (i)) &&& (nI 63) = nI 23
      · refine bf_tabIn r.1 (off := 950) (tgt := 983) dL_law_33 (by rw [h23]; decide) (by rw [h23]; decide) (by rw [h23]; rfl) (by decide) ?_
        exact lc_kinds he r hs hL hi7 va ca ma nx
      by_cases h24 : (xs (i)) &&& (nI 63) = nI 24
      · refine bf_tabIn r.1 (off := 973) (tgt := 1006) dL_law_33 (by rw [h24]; decide) (by rw [h24]; decide) (by rw [h24]; rfl) (by decide) ?_
        exact lc_odds he r hs hL hi7 va ca ma nx
      by_cases h25 : (xs (i)) &&& (nI 63) = nI 25
      · refine bf_tabIn r.1 (off := 997) (tgt := 1030) dL_law_33 (by rw [h25]; decide) (by rw [h25]; decide) (by rw [h25]; rfl) (by decide) ?_
        exact lc_sheet he r hs hL hi7 va ca ma nx
      by_cases h26 : (xs (i)) &&& (nI 63) = nI 26
      · refine bf_tabIn r.1 (off := 1040) (tgt := 1073) dL_law_33 (by rw [h26]; decide) (by rw [h26]; decide) (by rw [h26]; rfl) (by decide) ?_
        exact lc_lose he r hs hL hi7 va ca ma nx
      by_cases h27 : (xs (i)) &&& (nI 63) = nI 27
      · refine bf_tabIn r.1 (off := 1063) (tgt := 1096) dL_law_33 (by rw [h27]; decide) (by rw [h27]; decide) (by rw [h27]; rfl) (by decide) ?_
        exact lc_put he r hs hL hi7 va ca ma nx
      by_cases h28 : (xs (i)) &&& (nI 63) = nI 28
      · refine bf_tabIn r.1 (off := 1106) (tgt := 1139) dL_law_33 (by rw [h28]; decide) (by rw [h28]; decide) (by rw [h28]; rfl) (by decide) ?_
        exact lc_cell he r hs hL hi7 va ca ma nx
      by_cases h29 : (xs (i)) &&& (nI 63) = nI 29
      · refine bf_tabIn r.1 (off := 1150) (tgt := 1183) dL_law_33 (by rw [h29]; decide) (by rw [h29]; decide) (by rw [h29]; rfl) (by decide) ?_
        exact lc_copy he r hs hL hi7 va ca ma nx
      by_cases h30 : (xs (i)) &&& (nI 63) = nI 30
      · refine bf_tabIn r.1 (off := 1213) (tgt := 1246) dL_law_33 (by rw [h30]; decide) (by rw [h30]; decide) (by rw [h30]; rfl) (by decide) ?_
        exact lc_tell he r hs hL hi7 va ca ma nx
      by_cases h31 : (xs (i)) &&& (nI 63) = nI 31
      · refine bf_tabIn r.1 (off := 1236) (tgt := 1269) dL_law_33 (by rw [h31]; decide) (by rw [h31]; decide) (by rw [h31]; rfl) (by decide) ?_
        exact lc_hum he r hs hL hi7 va ca ma nx
      by_cases h32 : (xs (i)) &&& (nI 63) = nI 32
      · refine bf_tabIn r.1 (off := 1259) (tgt := 1292) dL_law_33 (by rw [h32]; decide) (by rw [h32]; decide) (by rw [h32]; rfl) (by decide) ?_
        exact lc_as he r hs hL hi7 va ca ma nx
      by_cases h33 : (xs (i)) &&& (nI 63) = nI 33
      · refine bf_tabIn r.1 (off := 1292) (tgt := 1325) dL_law_33 (by rw [h33]; decide) (by rw [h33]; decide) (by rw [h33]; rfl) (by decide) ?_
        exact lc_trace he r hs hL hi7 va ca ma nx
      by_cases h34 : (xs (i)) &&& (nI 63) = nI 34
      · refine bf_tabIn r.1 (off := 1305) (tgt := 1338) dL_law_33 (by rw [h34]; decide) (by rw [h34]; decide) (by rw [h34]; rfl) (by decide) ?_
        exact lc_fault he r hs hL hi7 va ca ma nx
      by_cases h35 : (xs (i)) &&& (nI 63) = nI 35
      · refine bf_tabIn r.1 (off := 1318) (tgt := 1351) dL_law_33 (by rw [h35]; decide) (by rw [h35]; decide) (by rw [h35]; rfl) (by decide) ?_
        exact lc_many he r hs hL hi7 va ca ma nx
      refine bf_tabOut r.1 (tgt := 1374) dL_law_33 (by have q0 := lv_neT h0 (a := 0) (by decide); have q1 := lv_neT h1 (a := 1) (by decide); have q2 := lv_neT h2 (a := 2) (by decide); have q3 := lv_neT h3 (a := 3) (by decide); have q4 := lv_neT h4 (a := 4) (by decide); have q5 := lv_neT h5 (a := 5) (by decide); have q6 := lv_neT h6 (a := 6) (by decide); have q7 := lv_neT h7 (a := 7) (by decide); have q8 := lv_neT h8 (a := 8) (by decide); have q9 := lv_neT h9 (a := 9) (by decide); have q10 := lv_neT h10 (a := 10) (by decide); have q11 := lv_neT h11 (a := 11) (by decide); have q12 := lv_neT h12 (a := 12) (by decide); have q13 := lv_neT h13 (a := 13) (by decide); have q14 := lv_neT h14 (a := 14) (by decide); have q15 := lv_neT h15 (a := 15) (by decide); have q16 := lv_neT h16 (a := 16) (by decide); have q17 := lv_neT h17 (a := 17) (by decide); have q18 := lv_neT h18 (a := 18) (by decide); have q19 := lv_neT h19 (a := 19) (by decide); have q20 := lv_neT h20 (a := 20) (by decide); have q21 := lv_neT h21 (a := 21) (by decide); have q22 := lv_neT h22 (a := 22) (by decide); have q23 := lv_neT h23 (a := 23) (by decide); have q24 := lv_neT h24 (a := 24) (by decide); have q25 := lv_neT h25 (a := 25) (by decide); have q26 := lv_neT h26 (a := 26) (by decide); have q27 := lv_neT h27 (a := 27) (by decide); have q28 := lv_neT h28 (a := 28) (by decide); have q29 := lv_neT h29 (a := 29) (by decide); have q30 := lv_neT h30 (a := 30) (by decide); have q31 := lv_neT h31 (a := 31) (by decide); have q32 := lv_neT h32 (a := 32) (by decide); have q33 := lv_neT h33 (a := 33) (by decide); have q34 := lv_neT h34 (a := 34) (by decide); have q35 := lv_neT h35 (a := 35) (by decide); omega) (by decide) ?_
      exact nx _ _ va ca ma
