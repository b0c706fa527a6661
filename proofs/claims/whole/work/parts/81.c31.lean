/-! the law: its cases -/
set_option maxRecDepth 100000 in
theorem L_type {x : aX} {nm : String} {post : aPost} {b L n xa : Nat} {xs : Nat → Int32} {h : AH} (X : aOk x 20 cL_law RL nm (some .boolean) 51 15694 post) (hs : x.2.2.2.2.2 = some (b, L, xs)) (k : Nat) (hk : 4 * k + 4 ≤ L) (hL : L ≤ 2048) (hI0 : lwI x.1 xa h) (kk : ∀ h' : AH, lwI x.1 xa h' → AW x 51 15694 n h' 929 (lwV b xa ((4 * k : Nat) : Int)) []) : AW x 51 15694 n h 168 (lwV b xa ((4 * k : Nat) : Int)) [] := by
  obtain ⟨fs, fn, fp, fi, fk, ft, fe, un, sz, sm, tr, hI, hW, hM⟩ := hI0
  obtain ⟨hok, ⟨hn, -⟩, he, hun, ⟨z, hz, hz2, ht⟩, hsm, -⟩ := id hI
  obtain ⟨xo, hxo⟩ := xW_t hW
  refine A_al1 X dL_law_168 ?_
  refine A_al0 X dL_law_169 ?_
  refine A_il3 X dL_law_170 ?_
  refine A_iconst X dL_law_171 ?_
  refine A_iadd X dL_law_172 ?_
  refine A_sld X hs (4 * k + 1) (by omega) (by omega) dL_law_173 ?_
  refine A_eVi1 X (x_type (xin _) hI hW) hxo knX10_type mlL_13 dL_law_174 (fun h1 p1 => ?_)
  have hM1 := mW_fr hM (fun q _ _ => p1.1 q (by omega))
  obtain ⟨mo, hmo⟩ := mW_t hM1
  refine A_al2 X dL_law_177 ?_
  refine A_al0 X dL_law_178 ?_
  refine A_il3 X dL_law_179 ?_
  refine A_iconst X dL_law_180 ?_
  refine A_iadd X dL_law_181 ?_
  refine A_sld X hs (4 * k + 1) (by omega) (by omega) dL_law_182 ?_
  refine A_eVi1 X (M_type (xin _) (by omega) hM1) hmo knX11_type mlL_17 dL_law_183 (fun h2 p2 => ?_)
  refine A_icmpE (t := 929) X dL_law_186 ?_
  exact kk h2 ⟨_, _, _, _, _, _, _, _, _, _, _, I_type hI, xW_fr p1.2 (fun q _ _ => p2.1 q (by omega)), p2.2⟩
set_option maxRecDepth 100000 in
theorem L_clear {x : aX} {nm : String} {post : aPost} {b L n xa : Nat} {xs : Nat → Int32} {h : AH} (X : aOk x 20 cL_law RL nm (some .boolean) 51 15694 post) (hs : x.2.2.2.2.2 = some (b, L, xs)) (k : Nat) (hk : 4 * k + 4 ≤ L) (hL : L ≤ 2048) (hI0 : lwI x.1 xa h) (kk : ∀ h' : AH, lwI x.1 xa h' → AW x 51 15694 n h' 929 (lwV b xa ((4 * k : Nat) : Int)) []) : AW x 51 15694 n h 191 (lwV b xa ((4 * k : Nat) : Int)) [] := by
  obtain ⟨fs, fn, fp, fi, fk, ft, fe, un, sz, sm, tr, hI, hW, hM⟩ := hI0
  obtain ⟨hok, ⟨hn, -⟩, he, hun, ⟨z, hz, hz2, ht⟩, hsm, -⟩ := id hI
  obtain ⟨xo, hxo⟩ := xW_t hW
  refine A_al1 X dL_law_191 ?_
  refine A_eVi0 X (x_clear hI hW) hxo knX10_clear mlL_18 dL_law_192 (fun h1 p1 => ?_)
  have hM1 := mW_fr hM (fun q _ _ => p1.1 q (by omega))
  obtain ⟨mo, hmo⟩ := mW_t hM1
  refine A_al2 X dL_law_195 ?_
  refine A_eVi0 X (M_clear hM1) hmo knX11_clear mlL_22 dL_law_196 (fun h2 p2 => ?_)
  refine A_icmpE (t := 929) X dL_law_199 ?_
  exact kk h2 ⟨_, _, _, _, _, _, _, _, _, _, _, I_clear hI, xW_fr p1.2 (fun q _ _ => p2.1 q (by omega)), p2.2⟩
set_option maxRecDepth 100000 in
theorem L_suit {x : aX} {nm : String} {post : aPost} {b L n xa : Nat} {xs : Nat → Int32} {h : AH} (X : aOk x 20 cL_law RL nm (some .boolean) 51 15694 post) (hs : x.2.2.2.2.2 = some (b, L, xs)) (k : Nat) (hk : 4 * k + 4 ≤ L) (hL : L ≤ 2048) (hI0 : lwI x.1 xa h) (kk : ∀ h' : AH, lwI x.1 xa h' → AW x 51 15694 n h' 929 (lwV b xa ((4 * k : Nat) : Int)) []) : AW x 51 15694 n h 204 (lwV b xa ((4 * k : Nat) : Int)) [] := by
  obtain ⟨fs, fn, fp, fi, fk, ft, fe, un, sz, sm, tr, hI, hW, hM⟩ := hI0
  obtain ⟨hok, ⟨hn, -⟩, he, hun, ⟨z, hz, hz2, ht⟩, hsm, -⟩ := id hI
  obtain ⟨xo, hxo⟩ := xW_t hW
  refine A_al1 X dL_law_204 ?_
  refine A_eVi0 X (x_suit hz hI hW) hxo knX10_suit mlL_23 dL_law_205 (fun h1 p1 => ?_)
  have hM1 := mW_fr hM (fun q _ _ => p1.1 q (by omega))
  obtain ⟨mo, hmo⟩ := mW_t hM1
  refine A_al2 X dL_law_208 ?_
  refine A_eVi0 X (M_suit hz hz2 ht hok hM1) hmo knX11_suit mlL_26 dL_law_209 (fun h2 p2 => ?_)
  refine A_icmpE (t := 929) X dL_law_212 ?_
  exact kk h2 ⟨_, _, _, _, _, _, _, _, _, _, _, I_suit hI, xW_fr p1.2 (fun q _ _ => p2.1 q (by omega)), p2.2⟩
set_option maxRecDepth 100000 in
theorem L_good {x : aX} {nm : String} {post : aPost} {b L n xa : Nat} {xs : Nat → Int32} {h : AH} (X : aOk x 20 cL_law RL nm (some .boolean) 51 15694 post) (hs : x.2.2.2.2.2 = some (b, L, xs)) (k : Nat) (hk : 4 * k + 4 ≤ L) (hL : L ≤ 2048) (hI0 : lwI x.1 xa h) (kk : ∀ h' : AH, lwI x.1 xa h' → AW x 51 15694 n h' 929 (lwV b xa ((4 * k : Nat) : Int)) []) : AW x 51 15694 n h 217 (lwV b xa ((4 * k : Nat) : Int)) [] := by
  obtain ⟨fs, fn, fp, fi, fk, ft, fe, un, sz, sm, tr, hI, hW, hM⟩ := hI0
  obtain ⟨hok, ⟨hn, -⟩, he, hun, ⟨z, hz, hz2, ht⟩, hsm, -⟩ := id hI
  obtain ⟨xo, hxo⟩ := xW_t hW
  refine A_al1 X dL_law_217 ?_
  refine A_al0 X dL_law_218 ?_
  refine A_il3 X dL_law_219 ?_
  refine A_iconst X dL_law_220 ?_
  refine A_iadd X dL_law_221 ?_
  refine A_sld X hs (4 * k + 1) (by omega) (by omega) dL_law_222 ?_
  refine A_al0 X dL_law_223 ?_
  refine A_il3 X dL_law_224 ?_
  refine A_iconst X dL_law_225 ?_
  refine A_iadd X dL_law_226 ?_
  refine A_sld X hs (4 * k + 2) (by omega) (by omega) dL_law_227 ?_
  refine A_dVi2 X (x_good (xin _) (xin _) hI hW) hxo knX10_good mlL_27 dL_law_228 ?_
  obtain ⟨mo, hmo⟩ := mW_t hM
  obtain ⟨ak, bg, mt, fr, f9, f10, f11, f12, f13, t0, t1, t2, t3, t4, t5, t6, t7, t8, -⟩ := id hM
  refine A_al2 X dL_law_231 ?_
  refine A_al0 X dL_law_232 ?_
  refine A_il3 X dL_law_233 ?_
  refine A_iconst X dL_law_234 ?_
  refine A_iadd X dL_law_235 ?_
  refine A_sld X hs (4 * k + 1) (by omega) (by omega) dL_law_236 ?_
  refine A_al0 X dL_law_237 ?_
  refine A_il3 X dL_law_238 ?_
  refine A_iconst X dL_law_239 ?_
  refine A_iadd X dL_law_240 ?_
  refine A_sld X hs (4 * k + 2) (by omega) (by omega) dL_law_241 ?_
  refine A_dVi2 X (m_good (xin _) (xin _) hok t0 t1 t3) hmo knX11_good mlL_31 dL_law_242 ?_
  refine A_icmpE (t := 929) X dL_law_245 ?_
  exact kk h ⟨_, _, _, _, _, _, _, _, _, _, _, hI, hW, hM⟩
set_option maxRecDepth 100000 in
theorem L_values {x : aX} {nm : String} {post : aPost} {b L n xa : Nat} {xs : Nat → Int32} {h : AH} (X : aOk x 20 cL_law RL nm (some .boolean) 51 15694 post) (hs : x.2.2.2.2.2 = some (b, L, xs)) (k : Nat) (hk : 4 * k + 4 ≤ L) (hL : L ≤ 2048) (hI0 : lwI x.1 xa h) (kk : ∀ h' : AH, lwI x.1 xa h' → AW x 51 15694 n h' 929 (lwV b xa ((4 * k : Nat) : Int)) []) : AW x 51 15694 n h 250 (lwV b xa ((4 * k : Nat) : Int)) [] := by
  obtain ⟨fs, fn, fp, fi, fk, ft, fe, un, sz, sm, tr, hI, hW, hM⟩ := hI0
  obtain ⟨hok, ⟨hn, -⟩, he, hun, ⟨z, hz, hz2, ht⟩, hsm, -⟩ := id hI
  obtain ⟨xo, hxo⟩ := xW_t hW
  refine A_al1 X dL_law_250 ?_
  refine A_al0 X dL_law_251 ?_
  refine A_il3 X dL_law_252 ?_
  refine A_iconst X dL_law_253 ?_
  refine A_iadd X dL_law_254 ?_
  refine A_sld X hs (4 * k + 1) (by omega) (by omega) dL_law_255 ?_
  refine A_al0 X dL_law_256 ?_
  refine A_il3 X dL_law_257 ?_
  refine A_iconst X dL_law_258 ?_
  refine A_iadd X dL_law_259 ?_
  refine A_sld X hs (4 * k + 2) (by omega) (by omega) dL_law_260 ?_
  refine A_dVi2 X (x_values (xin _) (xin _) hI hW) hxo knX10_values mlL_32 dL_law_261 ?_
  obtain ⟨mo, hmo⟩ := mW_t hM
  obtain ⟨ak, bg, mt, fr, f9, f10, f11, f12, f13, t0, t1, t2, t3, t4, t5, t6, t7, t8, -⟩ := id hM
  refine A_al2 X dL_law_264 ?_
  refine A_al0 X dL_law_265 ?_
  refine A_il3 X dL_law_266 ?_
  refine A_iconst X dL_law_267 ?_
  refine A_iadd X dL_law_268 ?_
  refine A_sld X hs (4 * k + 1) (by omega) (by omega) dL_law_269 ?_
  refine A_al0 X dL_law_270 ?_
  refine A_il3 X dL_law_271 ?_
  refine A_iconst X dL_law_272 ?_
  refine A_iadd X dL_law_273 ?_
  refine A_sld X hs (4 * k + 2) (by omega) (by omega) dL_law_274 ?_
  refine A_dVi2 X (m_values (xin _) (xin _) hok t0 t1) hmo knX11_values mlL_35 dL_law_275 ?_
  refine A_icmpE (t := 929) X dL_law_278 ?_
  exact kk h ⟨_, _, _, _, _, _, _, _, _, _, _, hI, hW, hM⟩
set_option maxRecDepth 100000 in
theorem L_now {x : aX} {nm : String} {post : aPost} {b L n xa : Nat} {xs : Nat → Int32} {h : AH} (X : aOk x 20 cL_law RL nm (some .boolean) 51 15694 post) (hs : x.2.2.2.2.2 = some (b, L, xs)) (k : Nat) (hk : 4 * k + 4 ≤ L) (hL : L ≤ 2048) (hI0 : lwI x.1 xa h) (kk : ∀ h' : AH, lwI x.1 xa h' → AW x 51 15694 n h' 929 (lwV b xa ((4 * k : Nat) : Int)) []) : AW x 51 15694 n h 283 (lwV b xa ((4 * k : Nat) : Int)) [] := by
  obtain ⟨fs, fn, fp, fi, fk, ft, fe, un, sz, sm, tr, hI, hW, hM⟩ := hI0
  obtain ⟨hok, ⟨hn, -⟩, he, hun, ⟨z, hz, hz2, ht⟩, hsm, -⟩ := id hI
  obtain ⟨xo, hxo⟩ := xW_t hW
  refine A_al1 X dL_law_283 ?_
  refine A_al0 X dL_law_284 ?_
  refine A_il3 X dL_law_285 ?_
  refine A_iconst X dL_law_286 ?_
  refine A_iadd X dL_law_287 ?_
  refine A_sld X hs (4 * k + 1) (by omega) (by omega) dL_law_288 ?_
  refine A_dVi1 X (x_now (xin _) hI hW) hxo knX10_now mlL_36 dL_law_289 ?_
  obtain ⟨mo, hmo⟩ := mW_t hM
  obtain ⟨ak, bg, mt, fr, f9, f10, f11, f12, f13, t0, t1, t2, t3, t4, t5, t6, t7, t8, -⟩ := id hM
  refine A_al2 X dL_law_292 ?_
  refine A_al0 X dL_law_293 ?_
  refine A_il3 X dL_law_294 ?_
  refine A_iconst X dL_law_295 ?_
  refine A_iadd X dL_law_296 ?_
  refine A_sld X hs (4 * k + 1) (by omega) (by omega) dL_law_297 ?_
  refine A_dVi1 X (m_now (xin _) hn hok t0 t1 t3) hmo knX11_now mlL_39 dL_law_298 ?_
  refine A_icmpE (t := 929) X dL_law_301 ?_
  exact kk h ⟨_, _, _, _, _, _, _, _, _, _, _, hI, hW, hM⟩
set_option maxRecDepth 100000 in
theorem L_gives {x : aX} {nm : String} {post : aPost} {b L n xa : Nat} {xs : Nat → Int32} {h : AH} (X : aOk x 20 cL_law RL nm (some .boolean) 51 15694 post) (hs : x.2.2.2.2.2 = some (b, L, xs)) (k : Nat) (hk : 4 * k + 4 ≤ L) (hL : L ≤ 2048) (hI0 : lwI x.1 xa h) (kk : ∀ h' : AH, lwI x.1 xa h' → AW x 51 15694 n h' 929 (lwV b xa ((4 * k : Nat) : Int)) []) : AW x 51 15694 n h 306 (lwV b xa ((4 * k : Nat) : Int)) [] := by
  obtain ⟨fs, fn, fp, fi, fk, ft, fe, un, sz, sm, tr, hI, hW, hM⟩ := hI0
  obtain ⟨hok, ⟨hn, -⟩, he, hun, ⟨z, hz, hz2, ht⟩, hsm, -⟩ := id hI
  obtain ⟨xo, hxo⟩ := xW_t hW
  refine A_al1 X dL_law_306 ?_
  refine A_al0 X dL_law_307 ?_
  refine A_il3 X dL_law_308 ?_
  refine A_iconst X dL_law_309 ?_
  refine A_iadd X dL_law_310 ?_
  refine A_sld X hs (4 * k + 1) (by omega) (by omega) dL_law_311 ?_
  refine A_al0 X dL_law_312 ?_
  refine A_il3 X dL_law_313 ?_
  refine A_iconst X dL_law_314 ?_
  refine A_iadd X dL_law_315 ?_
  refine A_sld X hs (4 * k + 2) (by omega) (by omega) dL_law_316 ?_
  refine A_eVi2 X (x_gives (xin _) (xin _) hI hW) hxo knX10_gives mlL_40 dL_law_317 (fun h1 p1 => ?_)
  have hM1 := mW_fr hM (fun q _ _ => p1.1 q (by omega))
  obtain ⟨mo, hmo⟩ := mW_t hM1
  refine A_al2 X dL_law_320 ?_
  refine A_al0 X dL_law_321 ?_
  refine A_il3 X dL_law_322 ?_
  refine A_iconst X dL_law_323 ?_
  refine A_iadd X dL_law_324 ?_
  refine A_sld X hs (4 * k + 1) (by omega) (by omega) dL_law_325 ?_
  refine A_al0 X dL_law_326 ?_
  refine A_il3 X dL_law_327 ?_
  refine A_iconst X dL_law_328 ?_
  refine A_iadd X dL_law_329 ?_
  refine A_sld X hs (4 * k + 2) (by omega) (by omega) dL_law_330 ?_
  refine A_eVi2 X (M_gives (xin _) (xin _) hok.1 hun hM1) hmo knX11_gives mlL_43 dL_law_331 (fun h2 p2 => ?_)
  refine A_icmpE (t := 929) X dL_law_334 ?_
  exact kk h2 ⟨_, _, _, _, _, _, _, _, _, _, _, I_gives hI, xW_fr p1.2 (fun q _ _ => p2.1 q (by omega)), p2.2⟩
set_option maxRecDepth 100000 in
theorem L_steps {x : aX} {nm : String} {post : aPost} {b L n xa : Nat} {xs : Nat → Int32} {h : AH} (X : aOk x 20 cL_law RL nm (some .boolean) 51 15694 post) (hs : x.2.2.2.2.2 = some (b, L, xs)) (k : Nat) (hk : 4 * k + 4 ≤ L) (hL : L ≤ 2048) (hI0 : lwI x.1 xa h) (kk : ∀ h' : AH, lwI x.1 xa h' → AW x 51 15694 n h' 929 (lwV b xa ((4 * k : Nat) : Int)) []) : AW x 51 15694 n h 339 (lwV b xa ((4 * k : Nat) : Int)) [] := by
  obtain ⟨fs, fn, fp, fi, fk, ft, fe, un, sz, sm, tr, hI, hW, hM⟩ := hI0
  obtain ⟨hok, ⟨hn, -⟩, he, hun, ⟨z, hz, hz2, ht⟩, hsm, -⟩ := id hI
  obtain ⟨xo, hxo⟩ := xW_t hW
  refine A_al1 X dL_law_339 ?_
  refine A_al0 X dL_law_340 ?_
  refine A_il3 X dL_law_341 ?_
  refine A_iconst X dL_law_342 ?_
  refine A_iadd X dL_law_343 ?_
  refine A_sld X hs (4 * k + 1) (by omega) (by omega) dL_law_344 ?_
  refine A_eVi1 X (x_steps (xin _) hI hW) hxo knX10_steps mlL_44 dL_law_345 (fun h1 p1 => ?_)
  have hM1 := mW_fr hM (fun q _ _ => p1.1 q (by omega))
  obtain ⟨mo, hmo⟩ := mW_t hM1
  refine A_al2 X dL_law_348 ?_
  refine A_al0 X dL_law_349 ?_
  refine A_il3 X dL_law_350 ?_
  refine A_iconst X dL_law_351 ?_
  refine A_iadd X dL_law_352 ?_
  refine A_sld X hs (4 * k + 1) (by omega) (by omega) dL_law_353 ?_
  refine A_eVi1 X (M_steps (xin _) hok.2.2.2.1 hn hun hM1) hmo knX11_steps mlL_47 dL_law_354 (fun h2 p2 => ?_)
  refine A_icmpE (t := 929) X dL_law_357 ?_
  exact kk h2 ⟨_, _, _, _, _, _, _, _, _, _, _, I_steps hI, xW_fr p1.2 (fun q _ _ => p2.1 q (by omega)), p2.2⟩
set_option maxRecDepth 100000 in
theorem L_undo {x : aX} {nm : String} {post : aPost} {b L n xa : Nat} {xs : Nat → Int32} {h : AH} (X : aOk x 20 cL_law RL nm (some .boolean) 51 15694 post) (hs : x.2.2.2.2.2 = some (b, L, xs)) (k : Nat) (hk : 4 * k + 4 ≤ L) (hL : L ≤ 2048) (hI0 : lwI x.1 xa h) (kk : ∀ h' : AH, lwI x.1 xa h' → AW x 51 15694 n h' 929 (lwV b xa ((4 * k : Nat) : Int)) []) : AW x 51 15694 n h 362 (lwV b xa ((4 * k : Nat) : Int)) [] := by
  obtain ⟨fs, fn, fp, fi, fk, ft, fe, un, sz, sm, tr, hI, hW, hM⟩ := hI0
  obtain ⟨hok, ⟨hn, -⟩, he, hun, ⟨z, hz, hz2, ht⟩, hsm, -⟩ := id hI
  obtain ⟨xo, hxo⟩ := xW_t hW
  refine A_al1 X dL_law_362 ?_
  refine A_eVi0 X (x_undo hI hW) hxo knX10_undo mlL_48 dL_law_363 (fun h1 p1 => ?_)
  have hM1 := mW_fr hM (fun q _ _ => p1.1 q (by omega))
  obtain ⟨mo, hmo⟩ := mW_t hM1
  refine A_al2 X dL_law_366 ?_
  refine A_eVi0 X (M_undo hun hM1) hmo knX11_undo mlL_51 dL_law_367 (fun h2 p2 => ?_)
  refine A_icmpE (t := 929) X dL_law_370 ?_
  exact kk h2 ⟨_, _, _, _, _, _, _, _, _, _, _, I_undo hI hW, xW_fr p1.2 (fun q _ _ => p2.1 q (by omega)), p2.2⟩
set_option maxRecDepth 100000 in
theorem L_envy {x : aX} {nm : String} {post : aPost} {b L n xa : Nat} {xs : Nat → Int32} {h : AH} (X : aOk x 20 cL_law RL nm (some .boolean) 51 15694 post) (hs : x.2.2.2.2.2 = some (b, L, xs)) (k : Nat) (hk : 4 * k + 4 ≤ L) (hL : L ≤ 2048) (hI0 : lwI x.1 xa h) (kk : ∀ h' : AH, lwI x.1 xa h' → AW x 51 15694 n h' 929 (lwV b xa ((4 * k : Nat) : Int)) []) : AW x 51 15694 n h 375 (lwV b xa ((4 * k : Nat) : Int)) [] := by
  obtain ⟨fs, fn, fp, fi, fk, ft, fe, un, sz, sm, tr, hI, hW, hM⟩ := hI0
  obtain ⟨hok, ⟨hn, -⟩, he, hun, ⟨z, hz, hz2, ht⟩, hsm, -⟩ := id hI
  obtain ⟨xo, hxo⟩ := xW_t hW
  refine A_al1 X dL_law_375 ?_
  refine A_al0 X dL_law_376 ?_
  refine A_il3 X dL_law_377 ?_
  refine A_iconst X dL_law_378 ?_
  refine A_iadd X dL_law_379 ?_
  refine A_sld X hs (4 * k + 1) (by omega) (by omega) dL_law_380 ?_
  refine A_dVi1 X (x_envy (xin _) hI hW) hxo knX10_envy mlL_52 dL_law_381 ?_
  obtain ⟨mo, hmo⟩ := mW_t hM
  obtain ⟨ak, bg, mt, fr, f9, f10, f11, f12, f13, t0, t1, t2, t3, t4, t5, t6, t7, t8, -⟩ := id hM
  refine A_al2 X dL_law_384 ?_
  refine A_al0 X dL_law_385 ?_
  refine A_il3 X dL_law_386 ?_
  refine A_iconst X dL_law_387 ?_
  refine A_iadd X dL_law_388 ?_
  refine A_sld X hs (4 * k + 1) (by omega) (by omega) dL_law_389 ?_
  refine A_dVi1 X (m_envy (xin _) hn hok t0 t1 t3) hmo knX11_envy mlL_55 dL_law_390 ?_
  refine A_icmpE (t := 929) X dL_law_393 ?_
  exact kk h ⟨_, _, _, _, _, _, _, _, _, _, _, hI, hW, hM⟩
