/-! THE LAW: its 32 cases -/
theorem lg_cmp_self (x : Int64) : lg_cmp x x = 0 := by simp [lg_cmp]
set_option maxHeartbeats 4000000 in
set_option maxRecDepth 100000 in
theorem law_0 {p : Program} {l : Launch} {e : Env} {s : State} {m : MethodId} {below : List Frame} {meth : Method} {c : Code} {b L : Nat} {xs : Nat → Int32} {E : cE} {tt : Nat × Nat × Nat} {i : Nat} (C0 : lw_At p s m meth c b L xs) (hL : L ≤ 3584) (hi : i + 7 ≤ L) (K : LH p l e s m below meth c b E tt (i + 7) 18) : LH p l e s m below meth c b E tt i 176 := by
  intro X B F G P nh nc no nn mt om H locs ls hI hw hl
  have hx := C0.1
  have hb := C0.2.1
  have C := LAc C0
  refine lv_aload_n hx hb dL_law_176 rfl (lv_at hl 1 rfl) ?_
  refine la_arg C0 hw (lv_at hl 0 rfl) (lv_at hl 3 rfl) hL hi 1 (by decide) (by decide) dL_law_177 dL_law_178 dL_law_179 dL_law_180 dL_law_181 ?_
  refine la_arg C0 hw (lv_at hl 0 rfl) (lv_at hl 3 rfl) hL hi 2 (by decide) (by decide) dL_law_182 dL_law_183 dL_law_184 dL_law_185 dL_law_186 ?_
  refine la_arg C0 hw (lv_at hl 0 rfl) (lv_at hl 3 rfl) hL hi 3 (by decide) (by decide) dL_law_187 dL_law_188 dL_law_189 dL_law_190 dL_law_191 ?_
  refine la_arg C0 hw (lv_at hl 0 rfl) (lv_at hl 3 rfl) hL hi 4 (by decide) (by decide) dL_law_192 dL_law_193 dL_law_194 dL_law_195 dL_law_196 ?_
  refine la_arg C0 hw (lv_at hl 0 rfl) (lv_at hl 3 rfl) hL hi 5 (by decide) (by decide) dL_law_197 dL_law_198 dL_law_199 dL_law_200 dL_law_201 ?_
  refine la_arg6 C0 hw (lv_at hl 0 rfl) (lv_at hl 3 rfl) hL hi dL_law_202 dL_law_203 dL_law_204 dL_law_206 dL_law_207 ?_
  refine kV C hw (c_X11_metal E tt B F G hI.R (xs (i + 1)) (xs (i + 2)) (xs (i + 3)) (xs (i + 4)) (xs (i + 5)) (xs (i + 6))) vy_X11_metal ml_L_13 (rcv hw (hI.R.f rfl) rfl (by decide) (q2 := (RX11, TX11, 19)) rfl) rfl hl.1 (rest := []) rfl dL_law_208 (Nat.le_of_ble_eq_true rfl) ⟨by decide, by decide⟩ ⟨by show _ ≤ 600000; omega, by show _ ≤ 7302250; omega⟩ (fun v0 ws0 H locs hp0 hq0 => ?_)
  clear hw
  obtain ⟨rfl, F1, G1, hk, hkg, hv, hvg, rfl⟩ := hp0
  have hw := hq0
  have hS1 := hI.S.k hk.1 hkg
  refine W.eq (g2 := F0 m 211 ls [.int (sp_metal (xs (i + 1)) (xs (i + 2)) (xs (i + 3)) (xs (i + 4)) (xs (i + 5)) (xs (i + 6)))]) rfl ?_
  refine lv_aload_n hx hb dL_law_211 rfl (lv_at hl 2 rfl) ?_
  refine la_arg C0 hw (lv_at hl 0 rfl) (lv_at hl 3 rfl) hL hi 1 (by decide) (by decide) dL_law_212 dL_law_213 dL_law_214 dL_law_215 dL_law_216 ?_
  refine la_arg C0 hw (lv_at hl 0 rfl) (lv_at hl 3 rfl) hL hi 2 (by decide) (by decide) dL_law_217 dL_law_218 dL_law_219 dL_law_220 dL_law_221 ?_
  refine la_arg C0 hw (lv_at hl 0 rfl) (lv_at hl 3 rfl) hL hi 3 (by decide) (by decide) dL_law_222 dL_law_223 dL_law_224 dL_law_225 dL_law_226 ?_
  refine la_arg C0 hw (lv_at hl 0 rfl) (lv_at hl 3 rfl) hL hi 4 (by decide) (by decide) dL_law_227 dL_law_228 dL_law_229 dL_law_230 dL_law_231 ?_
  refine la_arg C0 hw (lv_at hl 0 rfl) (lv_at hl 3 rfl) hL hi 5 (by decide) (by decide) dL_law_232 dL_law_233 dL_law_234 dL_law_235 dL_law_236 ?_
  refine la_arg6 C0 hw (lv_at hl 0 rfl) (lv_at hl 3 rfl) hL hi dL_law_237 dL_law_238 dL_law_239 dL_law_241 dL_law_242 ?_
  refine kV C hw (c_X12_metal E tt B F1 G1 hI.M  (xs (i + 1)) (xs (i + 2)) (xs (i + 3)) (xs (i + 4)) (xs (i + 5)) (xs (i + 6))) vy_X12_metal ml_L_17 (rcv hw (hI.M.m rfl) rfl (by decide) (q2 := (RX12, TX12, 49)) rfl) rfl hl.1 (rest := [.int (sp_metal (xs (i + 1)) (xs (i + 2)) (xs (i + 3)) (xs (i + 4)) (xs (i + 5)) (xs (i + 6)))]) rfl dL_law_243 (Nat.le_of_ble_eq_true rfl) ⟨by decide, by decide⟩ ⟨by show _ ≤ 600000; omega, by show _ ≤ 7302250; omega⟩ (fun v1 ws1 H locs hp1 hq1 => ?_)
  clear hw
  obtain ⟨rfl, rfl⟩ := hp1
  have hw := hq1
  refine W.eq (g2 := F0 m 246 ls [.int (sp_metal (xs (i + 1)) (xs (i + 2)) (xs (i + 3)) (xs (i + 4)) (xs (i + 5)) (xs (i + 6))), .int (sp_metal (xs (i + 1)) (xs (i + 2)) (xs (i + 3)) (xs (i + 4)) (xs (i + 5)) (xs (i + 6)))]) rfl ?_
  refine lv_icmp_eq (tgt := 1370) hx hb dL_law_246 (by decide) (fun _ => ?_) (fun h9 => absurd (rfl) h9)
  exact la_fin C0 hL hi K (hI.view hk.w (lo_metal _ _ _ _ _ _) LG.rf (by rw [hv, s_metal, rF_eq hk.1, hI.v]) (by rw [hvg, rG_eq hkg, hI.vg]) (hS1.keep (st_metal_GI hS1.1 _ _ _ _ _ _) (st_metal_KR _ _ _ _ _ _)) (Or.inl rfl)) hw hl (by omega) (by omega)
set_option maxHeartbeats 4000000 in
set_option maxRecDepth 100000 in
theorem law_1 {p : Program} {l : Launch} {e : Env} {s : State} {m : MethodId} {below : List Frame} {meth : Method} {c : Code} {b L : Nat} {xs : Nat → Int32} {E : cE} {tt : Nat × Nat × Nat} {i : Nat} (C0 : lw_At p s m meth c b L xs) (hL : L ≤ 3584) (hi : i + 7 ≤ L) (K : LH p l e s m below meth c b E tt (i + 7) 18) : LH p l e s m below meth c b E tt i 251 := by
  intro X B F G P nh nc no nn mt om H locs ls hI hw hl
  have hx := C0.1
  have hb := C0.2.1
  have C := LAc C0
  refine lv_aload_n hx hb dL_law_251 rfl (lv_at hl 1 rfl) ?_
  refine la_arg C0 hw (lv_at hl 0 rfl) (lv_at hl 3 rfl) hL hi 1 (by decide) (by decide) dL_law_252 dL_law_253 dL_law_254 dL_law_255 dL_law_256 ?_
  refine la_arg C0 hw (lv_at hl 0 rfl) (lv_at hl 3 rfl) hL hi 2 (by decide) (by decide) dL_law_257 dL_law_258 dL_law_259 dL_law_260 dL_law_261 ?_
  refine kV C hw (c_X11_set E tt B F G hI.R (xs (i + 1)) (xs (i + 2))) vy_X11_set ml_L_18 (rcv hw (hI.R.f rfl) rfl (by decide) (q2 := (RX11, TX11, 19)) rfl) rfl hl.1 (rest := []) rfl dL_law_262 (Nat.le_of_ble_eq_true rfl) ⟨by decide, by decide⟩ ⟨by show _ ≤ 600000; omega, by show _ ≤ 7302250; omega⟩ (fun v0 ws0 H locs hp0 hq0 => ?_)
  clear hw
  obtain ⟨rfl, F1, G1, hk, hkg, hv, hvg, rfl⟩ := hp0
  have hw := hq0
  have hS1 := hI.S.k hk.1 hkg
  refine W.eq (g2 := F0 m 265 ls [.int (sp_set (vF F) (xs (i + 1)) (xs (i + 2)))]) rfl ?_
  refine lv_aload_n hx hb dL_law_265 rfl (lv_at hl 2 rfl) ?_
  refine la_arg C0 hw (lv_at hl 0 rfl) (lv_at hl 3 rfl) hL hi 1 (by decide) (by decide) dL_law_266 dL_law_267 dL_law_268 dL_law_269 dL_law_270 ?_
  refine la_arg C0 hw (lv_at hl 0 rfl) (lv_at hl 3 rfl) hL hi 2 (by decide) (by decide) dL_law_271 dL_law_272 dL_law_273 dL_law_274 dL_law_275 ?_
  refine kV C hw (c_X12_set E tt B F1 G1 hI.M  (xs (i + 1)) (xs (i + 2))) vy_X12_set ml_L_22 (rcv hw (hI.M.m rfl) rfl (by decide) (q2 := (RX12, TX12, 49)) rfl) rfl hl.1 (rest := [.int (sp_set (vF F) (xs (i + 1)) (xs (i + 2)))]) rfl dL_law_276 (Nat.le_of_ble_eq_true rfl) ⟨by decide, by decide⟩ ⟨by show _ ≤ 600000; omega, by show _ ≤ 7302250; omega⟩ (fun v1 ws1 H locs hp1 hq1 => ?_)
  clear hw
  obtain ⟨rfl, rfl⟩ := hp1
  have hw := hq1
  refine W.eq (g2 := F0 m 279 ls [.int (sp_set F1 (xs (i + 1)) (xs (i + 2))), .int (sp_set (vF F) (xs (i + 1)) (xs (i + 2)))]) rfl ?_
  refine lv_icmp_eq (tgt := 1370) hx hb dL_law_279 (by decide) (fun _ => ?_) (fun h9 => absurd (show sp_set (vF F) (xs (i + 1)) (xs (i + 2)) = sp_set (rF F1) (xs (i + 1)) (xs (i + 2)) by rw [hI.v, rF_eq hk.1]) h9)
  exact la_fin C0 hL hi K (hI.view hk.w (lo_set _ _) LG.rf (by rw [hv, s_set, rF_eq hk.1, hI.v]) (by rw [hvg, rG_eq hkg, hI.vg]) (hS1.keep (st_set_GI hS1.1 _ _) (st_set_KR _ _)) (Or.inl rfl)) hw hl (by omega) (by omega)
set_option maxHeartbeats 4000000 in
set_option maxRecDepth 100000 in
theorem law_2 {p : Program} {l : Launch} {e : Env} {s : State} {m : MethodId} {below : List Frame} {meth : Method} {c : Code} {b L : Nat} {xs : Nat → Int32} {E : cE} {tt : Nat × Nat × Nat} {i : Nat} (C0 : lw_At p s m meth c b L xs) (hL : L ≤ 3584) (hi : i + 7 ≤ L) (K : LH p l e s m below meth c b E tt (i + 7) 18) : LH p l e s m below meth c b E tt i 284 := by
  intro X B F G P nh nc no nn mt om H locs ls hI hw hl
  have hx := C0.1
  have hb := C0.2.1
  have C := LAc C0
  refine lv_aload_n hx hb dL_law_284 rfl (lv_at hl 1 rfl) ?_
  refine la_arg C0 hw (lv_at hl 0 rfl) (lv_at hl 3 rfl) hL hi 1 (by decide) (by decide) dL_law_285 dL_law_286 dL_law_287 dL_law_288 dL_law_289 ?_
  refine la_arg C0 hw (lv_at hl 0 rfl) (lv_at hl 3 rfl) hL hi 2 (by decide) (by decide) dL_law_290 dL_law_291 dL_law_292 dL_law_293 dL_law_294 ?_
  refine la_arg C0 hw (lv_at hl 0 rfl) (lv_at hl 3 rfl) hL hi 3 (by decide) (by decide) dL_law_295 dL_law_296 dL_law_297 dL_law_298 dL_law_299 ?_
  refine kV C hw (c_X11_puller E tt B F G hI.R (xs (i + 1)) (xs (i + 2)) (xs (i + 3))) vy_X11_puller ml_L_23 (rcv hw (hI.R.f rfl) rfl (by decide) (q2 := (RX11, TX11, 19)) rfl) rfl hl.1 (rest := []) rfl dL_law_300 (Nat.le_of_ble_eq_true rfl) ⟨by decide, by decide⟩ ⟨by show _ ≤ 600000; omega, by show _ ≤ 7302250; omega⟩ (fun v0 ws0 H locs hp0 hq0 => ?_)
  clear hw
  obtain ⟨rfl, F1, G1, hk, hkg, hv, hvg, rfl⟩ := hp0
  have hw := hq0
  have hS1 := hI.S.k hk.1 hkg
  refine W.eq (g2 := F0 m 303 ls [.int (sp_puller (xs (i + 1)) (xs (i + 2)) (xs (i + 3)))]) rfl ?_
  refine lv_aload_n hx hb dL_law_303 rfl (lv_at hl 2 rfl) ?_
  refine la_arg C0 hw (lv_at hl 0 rfl) (lv_at hl 3 rfl) hL hi 1 (by decide) (by decide) dL_law_304 dL_law_305 dL_law_306 dL_law_307 dL_law_308 ?_
  refine la_arg C0 hw (lv_at hl 0 rfl) (lv_at hl 3 rfl) hL hi 2 (by decide) (by decide) dL_law_309 dL_law_310 dL_law_311 dL_law_312 dL_law_313 ?_
  refine la_arg C0 hw (lv_at hl 0 rfl) (lv_at hl 3 rfl) hL hi 3 (by decide) (by decide) dL_law_314 dL_law_315 dL_law_316 dL_law_317 dL_law_318 ?_
  refine kV C hw (c_X12_puller E tt B F1 G1 hI.M  (xs (i + 1)) (xs (i + 2)) (xs (i + 3))) vy_X12_puller ml_L_27 (rcv hw (hI.M.m rfl) rfl (by decide) (q2 := (RX12, TX12, 49)) rfl) rfl hl.1 (rest := [.int (sp_puller (xs (i + 1)) (xs (i + 2)) (xs (i + 3)))]) rfl dL_law_319 (Nat.le_of_ble_eq_true rfl) ⟨by decide, by decide⟩ ⟨by show _ ≤ 600000; omega, by show _ ≤ 7302250; omega⟩ (fun v1 ws1 H locs hp1 hq1 => ?_)
  clear hw
  obtain ⟨rfl, rfl⟩ := hp1
  have hw := hq1
  refine W.eq (g2 := F0 m 322 ls [.int (sp_puller (xs (i + 1)) (xs (i + 2)) (xs (i + 3))), .int (sp_puller (xs (i + 1)) (xs (i + 2)) (xs (i + 3)))]) rfl ?_
  refine lv_icmp_eq (tgt := 1370) hx hb dL_law_322 (by decide) (fun _ => ?_) (fun h9 => absurd (rfl) h9)
  exact la_fin C0 hL hi K (hI.view hk.w (lo_puller _ _ _) LG.rf (by rw [hv, s_puller, rF_eq hk.1, hI.v]) (by rw [hvg, rG_eq hkg, hI.vg]) (hS1.keep (st_puller_GI hS1.1 _ _ _) (st_puller_KR _ _ _)) (Or.inl rfl)) hw hl (by omega) (by omega)
set_option maxHeartbeats 4000000 in
set_option maxRecDepth 100000 in
theorem law_3 {p : Program} {l : Launch} {e : Env} {s : State} {m : MethodId} {below : List Frame} {meth : Method} {c : Code} {b L : Nat} {xs : Nat → Int32} {E : cE} {tt : Nat × Nat × Nat} {i : Nat} (C0 : lw_At p s m meth c b L xs) (hL : L ≤ 3584) (hi : i + 7 ≤ L) (K : LH p l e s m below meth c b E tt (i + 7) 18) : LH p l e s m below meth c b E tt i 327 := by
  intro X B F G P nh nc no nn mt om H locs ls hI hw hl
  have hx := C0.1
  have hb := C0.2.1
  have C := LAc C0
  refine lv_aload_n hx hb dL_law_327 rfl (lv_at hl 1 rfl) ?_
  refine la_arg C0 hw (lv_at hl 0 rfl) (lv_at hl 3 rfl) hL hi 1 (by decide) (by decide) dL_law_328 dL_law_329 dL_law_330 dL_law_331 dL_law_332 ?_
  refine la_arg C0 hw (lv_at hl 0 rfl) (lv_at hl 3 rfl) hL hi 2 (by decide) (by decide) dL_law_333 dL_law_334 dL_law_335 dL_law_336 dL_law_337 ?_
  refine kV C hw (c_X11_hole E tt B F G hI.R hI.X_ hI.n_h (xs (i + 1)) (xs (i + 2))) vy_X11_hole ml_L_28 (rcv hw (hI.R.f rfl) rfl (by decide) (q2 := (RX11, TX11, 19)) rfl) rfl hl.1 (rest := []) rfl dL_law_338 (Nat.le_of_ble_eq_true rfl) ⟨by decide, by decide⟩ ⟨by show _ ≤ 600000; omega, by show _ ≤ 7302250; omega⟩ (fun v0 ws0 H locs hp0 hq0 => ?_)
  clear hw
  obtain ⟨rfl, hor⟩ := hp0
  have hw := hq0
  rcases hor with ⟨i0, hi0, hp0, hn0, h8, B1, hB, rfl⟩ | ⟨hno, rfl⟩
  · have hI2 := hI.hole hi0 hn0 h8
    have hS1 := hI.S.k (F1 := uF (uF (zF F (20 + (8 * i0 + nh i0))) (20 + (8 * i0 + nh i0)) 0 (xs (i + 2))) (12 + i0) 1 (nI (nh i0 + 1))) (G1 := zG G (20 + (8 * i0 + nh i0))) (((KW.rf0.z (by omega)).w (by omega)).w (by omega)).1 (fun z hz => zG_o (by omega))
    have hl : lv_has ls 4 [(0, .ref b), (1, .ref (B1 0)), (2, .ref (B1 100)), (3, .int (nI i))] := by rw [hB 0 (by omega), hB 100 (by omega)]; exact hl
    refine W.eq (g2 := F0 m 341 ls [.int (sp_hole nh (xs (i + 1)) (xs (i + 2)))]) rfl ?_
    refine lv_aload_n hx hb dL_law_341 rfl (lv_at hl 2 rfl) ?_
    refine la_arg C0 hw (lv_at hl 0 rfl) (lv_at hl 3 rfl) hL hi 1 (by decide) (by decide) dL_law_342 dL_law_343 dL_law_344 dL_law_345 dL_law_346 ?_
    refine la_arg C0 hw (lv_at hl 0 rfl) (lv_at hl 3 rfl) hL hi 2 (by decide) (by decide) dL_law_347 dL_law_348 dL_law_349 dL_law_350 dL_law_351 ?_
    refine kV C hw (c_X12_hole E tt B1 _ _ hI2.M nh hS1.hn (xs (i + 1)) (xs (i + 2))) vy_X12_hole ml_L_31 (rcv hw (hI2.M.m rfl) rfl (by decide) (q2 := (RX12, TX12, 49)) rfl) rfl hl.1 (rest := [.int (sp_hole nh (xs (i + 1)) (xs (i + 2)))]) rfl dL_law_352 (Nat.le_of_ble_eq_true rfl) ⟨by decide, by decide⟩ ⟨by show _ ≤ 600000; omega, by show _ ≤ 7302250; omega⟩ (fun v1 ws1 H locs hp1 hq1 => ?_)
    clear hw
    obtain ⟨rfl, rfl⟩ := hp1
    have hw := hq1
    refine W.eq (g2 := F0 m 355 ls [.int (sp_hole nh (xs (i + 1)) (xs (i + 2))), .int (sp_hole nh (xs (i + 1)) (xs (i + 2)))]) rfl ?_
    rw [hp0] at hw
    refine lv_icmp_eq (tgt := 1370) hx hb dL_law_355 (by decide) (fun _ => ?_) (fun h9 => absurd (rfl) h9)
    exact la_fin C0 hL hi K hI2 hw hl (by omega) (by omega)
  · have hz := hno
    refine W.eq (g2 := F0 m 341 ls [.int (sp_hole nh (xs (i + 1)) (xs (i + 2)))]) rfl ?_
    refine lv_aload_n hx hb dL_law_341 rfl (lv_at hl 2 rfl) ?_
    refine la_arg C0 hw (lv_at hl 0 rfl) (lv_at hl 3 rfl) hL hi 1 (by decide) (by decide) dL_law_342 dL_law_343 dL_law_344 dL_law_345 dL_law_346 ?_
    refine la_arg C0 hw (lv_at hl 0 rfl) (lv_at hl 3 rfl) hL hi 2 (by decide) (by decide) dL_law_347 dL_law_348 dL_law_349 dL_law_350 dL_law_351 ?_
    refine kV C hw (c_X12_hole E tt B F G hI.M nh hI.S.hn (xs (i + 1)) (xs (i + 2))) vy_X12_hole ml_L_31 (rcv hw (hI.M.m rfl) rfl (by decide) (q2 := (RX12, TX12, 49)) rfl) rfl hl.1 (rest := [.int (sp_hole nh (xs (i + 1)) (xs (i + 2)))]) rfl dL_law_352 (Nat.le_of_ble_eq_true rfl) ⟨by decide, by decide⟩ ⟨by show _ ≤ 600000; omega, by show _ ≤ 7302250; omega⟩ (fun v1 ws1 H locs hp1 hq1 => ?_)
    clear hw
    obtain ⟨rfl, rfl⟩ := hp1
    have hw := hq1
    rw [st_hole_no hno] at hw
    refine W.eq (g2 := F0 m 355 ls [.int (sp_hole nh (xs (i + 1)) (xs (i + 2))), .int (sp_hole nh (xs (i + 1)) (xs (i + 2)))]) rfl ?_
    refine lv_icmp_eq (tgt := 1370) hx hb dL_law_355 (by decide) (fun _ => ?_) (fun h9 => absurd (rfl) h9)
    exact la_fin C0 hL hi K hI hw hl (by omega) (by omega)
set_option maxHeartbeats 4000000 in
set_option maxRecDepth 100000 in
theorem law_4 {p : Program} {l : Launch} {e : Env} {s : State} {m : MethodId} {below : List Frame} {meth : Method} {c : Code} {b L : Nat} {xs : Nat → Int32} {E : cE} {tt : Nat × Nat × Nat} {i : Nat} (C0 : lw_At p s m meth c b L xs) (hL : L ≤ 3584) (hi : i + 7 ≤ L) (K : LH p l e s m below meth c b E tt (i + 7) 18) : LH p l e s m below meth c b E tt i 360 := by
  intro X B F G P nh nc no nn mt om H locs ls hI hw hl
  have hx := C0.1
  have hb := C0.2.1
  have C := LAc C0
  refine lv_aload_n hx hb dL_law_360 rfl (lv_at hl 1 rfl) ?_
  refine la_arg C0 hw (lv_at hl 0 rfl) (lv_at hl 3 rfl) hL hi 1 (by decide) (by decide) dL_law_361 dL_law_362 dL_law_363 dL_law_364 dL_law_365 ?_
  refine la_arg C0 hw (lv_at hl 0 rfl) (lv_at hl 3 rfl) hL hi 2 (by decide) (by decide) dL_law_366 dL_law_367 dL_law_368 dL_law_369 dL_law_370 ?_
  refine la_arg C0 hw (lv_at hl 0 rfl) (lv_at hl 3 rfl) hL hi 3 (by decide) (by decide) dL_law_371 dL_law_372 dL_law_373 dL_law_374 dL_law_375 ?_
  refine kV C hw (c_X11_told E tt B F G hI.R (xs (i + 1)) (xs (i + 2)) (xs (i + 3))) vy_X11_told ml_L_32 (rcv hw (hI.R.f rfl) rfl (by decide) (q2 := (RX11, TX11, 19)) rfl) rfl hl.1 (rest := []) rfl dL_law_376 (Nat.le_of_ble_eq_true rfl) ⟨by decide, by decide⟩ ⟨by show _ ≤ 600000; omega, by show _ ≤ 7302250; omega⟩ (fun v0 ws0 H locs hp0 hq0 => ?_)
  clear hw
  obtain ⟨rfl, rfl⟩ := hp0
  have hw := hq0
  refine W.eq (g2 := F0 m 379 ls [.int (sp_told (vF F) nh (xs (i + 1)) (xs (i + 2)) (xs (i + 3)))]) rfl ?_
  refine lv_aload_n hx hb dL_law_379 rfl (lv_at hl 2 rfl) ?_
  refine la_arg C0 hw (lv_at hl 0 rfl) (lv_at hl 3 rfl) hL hi 1 (by decide) (by decide) dL_law_380 dL_law_381 dL_law_382 dL_law_383 dL_law_384 ?_
  refine la_arg C0 hw (lv_at hl 0 rfl) (lv_at hl 3 rfl) hL hi 2 (by decide) (by decide) dL_law_385 dL_law_386 dL_law_387 dL_law_388 dL_law_389 ?_
  refine la_arg C0 hw (lv_at hl 0 rfl) (lv_at hl 3 rfl) hL hi 3 (by decide) (by decide) dL_law_390 dL_law_391 dL_law_392 dL_law_393 dL_law_394 ?_
  refine kV C hw (c_X12_told E tt B F G hI.M nh hI.S.hn (xs (i + 1)) (xs (i + 2)) (xs (i + 3))) vy_X12_told ml_L_35 (rcv hw (hI.M.m rfl) rfl (by decide) (q2 := (RX12, TX12, 49)) rfl) rfl hl.1 (rest := [.int (sp_told (vF F) nh (xs (i + 1)) (xs (i + 2)) (xs (i + 3)))]) rfl dL_law_395 (Nat.le_of_ble_eq_true rfl) ⟨by decide, by decide⟩ ⟨by show _ ≤ 600000; omega, by show _ ≤ 7302250; omega⟩ (fun v1 ws1 H locs hp1 hq1 => ?_)
  clear hw
  obtain ⟨rfl, rfl⟩ := hp1
  have hw := hq1
  refine W.eq (g2 := F0 m 398 ls [.int (sp_told F nh (xs (i + 1)) (xs (i + 2)) (xs (i + 3))), .int (sp_told (vF F) nh (xs (i + 1)) (xs (i + 2)) (xs (i + 3)))]) rfl ?_
  refine lv_icmp_eq (tgt := 1370) hx hb dL_law_398 (by decide) (fun _ => ?_) (fun h9 => absurd (show sp_told (vF F) nh (xs (i + 1)) (xs (i + 2)) (xs (i + 3)) = sp_told (rF F) nh (xs (i + 1)) (xs (i + 2)) (xs (i + 3)) by rw [hI.v]) h9)
  exact la_fin C0 hL hi K hI hw hl (by omega) (by omega)
set_option maxHeartbeats 4000000 in
set_option maxRecDepth 100000 in
theorem law_5 {p : Program} {l : Launch} {e : Env} {s : State} {m : MethodId} {below : List Frame} {meth : Method} {c : Code} {b L : Nat} {xs : Nat → Int32} {E : cE} {tt : Nat × Nat × Nat} {i : Nat} (C0 : lw_At p s m meth c b L xs) (hL : L ≤ 3584) (hi : i + 7 ≤ L) (K : LH p l e s m below meth c b E tt (i + 7) 18) : LH p l e s m below meth c b E tt i 403 := by
  intro X B F G P nh nc no nn mt om H locs ls hI hw hl
  have hx := C0.1
  have hb := C0.2.1
  have C := LAc C0
  refine lv_aload_n hx hb dL_law_403 rfl (lv_at hl 1 rfl) ?_
  refine la_arg C0 hw (lv_at hl 0 rfl) (lv_at hl 3 rfl) hL hi 1 (by decide) (by decide) dL_law_404 dL_law_405 dL_law_406 dL_law_407 dL_law_408 ?_
  refine la_arg C0 hw (lv_at hl 0 rfl) (lv_at hl 3 rfl) hL hi 2 (by decide) (by decide) dL_law_409 dL_law_410 dL_law_411 dL_law_412 dL_law_413 ?_
  refine kV C hw (c_X11_gauge E tt B F G hI.R (xs (i + 1)) (xs (i + 2))) vy_X11_gauge ml_L_36 (rcv hw (hI.R.f rfl) rfl (by decide) (q2 := (RX11, TX11, 19)) rfl) rfl hl.1 (rest := []) rfl dL_law_414 (Nat.le_of_ble_eq_true rfl) ⟨by decide, by decide⟩ ⟨by show _ ≤ 600000; omega, by show _ ≤ 7302250; omega⟩ (fun v0 ws0 H locs hp0 hq0 => ?_)
  clear hw
  obtain ⟨rfl, rfl⟩ := hp0
  have hw := hq0
  refine W.eq (g2 := F0 m 417 ls [.int (sp_gauge (vF F) nh (xs (i + 1)) (xs (i + 2)))]) rfl ?_
  refine lv_aload_n hx hb dL_law_417 rfl (lv_at hl 2 rfl) ?_
  refine la_arg C0 hw (lv_at hl 0 rfl) (lv_at hl 3 rfl) hL hi 1 (by decide) (by decide) dL_law_418 dL_law_419 dL_law_420 dL_law_421 dL_law_422 ?_
  refine la_arg C0 hw (lv_at hl 0 rfl) (lv_at hl 3 rfl) hL hi 2 (by decide) (by decide) dL_law_423 dL_law_424 dL_law_425 dL_law_426 dL_law_427 ?_
  refine kV C hw (c_X12_gauge E tt B F G hI.M nh hI.S.hn (xs (i + 1)) (xs (i + 2))) vy_X12_gauge ml_L_39 (rcv hw (hI.M.m rfl) rfl (by decide) (q2 := (RX12, TX12, 49)) rfl) rfl hl.1 (rest := [.int (sp_gauge (vF F) nh (xs (i + 1)) (xs (i + 2)))]) rfl dL_law_428 (Nat.le_of_ble_eq_true rfl) ⟨by decide, by decide⟩ ⟨by show _ ≤ 600000; omega, by show _ ≤ 7302250; omega⟩ (fun v1 ws1 H locs hp1 hq1 => ?_)
  clear hw
  obtain ⟨rfl, rfl⟩ := hp1
  have hw := hq1
  refine W.eq (g2 := F0 m 431 ls [.int (sp_gauge F nh (xs (i + 1)) (xs (i + 2))), .int (sp_gauge (vF F) nh (xs (i + 1)) (xs (i + 2)))]) rfl ?_
  refine lv_icmp_eq (tgt := 1370) hx hb dL_law_431 (by decide) (fun _ => ?_) (fun h9 => absurd (show sp_gauge (vF F) nh (xs (i + 1)) (xs (i + 2)) = sp_gauge (rF F) nh (xs (i + 1)) (xs (i + 2)) by rw [hI.v]) h9)
  exact la_fin C0 hL hi K hI hw hl (by omega) (by omega)
set_option maxHeartbeats 4000000 in
set_option maxRecDepth 100000 in
theorem law_6 {p : Program} {l : Launch} {e : Env} {s : State} {m : MethodId} {below : List Frame} {meth : Method} {c : Code} {b L : Nat} {xs : Nat → Int32} {E : cE} {tt : Nat × Nat × Nat} {i : Nat} (C0 : lw_At p s m meth c b L xs) (hL : L ≤ 3584) (hi : i + 7 ≤ L) (K : LH p l e s m below meth c b E tt (i + 7) 18) : LH p l e s m below meth c b E tt i 436 := by
  intro X B F G P nh nc no nn mt om H locs ls hI hw hl
  have hx := C0.1
  have hb := C0.2.1
  have C := LAc C0
  refine lv_aload_n hx hb dL_law_436 rfl (lv_at hl 1 rfl) ?_
  refine la_arg C0 hw (lv_at hl 0 rfl) (lv_at hl 3 rfl) hL hi 1 (by decide) (by decide) dL_law_437 dL_law_438 dL_law_439 dL_law_440 dL_law_441 ?_
  refine la_arg C0 hw (lv_at hl 0 rfl) (lv_at hl 3 rfl) hL hi 2 (by decide) (by decide) dL_law_442 dL_law_443 dL_law_444 dL_law_445 dL_law_446 ?_
  refine la_arg C0 hw (lv_at hl 0 rfl) (lv_at hl 3 rfl) hL hi 3 (by decide) (by decide) dL_law_447 dL_law_448 dL_law_449 dL_law_450 dL_law_451 ?_
  refine kV C hw (c_X11_ream E tt B F G hI.R hI.re (xs (i + 1)) (xs (i + 2)) (xs (i + 3))) vy_X11_ream ml_L_40 (rcv hw (hI.R.f rfl) rfl (by decide) (q2 := (RX11, TX11, 19)) rfl) rfl hl.1 (rest := []) rfl dL_law_452 (Nat.le_of_ble_eq_true rfl) ⟨by decide, by decide⟩ ⟨by show _ ≤ 600000; omega, by show _ ≤ 7302250; omega⟩ (fun v0 ws0 H locs hp0 hq0 => ?_)
  clear hw
  obtain ⟨rfl, F1, G1, hk, hkg, hv, hvg, rfl⟩ := hp0
  have hw := hq0
  have hS1 := hI.S.k hk.1 hkg
  refine W.eq (g2 := F0 m 455 ls [.int (sp_ream (vF F) nh (xs (i + 1)) (xs (i + 2)) (xs (i + 3)))]) rfl ?_
  refine lv_aload_n hx hb dL_law_455 rfl (lv_at hl 2 rfl) ?_
  refine la_arg C0 hw (lv_at hl 0 rfl) (lv_at hl 3 rfl) hL hi 1 (by decide) (by decide) dL_law_456 dL_law_457 dL_law_458 dL_law_459 dL_law_460 ?_
  refine la_arg C0 hw (lv_at hl 0 rfl) (lv_at hl 3 rfl) hL hi 2 (by decide) (by decide) dL_law_461 dL_law_462 dL_law_463 dL_law_464 dL_law_465 ?_
  refine la_arg C0 hw (lv_at hl 0 rfl) (lv_at hl 3 rfl) hL hi 3 (by decide) (by decide) dL_law_466 dL_law_467 dL_law_468 dL_law_469 dL_law_470 ?_
  refine kV C hw (c_X12_ream E tt B F1 G1 hI.M nh hS1.hn (xs (i + 1)) (xs (i + 2)) (xs (i + 3))) vy_X12_ream ml_L_43 (rcv hw (hI.M.m rfl) rfl (by decide) (q2 := (RX12, TX12, 49)) rfl) rfl hl.1 (rest := [.int (sp_ream (vF F) nh (xs (i + 1)) (xs (i + 2)) (xs (i + 3)))]) rfl dL_law_471 (Nat.le_of_ble_eq_true rfl) ⟨by decide, by decide⟩ ⟨by show _ ≤ 600000; omega, by show _ ≤ 7302250; omega⟩ (fun v1 ws1 H locs hp1 hq1 => ?_)
  clear hw
  obtain ⟨rfl, rfl⟩ := hp1
  have hw := hq1
  refine W.eq (g2 := F0 m 474 ls [.int (sp_ream F1 nh (xs (i + 1)) (xs (i + 2)) (xs (i + 3))), .int (sp_ream (vF F) nh (xs (i + 1)) (xs (i + 2)) (xs (i + 3)))]) rfl ?_
  refine lv_icmp_eq (tgt := 1370) hx hb dL_law_474 (by decide) (fun _ => ?_) (fun h9 => absurd (show sp_ream (vF F) nh (xs (i + 1)) (xs (i + 2)) (xs (i + 3)) = sp_ream (rF F1) nh (xs (i + 1)) (xs (i + 2)) (xs (i + 3)) by rw [hI.v, rF_eq hk.1]) h9)
  exact la_fin C0 hL hi K (hI.view hk.w (lo_ream _ _ _) LG.rf (by rw [hv, s_ream, rF_eq hk.1, hI.v]) (by rw [hvg, rG_eq hkg, hI.vg]) (hS1.keep (st_ream_GI hS1.1 _ _ _) (st_ream_KR _ _ _)) (Or.inl rfl)) hw hl (by omega) (by omega)
set_option maxHeartbeats 4000000 in
set_option maxRecDepth 100000 in
theorem law_7 {p : Program} {l : Launch} {e : Env} {s : State} {m : MethodId} {below : List Frame} {meth : Method} {c : Code} {b L : Nat} {xs : Nat → Int32} {E : cE} {tt : Nat × Nat × Nat} {i : Nat} (C0 : lw_At p s m meth c b L xs) (hL : L ≤ 3584) (hi : i + 7 ≤ L) (K : LH p l e s m below meth c b E tt (i + 7) 18) : LH p l e s m below meth c b E tt i 479 := by
  intro X B F G P nh nc no nn mt om H locs ls hI hw hl
  have hx := C0.1
  have hb := C0.2.1
  have C := LAc C0
  refine lv_aload_n hx hb dL_law_479 rfl (lv_at hl 1 rfl) ?_
  refine la_arg C0 hw (lv_at hl 0 rfl) (lv_at hl 3 rfl) hL hi 1 (by decide) (by decide) dL_law_480 dL_law_481 dL_law_482 dL_law_483 dL_law_484 ?_
  refine la_arg C0 hw (lv_at hl 0 rfl) (lv_at hl 3 rfl) hL hi 2 (by decide) (by decide) dL_law_485 dL_law_486 dL_law_487 dL_law_488 dL_law_489 ?_
  refine la_arg C0 hw (lv_at hl 0 rfl) (lv_at hl 3 rfl) hL hi 3 (by decide) (by decide) dL_law_490 dL_law_491 dL_law_492 dL_law_493 dL_law_494 ?_
  refine la_arg C0 hw (lv_at hl 0 rfl) (lv_at hl 3 rfl) hL hi 4 (by decide) (by decide) dL_law_495 dL_law_496 dL_law_497 dL_law_498 dL_law_499 ?_
  refine la_bool C0 dL_law_500 dL_law_503 dL_law_504 dL_law_507 ?_
  refine kV C hw (c_X11_coil E tt B F G hI.R hI.X_ hI.n_c (xs (i + 1)) (xs (i + 2)) (xs (i + 3)) (bz (xs (i + 4))) (bz_z _)) vy_X11_coil ml_L_44 (rcv hw (hI.R.f rfl) rfl (by decide) (q2 := (RX11, TX11, 19)) rfl) rfl hl.1 (rest := []) rfl dL_law_508 (Nat.le_of_ble_eq_true rfl) ⟨by decide, by decide⟩ ⟨by show _ ≤ 600000; omega, by show _ ≤ 7302250; omega⟩ (fun v0 ws0 H locs hp0 hq0 => ?_)
  clear hw
  obtain ⟨rfl, hor⟩ := hp0
  have hw := hq0
  rcases hor with ⟨hok, i0, hi0, hp0, B1, hB, rfl⟩ | ⟨hno, rfl⟩
  · have hI2 := hI.coil hi0 (hp0 ▸ hok) (bz_01 (xs (i + 4)))
    have h16 := hI.R.nc16
    have hnc := hok.2.2
    have hS1 := hI.S.k (F1 := uF (uF (uF (zF F (53 + nc)) (53 + nc) 1 (xs (i + 2))) (53 + nc) 6 (bz (xs (i + 4)))) 0 10 (nI (nc + 1))) (G1 := uG (uG (zG G (53 + nc)) (53 + nc) 3 (all_coil (xs (i + 2)) (xs (i + 3)))) 0 13 (G 0 13 + all_coil (xs (i + 2)) (xs (i + 3)))) ((((KW.rf0.z (by omega)).w (by omega)).w (by omega)).w (by omega)).1 (fun z hz => (uG_o _ _ _ (by omega)).trans ((uG_o _ _ _ (by omega)).trans (zG_o (by omega))))
    have hl : lv_has ls 4 [(0, .ref b), (1, .ref (B1 0)), (2, .ref (B1 100)), (3, .int (nI i))] := by rw [hB 0 (by omega), hB 100 (by omega)]; exact hl
    refine W.eq (g2 := F0 m 511 ls [.int (sp_coil nc (xs (i + 1)) (xs (i + 2)) (xs (i + 3)))]) rfl ?_
    refine lv_aload_n hx hb dL_law_511 rfl (lv_at hl 2 rfl) ?_
    refine la_arg C0 hw (lv_at hl 0 rfl) (lv_at hl 3 rfl) hL hi 1 (by decide) (by decide) dL_law_512 dL_law_513 dL_law_514 dL_law_515 dL_law_516 ?_
    refine la_arg C0 hw (lv_at hl 0 rfl) (lv_at hl 3 rfl) hL hi 2 (by decide) (by decide) dL_law_517 dL_law_518 dL_law_519 dL_law_520 dL_law_521 ?_
    refine la_arg C0 hw (lv_at hl 0 rfl) (lv_at hl 3 rfl) hL hi 3 (by decide) (by decide) dL_law_522 dL_law_523 dL_law_524 dL_law_525 dL_law_526 ?_
    refine la_arg C0 hw (lv_at hl 0 rfl) (lv_at hl 3 rfl) hL hi 4 (by decide) (by decide) dL_law_527 dL_law_528 dL_law_529 dL_law_530 dL_law_531 ?_
    refine la_bool C0 dL_law_532 dL_law_535 dL_law_536 dL_law_539 ?_
    refine kV C hw (c_X12_coil E tt B1 _ _ hI2.M nc mt hS1.co (xs (i + 1)) (xs (i + 2)) (xs (i + 3)) (bz (xs (i + 4))) (bz_n _)) vy_X12_coil ml_L_48 (rcv hw (hI2.M.m rfl) rfl (by decide) (q2 := (RX12, TX12, 49)) rfl) rfl hl.1 (rest := [.int (sp_coil nc (xs (i + 1)) (xs (i + 2)) (xs (i + 3)))]) rfl dL_law_540 (Nat.le_of_ble_eq_true rfl) ⟨by decide, by decide⟩ ⟨by show _ ≤ 600000; omega, by show _ ≤ 7302250; omega⟩ (fun v1 ws1 H locs hp1 hq1 => ?_)
    clear hw
    obtain ⟨rfl, rfl⟩ := hp1
    have hw := hq1
    refine W.eq (g2 := F0 m 543 ls [.int (sp_coil nc (xs (i + 1)) (xs (i + 2)) (xs (i + 3))), .int (sp_coil nc (xs (i + 1)) (xs (i + 2)) (xs (i + 3)))]) rfl ?_
    rw [hp0] at hw
    refine lv_icmp_eq (tgt := 1370) hx hb dL_law_543 (by decide) (fun _ => ?_) (fun h9 => absurd (rfl) h9)
    exact la_fin C0 hL hi K hI2 hw hl (by omega) (by omega)
  · have hz := hno
    refine W.eq (g2 := F0 m 511 ls [.int (sp_coil nc (xs (i + 1)) (xs (i + 2)) (xs (i + 3)))]) rfl ?_
    refine lv_aload_n hx hb dL_law_511 rfl (lv_at hl 2 rfl) ?_
    refine la_arg C0 hw (lv_at hl 0 rfl) (lv_at hl 3 rfl) hL hi 1 (by decide) (by decide) dL_law_512 dL_law_513 dL_law_514 dL_law_515 dL_law_516 ?_
    refine la_arg C0 hw (lv_at hl 0 rfl) (lv_at hl 3 rfl) hL hi 2 (by decide) (by decide) dL_law_517 dL_law_518 dL_law_519 dL_law_520 dL_law_521 ?_
    refine la_arg C0 hw (lv_at hl 0 rfl) (lv_at hl 3 rfl) hL hi 3 (by decide) (by decide) dL_law_522 dL_law_523 dL_law_524 dL_law_525 dL_law_526 ?_
    refine la_arg C0 hw (lv_at hl 0 rfl) (lv_at hl 3 rfl) hL hi 4 (by decide) (by decide) dL_law_527 dL_law_528 dL_law_529 dL_law_530 dL_law_531 ?_
    refine la_bool C0 dL_law_532 dL_law_535 dL_law_536 dL_law_539 ?_
    refine kV C hw (c_X12_coil E tt B F G hI.M nc mt hI.S.co (xs (i + 1)) (xs (i + 2)) (xs (i + 3)) (bz (xs (i + 4))) (bz_n _)) vy_X12_coil ml_L_48 (rcv hw (hI.M.m rfl) rfl (by decide) (q2 := (RX12, TX12, 49)) rfl) rfl hl.1 (rest := [.int (sp_coil nc (xs (i + 1)) (xs (i + 2)) (xs (i + 3)))]) rfl dL_law_540 (Nat.le_of_ble_eq_true rfl) ⟨by decide, by decide⟩ ⟨by show _ ≤ 600000; omega, by show _ ≤ 7302250; omega⟩ (fun v1 ws1 H locs hp1 hq1 => ?_)
    clear hw
    obtain ⟨rfl, rfl⟩ := hp1
    have hw := hq1
    rw [st_coilF, if_neg hno, st_coilG, if_neg hno] at hw
    refine W.eq (g2 := F0 m 543 ls [.int (sp_coil nc (xs (i + 1)) (xs (i + 2)) (xs (i + 3))), .int (sp_coil nc (xs (i + 1)) (xs (i + 2)) (xs (i + 3)))]) rfl ?_
    refine lv_icmp_eq (tgt := 1370) hx hb dL_law_543 (by decide) (fun _ => ?_) (fun h9 => absurd (rfl) h9)
    exact la_fin C0 hL hi K hI hw hl (by omega) (by omega)
set_option maxHeartbeats 4000000 in
set_option maxRecDepth 100000 in
theorem law_8 {p : Program} {l : Launch} {e : Env} {s : State} {m : MethodId} {below : List Frame} {meth : Method} {c : Code} {b L : Nat} {xs : Nat → Int32} {E : cE} {tt : Nat × Nat × Nat} {i : Nat} (C0 : lw_At p s m meth c b L xs) (hL : L ≤ 3584) (hi : i + 7 ≤ L) (K : LH p l e s m below meth c b E tt (i + 7) 18) : LH p l e s m below meth c b E tt i 548 := by
  intro X B F G P nh nc no nn mt om H locs ls hI hw hl
  have hx := C0.1
  have hb := C0.2.1
  have C := LAc C0
  refine lv_aload_n hx hb dL_law_548 rfl (lv_at hl 1 rfl) ?_
  refine la_arg C0 hw (lv_at hl 0 rfl) (lv_at hl 3 rfl) hL hi 1 (by decide) (by decide) dL_law_549 dL_law_550 dL_law_551 dL_law_552 dL_law_553 ?_
  refine la_arg C0 hw (lv_at hl 0 rfl) (lv_at hl 3 rfl) hL hi 2 (by decide) (by decide) dL_law_554 dL_law_555 dL_law_556 dL_law_557 dL_law_558 ?_
  refine kV C hw (c_X11_at E tt B F G hI.R hI.ck hI.C.2.1 (vF F) hI.mtv (fun _ _ => rfl) (xs (i + 1)) (xs (i + 2))) vy_X11_at ml_L_49 (rcv hw (hI.R.f rfl) rfl (by decide) (q2 := (RX11, TX11, 19)) rfl) rfl hl.1 (rest := []) rfl dL_law_559 (Nat.le_of_ble_eq_true rfl) ⟨by decide, by decide⟩ ⟨by show _ ≤ 600000; omega, by show _ ≤ 7302250; omega⟩ (fun v0 ws0 H locs hp0 hq0 => ?_)
  clear hw
  obtain ⟨rfl, rfl⟩ := hp0
  have hw := hq0
  refine W.eq (g2 := F0 m 562 ls [.int (sp_at (vF F) (vG G) nc (xs (i + 1)) (xs (i + 2)))]) rfl ?_
  refine lv_aload_n hx hb dL_law_562 rfl (lv_at hl 2 rfl) ?_
  refine la_arg C0 hw (lv_at hl 0 rfl) (lv_at hl 3 rfl) hL hi 1 (by decide) (by decide) dL_law_563 dL_law_564 dL_law_565 dL_law_566 dL_law_567 ?_
  refine la_arg C0 hw (lv_at hl 0 rfl) (lv_at hl 3 rfl) hL hi 2 (by decide) (by decide) dL_law_568 dL_law_569 dL_law_570 dL_law_571 dL_law_572 ?_
  refine kV C hw (c_X12_at E tt B F G hI.M nc mt hI.S.co (xs (i + 1)) (xs (i + 2))) vy_X12_at ml_L_52 (rcv hw (hI.M.m rfl) rfl (by decide) (q2 := (RX12, TX12, 49)) rfl) rfl hl.1 (rest := [.int (sp_at (vF F) (vG G) nc (xs (i + 1)) (xs (i + 2)))]) rfl dL_law_573 (Nat.le_of_ble_eq_true rfl) ⟨by decide, by decide⟩ ⟨by show _ ≤ 600000; omega, by show _ ≤ 7302250; omega⟩ (fun v1 ws1 H locs hp1 hq1 => ?_)
  clear hw
  obtain ⟨rfl, rfl⟩ := hp1
  have hw := hq1
  refine W.eq (g2 := F0 m 576 ls [.int (sp_at F G nc (xs (i + 1)) (xs (i + 2))), .int (sp_at (vF F) (vG G) nc (xs (i + 1)) (xs (i + 2)))]) rfl ?_
  refine lv_icmp_eq (tgt := 1370) hx hb dL_law_576 (by decide) (fun _ => ?_) (fun h9 => absurd (show sp_at (vF F) (vG G) nc (xs (i + 1)) (xs (i + 2)) = sp_at (rF F) (rG G) nc (xs (i + 1)) (xs (i + 2)) by rw [hI.v, hI.vg]) h9)
  exact la_fin C0 hL hi K hI hw hl (by omega) (by omega)
set_option maxHeartbeats 4000000 in
set_option maxRecDepth 100000 in
theorem law_9 {p : Program} {l : Launch} {e : Env} {s : State} {m : MethodId} {below : List Frame} {meth : Method} {c : Code} {b L : Nat} {xs : Nat → Int32} {E : cE} {tt : Nat × Nat × Nat} {i : Nat} (C0 : lw_At p s m meth c b L xs) (hL : L ≤ 3584) (hi : i + 7 ≤ L) (K : LH p l e s m below meth c b E tt (i + 7) 18) : LH p l e s m below meth c b E tt i 581 := by
  intro X B F G P nh nc no nn mt om H locs ls hI hw hl
  have hx := C0.1
  have hb := C0.2.1
  have C := LAc C0
  refine lv_aload_n hx hb dL_law_581 rfl (lv_at hl 1 rfl) ?_
  refine la_arg C0 hw (lv_at hl 0 rfl) (lv_at hl 3 rfl) hL hi 1 (by decide) (by decide) dL_law_582 dL_law_583 dL_law_584 dL_law_585 dL_law_586 ?_
  refine kV C hw (c_X11_stuff E tt B F G hI.R hI.ck (xs (i + 1))) vy_X11_stuff ml_L_53 (rcv hw (hI.R.f rfl) rfl (by decide) (q2 := (RX11, TX11, 19)) rfl) rfl hl.1 (rest := []) rfl dL_law_587 (Nat.le_of_ble_eq_true rfl) ⟨by decide, by decide⟩ ⟨by show _ ≤ 600000; omega, by show _ ≤ 7302250; omega⟩ (fun v0 ws0 H locs hp0 hq0 => ?_)
  clear hw
  obtain ⟨rfl, rfl⟩ := hp0
  have hw := hq0
  refine W.eq (g2 := F0 m 590 ls [.long (sp_stuff (vG G) nc (xs (i + 1)))]) rfl ?_
  refine lv_aload_n hx hb dL_law_590 rfl (lv_at hl 2 rfl) ?_
  refine la_arg C0 hw (lv_at hl 0 rfl) (lv_at hl 3 rfl) hL hi 1 (by decide) (by decide) dL_law_591 dL_law_592 dL_law_593 dL_law_594 dL_law_595 ?_
  refine kV C hw (c_X12_stuff E tt B F G hI.M nc mt hI.S.co (xs (i + 1))) vy_X12_stuff ml_L_57 (rcv hw (hI.M.m rfl) rfl (by decide) (q2 := (RX12, TX12, 49)) rfl) rfl hl.1 (rest := [.long (sp_stuff (vG G) nc (xs (i + 1)))]) rfl dL_law_596 (Nat.le_of_ble_eq_true rfl) ⟨by decide, by decide⟩ ⟨by show _ ≤ 600000; omega, by show _ ≤ 7302250; omega⟩ (fun v1 ws1 H locs hp1 hq1 => ?_)
  clear hw
  obtain ⟨rfl, rfl⟩ := hp1
  have hw := hq1
  refine W.eq (g2 := F0 m 599 ls [.long (sp_stuff G nc (xs (i + 1))), .long (sp_stuff (vG G) nc (xs (i + 1)))]) rfl ?_
  refine W.lcmp hx hb dL_law_599 ?_
  refine lv_if_eq (tgt := 1370) hx hb dL_law_600 (by decide) (fun _ => ?_) (fun h9 => absurd (show lg_cmp (sp_stuff (vG G) nc (xs (i + 1))) (sp_stuff G nc (xs (i + 1))) = 0 by rw [show (sp_stuff (vG G) nc (xs (i + 1))) = (sp_stuff G nc (xs (i + 1))) from (show sp_stuff (vG G) nc (xs (i + 1)) = sp_stuff (rG G) nc (xs (i + 1)) by rw [hI.vg])]; exact lg_cmp_self _) h9)
  exact la_fin C0 hL hi K hI hw hl (by omega) (by omega)
set_option maxHeartbeats 4000000 in
set_option maxRecDepth 100000 in
theorem law_10 {p : Program} {l : Launch} {e : Env} {s : State} {m : MethodId} {below : List Frame} {meth : Method} {c : Code} {b L : Nat} {xs : Nat → Int32} {E : cE} {tt : Nat × Nat × Nat} {i : Nat} (C0 : lw_At p s m meth c b L xs) (hL : L ≤ 3584) (hi : i + 7 ≤ L) (K : LH p l e s m below meth c b E tt (i + 7) 18) : LH p l e s m below meth c b E tt i 605 := by
  intro X B F G P nh nc no nn mt om H locs ls hI hw hl
  have hx := C0.1
  have hb := C0.2.1
  have C := LAc C0
  refine lv_aload_n hx hb dL_law_605 rfl (lv_at hl 1 rfl) ?_
  refine la_arg C0 hw (lv_at hl 0 rfl) (lv_at hl 3 rfl) hL hi 1 (by decide) (by decide) dL_law_606 dL_law_607 dL_law_608 dL_law_609 dL_law_610 ?_
  refine la_arg C0 hw (lv_at hl 0 rfl) (lv_at hl 3 rfl) hL hi 2 (by decide) (by decide) dL_law_611 dL_law_612 dL_law_613 dL_law_614 dL_law_615 ?_
  refine la_arg C0 hw (lv_at hl 0 rfl) (lv_at hl 3 rfl) hL hi 3 (by decide) (by decide) dL_law_616 dL_law_617 dL_law_618 dL_law_619 dL_law_620 ?_
  refine la_arg C0 hw (lv_at hl 0 rfl) (lv_at hl 3 rfl) hL hi 4 (by decide) (by decide) dL_law_621 dL_law_622 dL_law_623 dL_law_624 dL_law_625 ?_
  refine kV C hw (c_X11_asks E tt B F G hI.R hI.ck (xs (i + 1)) (xs (i + 2)) (xs (i + 3)) (xs (i + 4))) vy_X11_asks ml_L_58 (rcv hw (hI.R.f rfl) rfl (by decide) (q2 := (RX11, TX11, 19)) rfl) rfl hl.1 (rest := []) rfl dL_law_626 (Nat.le_of_ble_eq_true rfl) ⟨by decide, by decide⟩ ⟨by show _ ≤ 600000; omega, by show _ ≤ 7302250; omega⟩ (fun v0 ws0 H locs hp0 hq0 => ?_)
  clear hw
  obtain ⟨rfl, F1, G1, hk, hkg, hv, hvg, rfl⟩ := hp0
  have hw := hq0
  have hS1 := hI.S.k hk.1 hkg
  refine W.eq (g2 := F0 m 629 ls [.int (sp_asks (vF F) (vG G) nc mt nh (xs (i + 1)) (xs (i + 2)) (xs (i + 3)) (xs (i + 4)))]) rfl ?_
  refine lv_aload_n hx hb dL_law_629 rfl (lv_at hl 2 rfl) ?_
  refine la_arg C0 hw (lv_at hl 0 rfl) (lv_at hl 3 rfl) hL hi 1 (by decide) (by decide) dL_law_630 dL_law_631 dL_law_632 dL_law_633 dL_law_634 ?_
  refine la_arg C0 hw (lv_at hl 0 rfl) (lv_at hl 3 rfl) hL hi 2 (by decide) (by decide) dL_law_635 dL_law_636 dL_law_637 dL_law_638 dL_law_639 ?_
  refine la_arg C0 hw (lv_at hl 0 rfl) (lv_at hl 3 rfl) hL hi 3 (by decide) (by decide) dL_law_640 dL_law_641 dL_law_642 dL_law_643 dL_law_644 ?_
  refine la_arg C0 hw (lv_at hl 0 rfl) (lv_at hl 3 rfl) hL hi 4 (by decide) (by decide) dL_law_645 dL_law_646 dL_law_647 dL_law_648 dL_law_649 ?_
  refine kV C hw (c_X12_asks E tt B F1 G1 hI.M nc mt hS1.co nh hS1.hn (xs (i + 1)) (xs (i + 2)) (xs (i + 3)) (xs (i + 4))) vy_X12_asks ml_L_62 (rcv hw (hI.M.m rfl) rfl (by decide) (q2 := (RX12, TX12, 49)) rfl) rfl hl.1 (rest := [.int (sp_asks (vF F) (vG G) nc mt nh (xs (i + 1)) (xs (i + 2)) (xs (i + 3)) (xs (i + 4)))]) rfl dL_law_650 (Nat.le_of_ble_eq_true rfl) ⟨by decide, by decide⟩ ⟨by show _ ≤ 600000; omega, by show _ ≤ 7302250; omega⟩ (fun v1 ws1 H locs hp1 hq1 => ?_)
  clear hw
  obtain ⟨rfl, rfl⟩ := hp1
  have hw := hq1
  refine W.eq (g2 := F0 m 653 ls [.int (sp_asks F1 G1 nc mt nh (xs (i + 1)) (xs (i + 2)) (xs (i + 3)) (xs (i + 4))), .int (sp_asks (vF F) (vG G) nc mt nh (xs (i + 1)) (xs (i + 2)) (xs (i + 3)) (xs (i + 4)))]) rfl ?_
  refine lv_icmp_eq (tgt := 1370) hx hb dL_law_653 (by decide) (fun _ => ?_) (fun h9 => absurd (show sp_asks (vF F) (vG G) nc mt nh (xs (i + 1)) (xs (i + 2)) (xs (i + 3)) (xs (i + 4)) = sp_asks (rF F1) (rG G1) nc mt nh (xs (i + 1)) (xs (i + 2)) (xs (i + 3)) (xs (i + 4)) by rw [hI.v, hI.vg, rF_eq hk.1, rG_eq hkg]) h9)
  exact la_fin C0 hL hi K (hI.view hk.w LO.rf LG.rf (by rw [hv, rF_eq hk.1, hI.v]) (by rw [hvg, rG_eq hkg, hI.vg]) (hS1) (Or.inl rfl)) hw hl (by omega) (by omega)
set_option maxHeartbeats 4000000 in
set_option maxRecDepth 100000 in
theorem law_11 {p : Program} {l : Launch} {e : Env} {s : State} {m : MethodId} {below : List Frame} {meth : Method} {c : Code} {b L : Nat} {xs : Nat → Int32} {E : cE} {tt : Nat × Nat × Nat} {i : Nat} (C0 : lw_At p s m meth c b L xs) (hL : L ≤ 3584) (hi : i + 7 ≤ L) (K : LH p l e s m below meth c b E tt (i + 7) 18) : LH p l e s m below meth c b E tt i 658 := by
  intro X B F G P nh nc no nn mt om H locs ls hI hw hl
  have hx := C0.1
  have hb := C0.2.1
  have C := LAc C0
  refine lv_aload_n hx hb dL_law_658 rfl (lv_at hl 1 rfl) ?_
  refine la_arg C0 hw (lv_at hl 0 rfl) (lv_at hl 3 rfl) hL hi 1 (by decide) (by decide) dL_law_659 dL_law_660 dL_law_661 dL_law_662 dL_law_663 ?_
  refine la_arg C0 hw (lv_at hl 0 rfl) (lv_at hl 3 rfl) hL hi 2 (by decide) (by decide) dL_law_664 dL_law_665 dL_law_666 dL_law_667 dL_law_668 ?_
  refine la_arg C0 hw (lv_at hl 0 rfl) (lv_at hl 3 rfl) hL hi 3 (by decide) (by decide) dL_law_669 dL_law_670 dL_law_671 dL_law_672 dL_law_673 ?_
  refine la_arg C0 hw (lv_at hl 0 rfl) (lv_at hl 3 rfl) hL hi 4 (by decide) (by decide) dL_law_674 dL_law_675 dL_law_676 dL_law_677 dL_law_678 ?_
  refine kV C hw (c_X11_draw E tt B F G hI.R hI.ck hI.wh hI.gi.rf hI.gi.mn hI.gi.hz (xs (i + 1)) (xs (i + 2)) (xs (i + 3)) (xs (i + 4))) vy_X11_draw ml_L_63 (rcv hw (hI.R.f rfl) rfl (by decide) (q2 := (RX11, TX11, 19)) rfl) rfl hl.1 (rest := []) rfl dL_law_679 (Nat.le_of_ble_eq_true rfl) ⟨by decide, by decide⟩ ⟨by show _ ≤ 600000; omega, by show _ ≤ 7302250; omega⟩ (fun v0 ws0 H locs hp0 hq0 => ?_)
  clear hw
  obtain ⟨rfl, F1, G1, hk, hkg, hv, hvg, rfl⟩ := hp0
  have hw := hq0
  have hS1 := hI.S.k hk.1 hkg
  refine W.eq (g2 := F0 m 682 ls [.int (sp_draw (vF F) (vG G) nc mt nh (xs (i + 1)) (xs (i + 2)) (xs (i + 3)) (xs (i + 4)))]) rfl ?_
  refine lv_aload_n hx hb dL_law_682 rfl (lv_at hl 2 rfl) ?_
  refine la_arg C0 hw (lv_at hl 0 rfl) (lv_at hl 3 rfl) hL hi 1 (by decide) (by decide) dL_law_683 dL_law_684 dL_law_685 dL_law_686 dL_law_687 ?_
  refine la_arg C0 hw (lv_at hl 0 rfl) (lv_at hl 3 rfl) hL hi 2 (by decide) (by decide) dL_law_688 dL_law_689 dL_law_690 dL_law_691 dL_law_692 ?_
  refine la_arg C0 hw (lv_at hl 0 rfl) (lv_at hl 3 rfl) hL hi 3 (by decide) (by decide) dL_law_693 dL_law_694 dL_law_695 dL_law_696 dL_law_697 ?_
  refine la_arg C0 hw (lv_at hl 0 rfl) (lv_at hl 3 rfl) hL hi 4 (by decide) (by decide) dL_law_698 dL_law_699 dL_law_700 dL_law_701 dL_law_702 ?_
  refine kV C hw (c_X12_draw E tt B F1 G1 hI.M nc mt hS1.co nh hS1.hn hS1.1.hz (xs (i + 1)) (xs (i + 2)) (xs (i + 3)) (xs (i + 4))) vy_X12_draw ml_L_66 (rcv hw (hI.M.m rfl) rfl (by decide) (q2 := (RX12, TX12, 49)) rfl) rfl hl.1 (rest := [.int (sp_draw (vF F) (vG G) nc mt nh (xs (i + 1)) (xs (i + 2)) (xs (i + 3)) (xs (i + 4)))]) rfl dL_law_703 (Nat.le_of_ble_eq_true rfl) ⟨by decide, by decide⟩ ⟨by show _ ≤ 600000; omega, by show _ ≤ 7302250; omega⟩ (fun v1 ws1 H locs hp1 hq1 => ?_)
  clear hw
  obtain ⟨rfl, rfl⟩ := hp1
  have hw := hq1
  refine W.eq (g2 := F0 m 706 ls [.int (sp_draw F1 G1 nc mt nh (xs (i + 1)) (xs (i + 2)) (xs (i + 3)) (xs (i + 4))), .int (sp_draw (vF F) (vG G) nc mt nh (xs (i + 1)) (xs (i + 2)) (xs (i + 3)) (xs (i + 4)))]) rfl ?_
  refine lv_icmp_eq (tgt := 1370) hx hb dL_law_706 (by decide) (fun _ => ?_) (fun h9 => absurd (show sp_draw (vF F) (vG G) nc mt nh (xs (i + 1)) (xs (i + 2)) (xs (i + 3)) (xs (i + 4)) = sp_draw (rF F1) (rG G1) nc mt nh (xs (i + 1)) (xs (i + 2)) (xs (i + 3)) (xs (i + 4)) by rw [hI.v, hI.vg, rF_eq hk.1, rG_eq hkg]) h9)
  exact la_fin C0 hL hi K (hI.view hk.w (lo_draw _ _ _ _) LG.rf (by rw [hv, s_draw, rF_eq hk.1, rG_eq hkg, hI.v, hI.vg]) (by rw [hvg, rG_eq hkg, hI.vg]) (hS1.keep (hS1.1.draw _ _ _ _) (st_draw_KR _ _ _ _)) (Or.inl rfl)) hw hl (by omega) (by omega)
set_option maxHeartbeats 4000000 in
set_option maxRecDepth 100000 in
theorem law_12 {p : Program} {l : Launch} {e : Env} {s : State} {m : MethodId} {below : List Frame} {meth : Method} {c : Code} {b L : Nat} {xs : Nat → Int32} {E : cE} {tt : Nat × Nat × Nat} {i : Nat} (C0 : lw_At p s m meth c b L xs) (hL : L ≤ 3584) (hi : i + 7 ≤ L) (K : LH p l e s m below meth c b E tt (i + 7) 18) : LH p l e s m below meth c b E tt i 711 := by
  intro X B F G P nh nc no nn mt om H locs ls hI hw hl
  have hx := C0.1
  have hb := C0.2.1
  have C := LAc C0
  refine lv_aload_n hx hb dL_law_711 rfl (lv_at hl 1 rfl) ?_
  refine la_arg C0 hw (lv_at hl 0 rfl) (lv_at hl 3 rfl) hL hi 1 (by decide) (by decide) dL_law_712 dL_law_713 dL_law_714 dL_law_715 dL_law_716 ?_
  refine kV C hw (c_X11_fire E tt B F G hI.R hI.ck (xs (i + 1))) vy_X11_fire ml_L_67 (rcv hw (hI.R.f rfl) rfl (by decide) (q2 := (RX11, TX11, 19)) rfl) rfl hl.1 (rest := []) rfl dL_law_717 (Nat.le_of_ble_eq_true rfl) ⟨by decide, by decide⟩ ⟨by show _ ≤ 600000; omega, by show _ ≤ 7302250; omega⟩ (fun v0 ws0 H locs hp0 hq0 => ?_)
  clear hw
  obtain ⟨rfl, F1, G1, hk, hkg, hv, hvg, rfl⟩ := hp0
  have hw := hq0
  have hS1 := hI.S.k hk.1 hkg
  refine W.eq (g2 := F0 m 720 ls [.int (sp_fire (vF F) (vG G) nc (xs (i + 1)))]) rfl ?_
  refine lv_aload_n hx hb dL_law_720 rfl (lv_at hl 2 rfl) ?_
  refine la_arg C0 hw (lv_at hl 0 rfl) (lv_at hl 3 rfl) hL hi 1 (by decide) (by decide) dL_law_721 dL_law_722 dL_law_723 dL_law_724 dL_law_725 ?_
  refine kV C hw (c_X12_fire E tt B F1 G1 hI.M nc mt hS1.co (xs (i + 1))) vy_X12_fire ml_L_71 (rcv hw (hI.M.m rfl) rfl (by decide) (q2 := (RX12, TX12, 49)) rfl) rfl hl.1 (rest := [.int (sp_fire (vF F) (vG G) nc (xs (i + 1)))]) rfl dL_law_726 (Nat.le_of_ble_eq_true rfl) ⟨by decide, by decide⟩ ⟨by show _ ≤ 600000; omega, by show _ ≤ 7302250; omega⟩ (fun v1 ws1 H locs hp1 hq1 => ?_)
  clear hw
  obtain ⟨rfl, rfl⟩ := hp1
  have hw := hq1
  refine W.eq (g2 := F0 m 729 ls [.int (sp_fire F1 G1 nc (xs (i + 1))), .int (sp_fire (vF F) (vG G) nc (xs (i + 1)))]) rfl ?_
  refine lv_icmp_eq (tgt := 1370) hx hb dL_law_729 (by decide) (fun _ => ?_) (fun h9 => absurd (show sp_fire (vF F) (vG G) nc (xs (i + 1)) = sp_fire (rF F1) (rG G1) nc (xs (i + 1)) by rw [hI.v, hI.vg, rF_eq hk.1, rG_eq hkg]) h9)
  exact la_fin C0 hL hi K (hI.view hk.w (lo_fire _) (lg_fire _) (by rw [hv, s_fireF, rF_eq hk.1, rG_eq hkg, hI.v, hI.vg]) (by rw [hvg, s_fireG, rF_eq hk.1, rG_eq hkg, hI.v, hI.vg]) (hS1.keep (hS1.1.fire _) (st_fire_KR _)) (Or.inl rfl)) hw hl (by omega) (by omega)
set_option maxHeartbeats 4000000 in
set_option maxRecDepth 100000 in
theorem law_13 {p : Program} {l : Launch} {e : Env} {s : State} {m : MethodId} {below : List Frame} {meth : Method} {c : Code} {b L : Nat} {xs : Nat → Int32} {E : cE} {tt : Nat × Nat × Nat} {i : Nat} (C0 : lw_At p s m meth c b L xs) (hL : L ≤ 3584) (hi : i + 7 ≤ L) (K : LH p l e s m below meth c b E tt (i + 7) 18) : LH p l e s m below meth c b E tt i 734 := by
  intro X B F G P nh nc no nn mt om H locs ls hI hw hl
  have hx := C0.1
  have hb := C0.2.1
  have C := LAc C0
  refine lv_aload_n hx hb dL_law_734 rfl (lv_at hl 1 rfl) ?_
  refine la_arg C0 hw (lv_at hl 0 rfl) (lv_at hl 3 rfl) hL hi 1 (by decide) (by decide) dL_law_735 dL_law_736 dL_law_737 dL_law_738 dL_law_739 ?_
  refine la_arg C0 hw (lv_at hl 0 rfl) (lv_at hl 3 rfl) hL hi 2 (by decide) (by decide) dL_law_740 dL_law_741 dL_law_742 dL_law_743 dL_law_744 ?_
  refine kV C hw (c_X11_part E tt B F G hI.R hI.ck hI.X_ hI.n_c hI.badz (xs (i + 1)) (xs (i + 2))) vy_X11_part ml_L_72 (rcv hw (hI.R.f rfl) rfl (by decide) (q2 := (RX11, TX11, 19)) rfl) rfl hl.1 (rest := []) rfl dL_law_745 (Nat.le_of_ble_eq_true rfl) ⟨by decide, by decide⟩ ⟨by show _ ≤ 600000; omega, by show _ ≤ 7302250; omega⟩ (fun v0 ws0 H locs hp0 hq0 => ?_)
  clear hw
  obtain ⟨rfl, hor⟩ := hp0
  have hw := hq0
  rcases hor with ⟨hok, c1, hc1, hp0, B1, hB, rfl⟩ | ⟨hno, rfl⟩
  · have hI2 := hI.part hc1 (hp0 ▸ hok)
    have h16 := hI.R.nc16
    have hnc := hok.2.2
    have hl : lv_has ls 4 [(0, .ref b), (1, .ref (B1 0)), (2, .ref (B1 100)), (3, .int (nI i))] := by rw [hB 0 (by omega), hB 100 (by omega)]; exact hl
    have hk : KW F (uF (uF (uF (uF (uF (uF (zF F (53 + nc)) (53 + nc) 1 (F (53 + c1) 1)) (53 + nc) 6 (F (53 + c1) 6)) (53 + nc) 2 (F (53 + c1) 2)) (53 + nc) 4 (F (53 + c1) 4)) (53 + nc) 5 (F (53 + c1) 5)) 0 10 (nI (nc + 1))) := ((((((KW.rf0.z (by omega)).w (by omega)).w (by omega)).w (by omega)).w (by omega)).w (by omega)).w (by omega)
    have hkg : ∀ z, 100 ≤ z → (uG (uG (zG G (53 + nc)) (53 + nc) 3 (G (53 + c1) 3 - stay (vF F) c1 (xs (i + 2)))) (53 + c1) 3 (stay (vF F) c1 (xs (i + 2)))) z = G z := fun z hz => (uG_o _ _ _ (by omega)).trans ((uG_o _ _ _ (by omega)).trans (zG_o (by omega)))
    have hS1 := hI.S.k hk.1 hkg
    have hM2 := hI2.M
    refine W.eq (g2 := F0 m 748 ls [.int (sp_part (vF F) (vG G) nc (xs (i + 1)) (xs (i + 2)))]) rfl ?_
    refine lv_aload_n hx hb dL_law_748 rfl (lv_at hl 2 rfl) ?_
    refine la_arg C0 hw (lv_at hl 0 rfl) (lv_at hl 3 rfl) hL hi 1 (by decide) (by decide) dL_law_749 dL_law_750 dL_law_751 dL_law_752 dL_law_753 ?_
    refine la_arg C0 hw (lv_at hl 0 rfl) (lv_at hl 3 rfl) hL hi 2 (by decide) (by decide) dL_law_754 dL_law_755 dL_law_756 dL_law_757 dL_law_758 ?_
    refine kV C hw (c_X12_part E tt B1 _ _ hM2 nc mt hS1.co (xs (i + 1)) (xs (i + 2)) (fun c hc => by rw [hk.1 121 (by decide)]; exact vp_01 (hI.bad c hc))) vy_X12_part ml_L_75 (rcv hw (hM2.m rfl) rfl (by decide) (q2 := (RX12, TX12, 49)) rfl) rfl hl.1 (rest := [.int (sp_part (vF F) (vG G) nc (xs (i + 1)) (xs (i + 2)))]) rfl dL_law_759 (Nat.le_of_ble_eq_true rfl) ⟨by decide, by decide⟩ ⟨by show _ ≤ 600000; omega, by show _ ≤ 7302250; omega⟩ (fun v1 ws1 H locs hp1 hq1 => ?_)
    clear hw
    obtain ⟨rfl, rfl⟩ := hp1
    have hw := hq1
    refine W.eq (g2 := F0 m 762 ls [.int (sp_part (uF (uF (uF (uF (uF (uF (zF F (53 + nc)) (53 + nc) 1 (F (53 + c1) 1)) (53 + nc) 6 (F (53 + c1) 6)) (53 + nc) 2 (F (53 + c1) 2)) (53 + nc) 4 (F (53 + c1) 4)) (53 + nc) 5 (F (53 + c1) 5)) 0 10 (nI (nc + 1))) (uG (uG (zG G (53 + nc)) (53 + nc) 3 (G (53 + c1) 3 - stay (vF F) c1 (xs (i + 2)))) (53 + c1) 3 (stay (vF F) c1 (xs (i + 2)))) nc (xs (i + 1)) (xs (i + 2))), .int (sp_part (vF F) (vG G) nc (xs (i + 1)) (xs (i + 2)))]) rfl ?_
    rw [hp0] at hw
    refine lv_icmp_eq (tgt := 1370) hx hb dL_law_762 (by decide) (fun _ => ?_) (fun h9 => absurd (show sp_part (vF F) (vG G) nc (xs (i + 1)) (xs (i + 2)) = sp_part (rF (uF (uF (uF (uF (uF (uF (zF F (53 + nc)) (53 + nc) 1 (F (53 + c1) 1)) (53 + nc) 6 (F (53 + c1) 6)) (53 + nc) 2 (F (53 + c1) 2)) (53 + nc) 4 (F (53 + c1) 4)) (53 + nc) 5 (F (53 + c1) 5)) 0 10 (nI (nc + 1)))) (rG (uG (uG (zG G (53 + nc)) (53 + nc) 3 (G (53 + c1) 3 - stay (vF F) c1 (xs (i + 2)))) (53 + c1) 3 (stay (vF F) c1 (xs (i + 2))))) nc (xs (i + 1)) (xs (i + 2)) by rw [hI.v, hI.vg, rF_eq hk.1, ← hI.v, rG_eq hkg]) h9)
    exact la_fin C0 hL hi K hI2 hw hl (by omega) (by omega)
  · have hz := hno
    rw [hI.v, hI.vg] at hno
    have hno2 : ¬ ok_part F G nc (xs (i + 1)) (xs (i + 2)) := hno
    refine W.eq (g2 := F0 m 748 ls [.int (sp_part (vF F) (vG G) nc (xs (i + 1)) (xs (i + 2)))]) rfl ?_
    refine lv_aload_n hx hb dL_law_748 rfl (lv_at hl 2 rfl) ?_
    refine la_arg C0 hw (lv_at hl 0 rfl) (lv_at hl 3 rfl) hL hi 1 (by decide) (by decide) dL_law_749 dL_law_750 dL_law_751 dL_law_752 dL_law_753 ?_
    refine la_arg C0 hw (lv_at hl 0 rfl) (lv_at hl 3 rfl) hL hi 2 (by decide) (by decide) dL_law_754 dL_law_755 dL_law_756 dL_law_757 dL_law_758 ?_
    refine kV C hw (c_X12_part E tt B F G hI.M nc mt hI.S.co (xs (i + 1)) (xs (i + 2)) (fun c hc => vp_01 (hI.bad c hc))) vy_X12_part ml_L_75 (rcv hw (hI.M.m rfl) rfl (by decide) (q2 := (RX12, TX12, 49)) rfl) rfl hl.1 (rest := [.int (sp_part (vF F) (vG G) nc (xs (i + 1)) (xs (i + 2)))]) rfl dL_law_759 (Nat.le_of_ble_eq_true rfl) ⟨by decide, by decide⟩ ⟨by show _ ≤ 600000; omega, by show _ ≤ 7302250; omega⟩ (fun v1 ws1 H locs hp1 hq1 => ?_)
    clear hw
    obtain ⟨rfl, rfl⟩ := hp1
    have hw := hq1
    rw [st_partF, if_neg hno2, st_partG, if_neg hno2] at hw
    refine W.eq (g2 := F0 m 762 ls [.int (sp_part F G nc (xs (i + 1)) (xs (i + 2))), .int (sp_part (vF F) (vG G) nc (xs (i + 1)) (xs (i + 2)))]) rfl ?_
    refine lv_icmp_eq (tgt := 1370) hx hb dL_law_762 (by decide) (fun _ => ?_) (fun h9 => absurd (show sp_part (vF F) (vG G) nc (xs (i + 1)) (xs (i + 2)) = sp_part (rF F) (rG G) nc (xs (i + 1)) (xs (i + 2)) by rw [hI.v, hI.vg]) h9)
    exact la_fin C0 hL hi K hI hw hl (by omega) (by omega)
set_option maxHeartbeats 4000000 in
set_option maxRecDepth 100000 in
theorem law_14 {p : Program} {l : Launch} {e : Env} {s : State} {m : MethodId} {below : List Frame} {meth : Method} {c : Code} {b L : Nat} {xs : Nat → Int32} {E : cE} {tt : Nat × Nat × Nat} {i : Nat} (C0 : lw_At p s m meth c b L xs) (hL : L ≤ 3584) (hi : i + 7 ≤ L) (K : LH p l e s m below meth c b E tt (i + 7) 18) : LH p l e s m below meth c b E tt i 767 := by
  intro X B F G P nh nc no nn mt om H locs ls hI hw hl
  have hx := C0.1
  have hb := C0.2.1
  have C := LAc C0
  refine lv_aload_n hx hb dL_law_767 rfl (lv_at hl 1 rfl) ?_
  refine la_arg C0 hw (lv_at hl 0 rfl) (lv_at hl 3 rfl) hL hi 1 (by decide) (by decide) dL_law_768 dL_law_769 dL_law_770 dL_law_771 dL_law_772 ?_
  refine la_arg C0 hw (lv_at hl 0 rfl) (lv_at hl 3 rfl) hL hi 2 (by decide) (by decide) dL_law_773 dL_law_774 dL_law_775 dL_law_776 dL_law_777 ?_
  refine kV C hw (c_X11_join E tt B F G hI.R hI.ck hI.S.2.2.2.1.1 (xs (i + 1)) (xs (i + 2))) vy_X11_join ml_L_76 (rcv hw (hI.R.f rfl) rfl (by decide) (q2 := (RX11, TX11, 19)) rfl) rfl hl.1 (rest := []) rfl dL_law_778 (Nat.le_of_ble_eq_true rfl) ⟨by decide, by decide⟩ ⟨by show _ ≤ 600000; omega, by show _ ≤ 7302250; omega⟩ (fun v0 ws0 H locs hp0 hq0 => ?_)
  clear hw
  obtain ⟨rfl, F1, G1, hk, hkg, hv, hvg, rfl⟩ := hp0
  have hw := hq0
  have hS1 := hI.S.k hk.1 hkg
  refine W.eq (g2 := F0 m 781 ls [.int (sp_join (vF F) (vG G) nc (xs (i + 1)) (xs (i + 2)))]) rfl ?_
  refine lv_aload_n hx hb dL_law_781 rfl (lv_at hl 2 rfl) ?_
  refine la_arg C0 hw (lv_at hl 0 rfl) (lv_at hl 3 rfl) hL hi 1 (by decide) (by decide) dL_law_782 dL_law_783 dL_law_784 dL_law_785 dL_law_786 ?_
  refine la_arg C0 hw (lv_at hl 0 rfl) (lv_at hl 3 rfl) hL hi 2 (by decide) (by decide) dL_law_787 dL_law_788 dL_law_789 dL_law_790 dL_law_791 ?_
  refine kV C hw (c_X12_join E tt B F1 G1 hI.M nc mt hS1.co (xs (i + 1)) (xs (i + 2))) vy_X12_join ml_L_79 (rcv hw (hI.M.m rfl) rfl (by decide) (q2 := (RX12, TX12, 49)) rfl) rfl hl.1 (rest := [.int (sp_join (vF F) (vG G) nc (xs (i + 1)) (xs (i + 2)))]) rfl dL_law_792 (Nat.le_of_ble_eq_true rfl) ⟨by decide, by decide⟩ ⟨by show _ ≤ 600000; omega, by show _ ≤ 7302250; omega⟩ (fun v1 ws1 H locs hp1 hq1 => ?_)
  clear hw
  obtain ⟨rfl, rfl⟩ := hp1
  have hw := hq1
  refine W.eq (g2 := F0 m 795 ls [.int (sp_join F1 G1 nc (xs (i + 1)) (xs (i + 2))), .int (sp_join (vF F) (vG G) nc (xs (i + 1)) (xs (i + 2)))]) rfl ?_
  refine lv_icmp_eq (tgt := 1370) hx hb dL_law_795 (by decide) (fun _ => ?_) (fun h9 => absurd (show sp_join (vF F) (vG G) nc (xs (i + 1)) (xs (i + 2)) = sp_join (rF F1) (rG G1) nc (xs (i + 1)) (xs (i + 2)) by rw [hI.v, hI.vg, rF_eq hk.1, rG_eq hkg]) h9)
  exact la_fin C0 hL hi K (hI.view hk.w (lo_join _ _) (lg_join _ _) (by rw [hv, s_joinF, rF_eq hk.1, rG_eq hkg, hI.v, hI.vg]) (by rw [hvg, s_joinG, rF_eq hk.1, rG_eq hkg, hI.v, hI.vg]) (hS1.keep (st_join_GI hS1.1 _ _) (st_join_KR _ _)) (Or.inl rfl)) hw hl (by omega) (by omega)
set_option maxHeartbeats 4000000 in
set_option maxRecDepth 100000 in
theorem law_15 {p : Program} {l : Launch} {e : Env} {s : State} {m : MethodId} {below : List Frame} {meth : Method} {c : Code} {b L : Nat} {xs : Nat → Int32} {E : cE} {tt : Nat × Nat × Nat} {i : Nat} (C0 : lw_At p s m meth c b L xs) (hL : L ≤ 3584) (hi : i + 7 ≤ L) (K : LH p l e s m below meth c b E tt (i + 7) 18) : LH p l e s m below meth c b E tt i 800 := by
  intro X B F G P nh nc no nn mt om H locs ls hI hw hl
  have hx := C0.1
  have hb := C0.2.1
  have C := LAc C0
  refine lv_aload_n hx hb dL_law_800 rfl (lv_at hl 1 rfl) ?_
  refine la_arg C0 hw (lv_at hl 0 rfl) (lv_at hl 3 rfl) hL hi 1 (by decide) (by decide) dL_law_801 dL_law_802 dL_law_803 dL_law_804 dL_law_805 ?_
  refine kV C hw (c_X11_scrap E tt B F G hI.R hI.ck (xs (i + 1))) vy_X11_scrap ml_L_80 (rcv hw (hI.R.f rfl) rfl (by decide) (q2 := (RX11, TX11, 19)) rfl) rfl hl.1 (rest := []) rfl dL_law_806 (Nat.le_of_ble_eq_true rfl) ⟨by decide, by decide⟩ ⟨by show _ ≤ 600000; omega, by show _ ≤ 7302250; omega⟩ (fun v0 ws0 H locs hp0 hq0 => ?_)
  clear hw
  obtain ⟨rfl, F1, G1, hk, hkg, hv, hvg, rfl⟩ := hp0
  have hw := hq0
  have hS1 := hI.S.k hk.1 hkg
  refine W.eq (g2 := F0 m 809 ls [.int (sp_scrap (vG G) nc (xs (i + 1)))]) rfl ?_
  refine lv_aload_n hx hb dL_law_809 rfl (lv_at hl 2 rfl) ?_
  refine la_arg C0 hw (lv_at hl 0 rfl) (lv_at hl 3 rfl) hL hi 1 (by decide) (by decide) dL_law_810 dL_law_811 dL_law_812 dL_law_813 dL_law_814 ?_
  refine kV C hw (c_X12_scrap E tt B F1 G1 hI.M nc mt hS1.co (xs (i + 1))) vy_X12_scrap ml_L_83 (rcv hw (hI.M.m rfl) rfl (by decide) (q2 := (RX12, TX12, 49)) rfl) rfl hl.1 (rest := [.int (sp_scrap (vG G) nc (xs (i + 1)))]) rfl dL_law_815 (Nat.le_of_ble_eq_true rfl) ⟨by decide, by decide⟩ ⟨by show _ ≤ 600000; omega, by show _ ≤ 7302250; omega⟩ (fun v1 ws1 H locs hp1 hq1 => ?_)
  clear hw
  obtain ⟨rfl, rfl⟩ := hp1
  have hw := hq1
  refine W.eq (g2 := F0 m 818 ls [.int (sp_scrap G1 nc (xs (i + 1))), .int (sp_scrap (vG G) nc (xs (i + 1)))]) rfl ?_
  refine lv_icmp_eq (tgt := 1370) hx hb dL_law_818 (by decide) (fun _ => ?_) (fun h9 => absurd (show sp_scrap (vG G) nc (xs (i + 1)) = sp_scrap (rG G1) nc (xs (i + 1)) by rw [hI.vg, rG_eq hkg]) h9)
  exact la_fin C0 hL hi K (hI.view hk.w LO.rf (lg_scrap _) (by rw [hv, rF_eq hk.1, hI.v]) (by rw [hvg, s_scrap, rG_eq hkg, hI.vg]) (hS1.keep (st_scrap_GI hS1.1 _) KR.rf) (Or.inl rfl)) hw hl (by omega) (by omega)
