/-! ===== the law's rows ===== -/
set_option maxRecDepth 100000 in
set_option maxHeartbeats 4000000 in
theorem rows_5 {Z : am_Z} (hC : am_OK Z "HousePlansLaw" cL_rows 2 16 2705 40165) (hR : am_Rt Z (some .boolean) [] z_one am_no 2705 40165) (h : am_H) (hS : SZ h qs_52) : am_W Z 621 4061 322 [.ref (3), .int (nI 40)] [] h := by
  refine am_aload_n hC dL_rows_322 rfl ?_
  refine am_iconst (v := nI 0) hC dL_rows_323 (by decide) ?_
  refine am_iconst (v := nI 5) hC dL_rows_324 (by decide) ?_
  refine am_iconst (v := nI 5) hC dL_rows_325 (by decide) ?_
  refine am_iconst (v := nI 5) hC dL_rows_326 (by decide) ?_
  refine am_iconst (v := -1) hC dL_rows_327 (by decide) ?_
  refine am_bipush (v := nI 20) hC dL_rows_328 (by decide) ?_
  refine am_callS hC [.ref (3), .int (nI 0), .int (nI 5), .int (nI 5), .int (nI 5), .int (-1), .int (nI 20)] mf_L_cell tw_596 (c_cell _ _ (am_tr hC) h hS _ _ _ _ _ _ 0 5 (by decide +kernel) (by decide) (dn_nI (by decide)) (dn_nI (by decide)) (z_VM qv_19 (by decide +kernel)) (z_VS qv_19 (by decide +kernel)) (z_VD qv_19 (by decide +kernel)) (z_VHn qv_19 qn_46 (by decide +kernel))) rfl ⟨rfl, Nat.le_of_ble_eq_true rfl⟩ ⟨by decide, by decide⟩ (by decide) (by decide) dL_rows_330 rfl (fun _ _ q _ => False.elim q) (fun v h hp hlc => ?_)
  obtain ⟨rfl, hS⟩ := hp
  refine am_if_ne (tgt := 338) hC dL_rows_333 (by decide) (fun c_333 => ?_) (fun c_333 => absurd c_333 (by decide))
  refine am_aload_n hC dL_rows_338 rfl ?_
  refine am_iconst (v := nI 0) hC dL_rows_339 (by decide) ?_
  refine am_iconst (v := nI 0) hC dL_rows_340 (by decide) ?_
  refine am_bipush (v := nI 24) hC dL_rows_341 (by decide) ?_
  refine am_iconst (v := nI 1) hC dL_rows_343 (by decide) ?_
  refine am_callV hC (ci := 6) (N := 4) [.int (nI 0), .int (nI 0), .int (nI 24), .int (nI 1)] rfl (SZ_3 hS) rfl mf_X5_setExit tw_342 (d_setExit _ _ (am_tr hC) h hS _ _ _ true) rfl ⟨rfl, Nat.le_of_ble_eq_true rfl⟩ ⟨by decide, by decide⟩ (by decide) (by decide) dL_rows_344 rfl (fun _ _ q _ => (XN_0 q.2 (by decide +kernel)).elim) (fun v h hp hlc => ?_)
  obtain ⟨rfl, hS⟩ := z_go (x' := nI 0) (σ' := qs_53) (by decide +kernel) (z_sx (by decide +kernel)) hp
  refine am_if_ne (tgt := 445) hC dL_rows_347 (by decide) (fun c_347 => absurd (by decide) c_347) (fun c_347 => ?_)
  refine am_aload_n hC dL_rows_350 rfl ?_
  refine am_iconst (v := nI 0) hC dL_rows_351 (by decide) ?_
  refine am_bipush (v := nI 14) hC dL_rows_352 (by decide) ?_
  refine am_bipush (v := nI 10) hC dL_rows_354 (by decide) ?_
  refine am_iconst (v := nI 5) hC dL_rows_356 (by decide) ?_
  refine am_iconst (v := -1) hC dL_rows_357 (by decide) ?_
  refine am_bipush (v := nI 35) hC dL_rows_358 (by decide) ?_
  refine am_callS hC [.ref (3), .int (nI 0), .int (nI 14), .int (nI 10), .int (nI 5), .int (-1), .int (nI 35)] mf_L_cell tw_596 (c_cell _ _ (am_tr hC) h hS _ _ _ _ _ _ 0 14 (by decide +kernel) (by decide) (dn_nI (by decide)) (dn_nI (by decide)) (z_VM qv_20 (by decide +kernel)) (z_VS qv_20 (by decide +kernel)) (z_VD qv_20 (by decide +kernel)) (z_VHn qv_20 qn_47 (by decide +kernel))) rfl ⟨rfl, Nat.le_of_ble_eq_true rfl⟩ ⟨by decide, by decide⟩ (by decide) (by decide) dL_rows_360 rfl (fun _ _ q _ => False.elim q) (fun v h hp hlc => ?_)
  obtain ⟨rfl, hS⟩ := hp
  refine am_if_eq (tgt := 445) hC dL_rows_363 (by decide) (fun c_363 => absurd c_363 (by decide)) (fun c_363 => ?_)
  refine am_aload_n hC dL_rows_366 rfl ?_
  refine am_iconst (v := nI 0) hC dL_rows_367 (by decide) ?_
  refine am_iconst (v := nI 5) hC dL_rows_368 (by decide) ?_
  refine am_iconst (v := nI 5) hC dL_rows_369 (by decide) ?_
  refine am_iconst (v := nI 5) hC dL_rows_370 (by decide) ?_
  refine am_iconst (v := -1) hC dL_rows_371 (by decide) ?_
  refine am_bipush (v := nI 20) hC dL_rows_372 (by decide) ?_
  refine am_callS hC [.ref (3), .int (nI 0), .int (nI 5), .int (nI 5), .int (nI 5), .int (-1), .int (nI 20)] mf_L_cell tw_596 (c_cell _ _ (am_tr hC) h hS _ _ _ _ _ _ 0 5 (by decide +kernel) (by decide) (dn_nI (by decide)) (dn_nI (by decide)) (z_VM qv_20 (by decide +kernel)) (z_VS qv_20 (by decide +kernel)) (z_VD qv_20 (by decide +kernel)) (z_VHn qv_20 qn_46 (by decide +kernel))) rfl ⟨rfl, Nat.le_of_ble_eq_true rfl⟩ ⟨by decide, by decide⟩ (by decide) (by decide) dL_rows_374 rfl (fun _ _ q _ => False.elim q) (fun v h hp hlc => ?_)
  obtain ⟨rfl, hS⟩ := hp
  refine am_if_eq (tgt := 445) hC dL_rows_377 (by decide) (fun c_377 => absurd c_377 (by decide)) (fun c_377 => ?_)
  refine am_aload_n hC dL_rows_380 rfl ?_
  refine am_iconst (v := nI 0) hC dL_rows_381 (by decide) ?_
  refine am_iconst (v := nI 0) hC dL_rows_382 (by decide) ?_
  refine am_bipush (v := nI 20) hC dL_rows_383 (by decide) ?_
  refine am_iconst (v := nI 0) hC dL_rows_385 (by decide) ?_
  refine am_callV hC (ci := 6) (N := 4) [.int (nI 0), .int (nI 0), .int (nI 20), .int (nI 0)] rfl (SZ_3 hS) rfl mf_X5_tell tw_272 (d_tell _ _ (am_tr hC) h hS _ _ _ _) rfl ⟨rfl, Nat.le_of_ble_eq_true rfl⟩ ⟨by decide, by decide⟩ (by decide) (by decide) dL_rows_386 rfl (fun _ _ q _ => (XN_0 q.2 (by decide +kernel)).elim) (fun v h hp hlc => ?_)
  obtain ⟨rfl, hS⟩ := z_go (x' := nI 1) (σ' := qs_54) (by decide +kernel) (z_sx (by decide +kernel)) hp
  refine am_iconst (v := nI 1) hC dL_rows_389 (by decide) ?_
  refine am_icmp_ne (tgt := 445) hC dL_rows_390 (by decide) (fun c_390 => absurd (by decide) c_390) (fun c_390 => ?_)
  refine am_aload_n hC dL_rows_393 rfl ?_
  refine am_iconst (v := nI 0) hC dL_rows_394 (by decide) ?_
  refine am_callV hC (ci := 6) (N := 4) [.int (nI 0)] rfl (SZ_3 hS) rfl mf_X5_rooms tw_361 (d_rooms _ _ (am_tr hC) h hS _) rfl ⟨rfl, Nat.le_of_ble_eq_true rfl⟩ ⟨by decide, by decide⟩ (by decide) (by decide) dL_rows_395 rfl (fun _ _ q _ => (XN_0 q.2 (by decide +kernel)).elim) (fun v h hp hlc => ?_)
  obtain ⟨rfl, hS⟩ := z_gor (x' := nI 4) (dn_nI (by decide)) (z_VR qv_21 (by decide +kernel)) hp
  refine am_iconst (v := nI 4) hC dL_rows_398 (by decide) ?_
  refine am_icmp_ne (tgt := 445) hC dL_rows_399 (by decide) (fun c_399 => absurd (by decide) c_399) (fun c_399 => ?_)
  refine am_aload_n hC dL_rows_402 rfl ?_
  refine am_iconst (v := nI 0) hC dL_rows_403 (by decide) ?_
  refine am_iconst (v := nI 5) hC dL_rows_404 (by decide) ?_
  refine am_iconst (v := nI 0) hC dL_rows_405 (by decide) ?_
  refine am_bipush (v := nI 10) hC dL_rows_406 (by decide) ?_
  refine am_iconst (v := nI 0) hC dL_rows_408 (by decide) ?_
  refine am_iconst (v := -1) hC dL_rows_409 (by decide) ?_
  refine am_callS hC [.ref (3), .int (nI 0), .int (nI 5), .int (nI 0), .int (nI 10), .int (nI 0), .int (-1)] mf_L_cell tw_596 (c_cell _ _ (am_tr hC) h hS _ _ _ _ _ _ 0 5 (by decide +kernel) (by decide) (dn_nI (by decide)) (dn_nI (by decide)) (z_VM qv_21 (by decide +kernel)) (z_VS qv_21 (by decide +kernel)) (z_VD qv_21 (by decide +kernel)) (z_VHy qv_21 (by decide +kernel))) rfl ⟨rfl, Nat.le_of_ble_eq_true rfl⟩ ⟨by decide, by decide⟩ (by decide) (by decide) dL_rows_410 rfl (fun _ _ q _ => False.elim q) (fun v h hp hlc => ?_)
  obtain ⟨rfl, hS⟩ := hp
  refine am_if_eq (tgt := 445) hC dL_rows_413 (by decide) (fun c_413 => absurd c_413 (by decide)) (fun c_413 => ?_)
  refine am_aload_n hC dL_rows_416 rfl ?_
  refine am_iconst (v := nI 0) hC dL_rows_417 (by decide) ?_
  refine am_bipush (v := nI 10) hC dL_rows_418 (by decide) ?_
  refine am_bipush (v := nI 10) hC dL_rows_420 (by decide) ?_
  refine am_iconst (v := nI 5) hC dL_rows_422 (by decide) ?_
  refine am_iconst (v := -1) hC dL_rows_423 (by decide) ?_
  refine am_bipush (v := nI 25) hC dL_rows_424 (by decide) ?_
  refine am_callS hC [.ref (3), .int (nI 0), .int (nI 10), .int (nI 10), .int (nI 5), .int (-1), .int (nI 25)] mf_L_cell tw_596 (c_cell _ _ (am_tr hC) h hS _ _ _ _ _ _ 0 10 (by decide +kernel) (by decide) (dn_nI (by decide)) (dn_nI (by decide)) (z_VM qv_21 (by decide +kernel)) (z_VS qv_21 (by decide +kernel)) (z_VD qv_21 (by decide +kernel)) (z_VHn qv_21 qn_47 (by decide +kernel))) rfl ⟨rfl, Nat.le_of_ble_eq_true rfl⟩ ⟨by decide, by decide⟩ (by decide) (by decide) dL_rows_426 rfl (fun _ _ q _ => False.elim q) (fun v h hp hlc => ?_)
  obtain ⟨rfl, hS⟩ := hp
  refine am_if_eq (tgt := 445) hC dL_rows_429 (by decide) (fun c_429 => absurd c_429 (by decide)) (fun c_429 => ?_)
  refine am_aload_n hC dL_rows_432 rfl ?_
  refine am_iconst (v := nI 0) hC dL_rows_433 (by decide) ?_
  refine am_iconst (v := nI 0) hC dL_rows_434 (by decide) ?_
  refine am_callS hC [.ref (3), .int (nI 0), .int (nI 0)] mf_L_refuses tw_573 (c_refuses' _ _ (am_tr hC) h hS (p := 0) (q := 0) rfl rfl) rfl ⟨rfl, Nat.le_of_ble_eq_true rfl⟩ ⟨by decide, by decide⟩ (by decide) (by decide) dL_rows_435 rfl (fun _ _ q _ => False.elim q) (fun v h hp hlc => ?_)
  obtain ⟨rfl, hS⟩ := hp
  refine am_if_eq (tgt := 445) hC dL_rows_438 (by decide) (fun c_438 => absurd c_438 (by decide)) (fun c_438 => ?_)
  refine am_iconst (v := nI 1) hC dL_rows_441 (by decide) ?_
  refine am_goto (tgt := 446) hC dL_rows_442 (by decide) ?_
  refine am_iret hC hR rfl (by decide) (by decide) dL_rows_446 ?_
  exact rfl
set_option maxRecDepth 100000 in
set_option maxHeartbeats 4000000 in
theorem rows_4 {Z : am_Z} (hC : am_OK Z "HousePlansLaw" cL_rows 2 16 2705 40165) (hR : am_Rt Z (some .boolean) [] z_one am_no 2705 40165) (h : am_H) (hS : SZ h qs_48) : am_W Z 397 2717 183 [.ref (3), .int (nI 40)] [] h := by
  refine am_aload_n hC dL_rows_183 rfl ?_
  refine am_iconst (v := nI 0) hC dL_rows_184 (by decide) ?_
  refine am_iconst (v := nI 0) hC dL_rows_185 (by decide) ?_
  refine am_bipush (v := nI 18) hC dL_rows_186 (by decide) ?_
  refine am_iconst (v := nI 1) hC dL_rows_188 (by decide) ?_
  refine am_callV hC (ci := 6) (N := 4) [.int (nI 0), .int (nI 0), .int (nI 18), .int (nI 1)] rfl (SZ_3 hS) rfl mf_X5_setExit tw_342 (d_setExit _ _ (am_tr hC) h hS _ _ _ true) rfl ⟨rfl, Nat.le_of_ble_eq_true rfl⟩ ⟨by decide, by decide⟩ (by decide) (by decide) dL_rows_189 rfl (fun _ _ q _ => (XN_0 q.2 (by decide +kernel)).elim) (fun v h hp hlc => ?_)
  obtain ⟨rfl, hS⟩ := z_go (x' := nI 0) (σ' := qs_49) (by decide +kernel) (z_sx (by decide +kernel)) hp
  refine am_if_ne (tgt := 336) hC dL_rows_192 (by decide) (fun c_192 => absurd (by decide) c_192) (fun c_192 => ?_)
  refine am_aload_n hC dL_rows_195 rfl ?_
  refine am_iconst (v := nI 0) hC dL_rows_196 (by decide) ?_
  refine am_bipush (v := nI 10) hC dL_rows_197 (by decide) ?_
  refine am_bipush (v := nI 10) hC dL_rows_199 (by decide) ?_
  refine am_iconst (v := nI 5) hC dL_rows_201 (by decide) ?_
  refine am_iconst (v := nI 1) hC dL_rows_202 (by decide) ?_
  refine am_iconst (v := -1) hC dL_rows_203 (by decide) ?_
  refine am_callS hC [.ref (3), .int (nI 0), .int (nI 10), .int (nI 10), .int (nI 5), .int (nI 1), .int (-1)] mf_L_cell tw_596 (c_cell _ _ (am_tr hC) h hS _ _ _ _ _ _ 0 10 (by decide +kernel) (by decide) (dn_nI (by decide)) (dn_nI (by decide)) (z_VM qv_17 (by decide +kernel)) (z_VS qv_17 (by decide +kernel)) (z_VD qv_17 (by decide +kernel)) (z_VHy qv_17 (by decide +kernel))) rfl ⟨rfl, Nat.le_of_ble_eq_true rfl⟩ ⟨by decide, by decide⟩ (by decide) (by decide) dL_rows_204 rfl (fun _ _ q _ => False.elim q) (fun v h hp hlc => ?_)
  obtain ⟨rfl, hS⟩ := hp
  refine am_if_eq (tgt := 336) hC dL_rows_207 (by decide) (fun c_207 => absurd c_207 (by decide)) (fun c_207 => ?_)
  refine am_aload_n hC dL_rows_210 rfl ?_
  refine am_iconst (v := nI 0) hC dL_rows_211 (by decide) ?_
  refine am_bipush (v := nI 9) hC dL_rows_212 (by decide) ?_
  refine am_iconst (v := nI 5) hC dL_rows_214 (by decide) ?_
  refine am_iconst (v := nI 5) hC dL_rows_215 (by decide) ?_
  refine am_iconst (v := nI 1) hC dL_rows_216 (by decide) ?_
  refine am_iconst (v := -1) hC dL_rows_217 (by decide) ?_
  refine am_callS hC [.ref (3), .int (nI 0), .int (nI 9), .int (nI 5), .int (nI 5), .int (nI 1), .int (-1)] mf_L_cell tw_596 (c_cell _ _ (am_tr hC) h hS _ _ _ _ _ _ 0 9 (by decide +kernel) (by decide) (dn_nI (by decide)) (dn_nI (by decide)) (z_VM qv_17 (by decide +kernel)) (z_VS qv_17 (by decide +kernel)) (z_VD qv_17 (by decide +kernel)) (z_VHy qv_17 (by decide +kernel))) rfl ⟨rfl, Nat.le_of_ble_eq_true rfl⟩ ⟨by decide, by decide⟩ (by decide) (by decide) dL_rows_218 rfl (fun _ _ q _ => False.elim q) (fun v h hp hlc => ?_)
  obtain ⟨rfl, hS⟩ := hp
  refine am_if_eq (tgt := 336) hC dL_rows_221 (by decide) (fun c_221 => absurd c_221 (by decide)) (fun c_221 => ?_)
  refine am_aload_n hC dL_rows_224 rfl ?_
  refine am_iconst (v := nI 0) hC dL_rows_225 (by decide) ?_
  refine am_iconst (v := nI 0) hC dL_rows_226 (by decide) ?_
  refine am_bipush (v := nI 26) hC dL_rows_227 (by decide) ?_
  refine am_iconst (v := nI 1) hC dL_rows_229 (by decide) ?_
  refine am_callV hC (ci := 6) (N := 4) [.int (nI 0), .int (nI 0), .int (nI 26), .int (nI 1)] rfl (SZ_3 hS) rfl mf_X5_tell tw_272 (d_tell _ _ (am_tr hC) h hS _ _ _ _) rfl ⟨rfl, Nat.le_of_ble_eq_true rfl⟩ ⟨by decide, by decide⟩ (by decide) (by decide) dL_rows_230 rfl (fun _ _ q _ => (XN_0 q.2 (by decide +kernel)).elim) (fun v h hp hlc => ?_)
  obtain ⟨rfl, hS⟩ := z_go (x' := nI 2) (σ' := qs_50) (by decide +kernel) (z_sx (by decide +kernel)) hp
  refine am_iconst (v := nI 2) hC dL_rows_233 (by decide) ?_
  refine am_icmp_ne (tgt := 336) hC dL_rows_234 (by decide) (fun c_234 => absurd (by decide) c_234) (fun c_234 => ?_)
  refine am_aload_n hC dL_rows_237 rfl ?_
  refine am_iconst (v := nI 0) hC dL_rows_238 (by decide) ?_
  refine am_iconst (v := nI 0) hC dL_rows_239 (by decide) ?_
  refine am_bipush (v := nI 20) hC dL_rows_240 (by decide) ?_
  refine am_iconst (v := nI 1) hC dL_rows_242 (by decide) ?_
  refine am_callV hC (ci := 6) (N := 4) [.int (nI 0), .int (nI 0), .int (nI 20), .int (nI 1)] rfl (SZ_3 hS) rfl mf_X5_tell tw_272 (d_tell _ _ (am_tr hC) h hS _ _ _ _) rfl ⟨rfl, Nat.le_of_ble_eq_true rfl⟩ ⟨by decide, by decide⟩ (by decide) (by decide) dL_rows_243 rfl (fun _ _ q _ => (XN_0 q.2 (by decide +kernel)).elim) (fun v h hp hlc => ?_)
  obtain ⟨rfl, hS⟩ := z_go (x' := nI 2) (σ' := qs_51) (by decide +kernel) (z_sx (by decide +kernel)) hp
  refine am_iconst (v := nI 2) hC dL_rows_246 (by decide) ?_
  refine am_icmp_ne (tgt := 336) hC dL_rows_247 (by decide) (fun c_247 => absurd (by decide) c_247) (fun c_247 => ?_)
  refine am_aload_n hC dL_rows_250 rfl ?_
  refine am_iconst (v := nI 0) hC dL_rows_251 (by decide) ?_
  refine am_bipush (v := nI 9) hC dL_rows_252 (by decide) ?_
  refine am_iconst (v := nI 5) hC dL_rows_254 (by decide) ?_
  refine am_iconst (v := nI 5) hC dL_rows_255 (by decide) ?_
  refine am_iconst (v := -1) hC dL_rows_256 (by decide) ?_
  refine am_bipush (v := nI 20) hC dL_rows_257 (by decide) ?_
  refine am_callS hC [.ref (3), .int (nI 0), .int (nI 9), .int (nI 5), .int (nI 5), .int (-1), .int (nI 20)] mf_L_cell tw_596 (c_cell _ _ (am_tr hC) h hS _ _ _ _ _ _ 0 9 (by decide +kernel) (by decide) (dn_nI (by decide)) (dn_nI (by decide)) (z_VM qv_18 (by decide +kernel)) (z_VS qv_18 (by decide +kernel)) (z_VD qv_18 (by decide +kernel)) (z_VHn qv_18 qn_46 (by decide +kernel))) rfl ⟨rfl, Nat.le_of_ble_eq_true rfl⟩ ⟨by decide, by decide⟩ (by decide) (by decide) dL_rows_259 rfl (fun _ _ q _ => False.elim q) (fun v h hp hlc => ?_)
  obtain ⟨rfl, hS⟩ := hp
  refine am_if_eq (tgt := 336) hC dL_rows_262 (by decide) (fun c_262 => absurd c_262 (by decide)) (fun c_262 => ?_)
  refine am_aload_n hC dL_rows_265 rfl ?_
  refine am_iconst (v := nI 0) hC dL_rows_266 (by decide) ?_
  refine am_iconst (v := nI 0) hC dL_rows_267 (by decide) ?_
  refine am_bipush (v := nI 18) hC dL_rows_268 (by decide) ?_
  refine am_iconst (v := nI 0) hC dL_rows_270 (by decide) ?_
  refine am_callV hC (ci := 6) (N := 4) [.int (nI 0), .int (nI 0), .int (nI 18), .int (nI 0)] rfl (SZ_3 hS) rfl mf_X5_setExit tw_342 (d_setExit _ _ (am_tr hC) h hS _ _ _ false) rfl ⟨rfl, Nat.le_of_ble_eq_true rfl⟩ ⟨by decide, by decide⟩ (by decide) (by decide) dL_rows_271 rfl (fun _ _ q _ => (XN_0 q.2 (by decide +kernel)).elim) (fun v h hp hlc => ?_)
  obtain ⟨rfl, hS⟩ := z_go (x' := nI 1) (σ' := qs_52) (by decide +kernel) (z_sx (by decide +kernel)) hp
  refine am_if_eq (tgt := 336) hC dL_rows_274 (by decide) (fun c_274 => absurd c_274 (by decide)) (fun c_274 => ?_)
  refine am_aload_n hC dL_rows_277 rfl ?_
  refine am_iconst (v := nI 0) hC dL_rows_278 (by decide) ?_
  refine am_bipush (v := nI 14) hC dL_rows_279 (by decide) ?_
  refine am_bipush (v := nI 10) hC dL_rows_281 (by decide) ?_
  refine am_iconst (v := nI 5) hC dL_rows_283 (by decide) ?_
  refine am_iconst (v := -1) hC dL_rows_284 (by decide) ?_
  refine am_iconst (v := -1) hC dL_rows_285 (by decide) ?_
  refine am_callS hC [.ref (3), .int (nI 0), .int (nI 14), .int (nI 10), .int (nI 5), .int (-1), .int (-1)] mf_L_cell tw_596 (c_cell _ _ (am_tr hC) h hS _ _ _ _ _ _ 0 14 (by decide +kernel) (by decide) (dn_nI (by decide)) (dn_nI (by decide)) (z_VM qv_19 (by decide +kernel)) (z_VS qv_19 (by decide +kernel)) (z_VD qv_19 (by decide +kernel)) (z_VHn qv_19 qn_47 (by decide +kernel))) rfl ⟨rfl, Nat.le_of_ble_eq_true rfl⟩ ⟨by decide, by decide⟩ (by decide) (by decide) dL_rows_286 rfl (fun _ _ q _ => False.elim q) (fun v h hp hlc => ?_)
  obtain ⟨rfl, hS⟩ := hp
  refine am_if_eq (tgt := 336) hC dL_rows_289 (by decide) (fun c_289 => absurd c_289 (by decide)) (fun c_289 => ?_)
  refine am_aload_n hC dL_rows_292 rfl ?_
  refine am_iconst (v := nI 0) hC dL_rows_293 (by decide) ?_
  refine am_bipush (v := nI 15) hC dL_rows_294 (by decide) ?_
  refine am_bipush (v := nI 15) hC dL_rows_296 (by decide) ?_
  refine am_iconst (v := nI 5) hC dL_rows_298 (by decide) ?_
  refine am_iconst (v := -1) hC dL_rows_299 (by decide) ?_
  refine am_iconst (v := -1) hC dL_rows_300 (by decide) ?_
  refine am_callS hC [.ref (3), .int (nI 0), .int (nI 15), .int (nI 15), .int (nI 5), .int (-1), .int (-1)] mf_L_cell tw_596 (c_cell _ _ (am_tr hC) h hS _ _ _ _ _ _ 0 15 (by decide +kernel) (by decide) (dn_nI (by decide)) (dn_nI (by decide)) (z_VM qv_19 (by decide +kernel)) (z_VS qv_19 (by decide +kernel)) (z_VD qv_19 (by decide +kernel)) (z_VHn qv_19 qn_48 (by decide +kernel))) rfl ⟨rfl, Nat.le_of_ble_eq_true rfl⟩ ⟨by decide, by decide⟩ (by decide) (by decide) dL_rows_301 rfl (fun _ _ q _ => False.elim q) (fun v h hp hlc => ?_)
  obtain ⟨rfl, hS⟩ := hp
  refine am_if_eq (tgt := 336) hC dL_rows_304 (by decide) (fun c_304 => absurd c_304 (by decide)) (fun c_304 => ?_)
  refine am_aload_n hC dL_rows_307 rfl ?_
  refine am_iconst (v := nI 0) hC dL_rows_308 (by decide) ?_
  refine am_bipush (v := nI 24) hC dL_rows_309 (by decide) ?_
  refine am_bipush (v := nI 20) hC dL_rows_311 (by decide) ?_
  refine am_iconst (v := nI 5) hC dL_rows_313 (by decide) ?_
  refine am_iconst (v := -1) hC dL_rows_314 (by decide) ?_
  refine am_iconst (v := -1) hC dL_rows_315 (by decide) ?_
  refine am_callS hC [.ref (3), .int (nI 0), .int (nI 24), .int (nI 20), .int (nI 5), .int (-1), .int (-1)] mf_L_cell tw_596 (c_cell _ _ (am_tr hC) h hS _ _ _ _ _ _ 0 24 (by decide +kernel) (by decide) (dn_nI (by decide)) (dn_nI (by decide)) (z_VM qv_19 (by decide +kernel)) (z_VS qv_19 (by decide +kernel)) (z_VD qv_19 (by decide +kernel)) (z_VHn qv_19 qn_41 (by decide +kernel))) rfl ⟨rfl, Nat.le_of_ble_eq_true rfl⟩ ⟨by decide, by decide⟩ (by decide) (by decide) dL_rows_316 rfl (fun _ _ q _ => False.elim q) (fun v h hp hlc => ?_)
  obtain ⟨rfl, hS⟩ := hp
  refine am_if_eq (tgt := 336) hC dL_rows_319 (by decide) (fun c_319 => absurd c_319 (by decide)) (fun c_319 => ?_)
  exact am_more (kc' := 621) (ks' := 4061) (by decide) (by decide) (rows_5 hC hR h hS)
set_option maxRecDepth 100000 in
set_option maxHeartbeats 4000000 in
theorem rows_3 {Z : am_Z} (hC : am_OK Z "HousePlansLaw" cL_rows 2 16 2705 40165) (hR : am_Rt Z (some .boolean) [] z_one am_no 2705 40165) (h : am_H) (hS : SZ h qs_45) : am_W Z 173 1373 70 [.ref (3), .int (nI 37)] [] h := by
  refine am_iinc (v := nI 38) hC dL_rows_70 rfl (by decide) (by decide) ?_
  change am_W _ _ _ _ [.ref (3), .int (nI 38)] _ _
  refine am_goto (tgt := 29) hC dL_rows_73 (by decide) ?_
  refine am_iload_n hC dL_rows_29 rfl ?_
  refine am_bipush (v := nI 40) hC dL_rows_30 (by decide) ?_
  refine am_icmp_ge (tgt := 76) hC dL_rows_32 (by decide) (fun c_32 => absurd c_32 (by decide)) (fun c_32 => ?_)
  refine am_aload_n hC dL_rows_35 rfl ?_
  refine am_iconst (v := nI 0) hC dL_rows_36 (by decide) ?_
  refine am_iconst (v := nI 0) hC dL_rows_37 (by decide) ?_
  refine am_iload_n hC dL_rows_38 rfl ?_
  refine am_iload_n hC dL_rows_39 rfl ?_
  refine am_bipush (v := nI 35) hC dL_rows_40 (by decide) ?_
  refine am_icmp_ge (tgt := 60) hC dL_rows_42 (by decide) (fun c_42 => ?_) (fun c_42 => absurd (by decide) c_42)
  refine am_iconst (v := nI 1) hC dL_rows_60 (by decide) ?_
  refine am_callV hC (ci := 6) (N := 4) [.int (nI 0), .int (nI 0), .int (nI 38), .int (nI 1)] rfl (SZ_3 hS) rfl mf_X5_tell tw_272 (d_tell _ _ (am_tr hC) h hS _ _ _ _) rfl ⟨rfl, Nat.le_of_ble_eq_true rfl⟩ ⟨by decide, by decide⟩ (by decide) (by decide) dL_rows_61 rfl (fun _ _ q _ => (XN_0 q.2 (by decide +kernel)).elim) (fun v h hp hlc => ?_)
  obtain ⟨rfl, hS⟩ := z_go (x' := (-1)) (σ' := qs_46) (by decide +kernel) (z_sx (by decide +kernel)) hp
  refine am_iconst (v := -1) hC dL_rows_64 (by decide) ?_
  refine am_icmp_eq (tgt := 70) hC dL_rows_65 (by decide) (fun c_65 => ?_) (fun c_65 => absurd (by decide) c_65)
  refine am_iinc (v := nI 39) hC dL_rows_70 rfl (by decide) (by decide) ?_
  change am_W _ _ _ _ [.ref (3), .int (nI 39)] _ _
  refine am_goto (tgt := 29) hC dL_rows_73 (by decide) ?_
  refine am_iload_n hC dL_rows_29 rfl ?_
  refine am_bipush (v := nI 40) hC dL_rows_30 (by decide) ?_
  refine am_icmp_ge (tgt := 76) hC dL_rows_32 (by decide) (fun c_32 => absurd c_32 (by decide)) (fun c_32 => ?_)
  refine am_aload_n hC dL_rows_35 rfl ?_
  refine am_iconst (v := nI 0) hC dL_rows_36 (by decide) ?_
  refine am_iconst (v := nI 0) hC dL_rows_37 (by decide) ?_
  refine am_iload_n hC dL_rows_38 rfl ?_
  refine am_iload_n hC dL_rows_39 rfl ?_
  refine am_bipush (v := nI 35) hC dL_rows_40 (by decide) ?_
  refine am_icmp_ge (tgt := 60) hC dL_rows_42 (by decide) (fun c_42 => ?_) (fun c_42 => absurd (by decide) c_42)
  refine am_iconst (v := nI 1) hC dL_rows_60 (by decide) ?_
  refine am_callV hC (ci := 6) (N := 4) [.int (nI 0), .int (nI 0), .int (nI 39), .int (nI 1)] rfl (SZ_3 hS) rfl mf_X5_tell tw_272 (d_tell _ _ (am_tr hC) h hS _ _ _ _) rfl ⟨rfl, Nat.le_of_ble_eq_true rfl⟩ ⟨by decide, by decide⟩ (by decide) (by decide) dL_rows_61 rfl (fun _ _ q _ => (XN_0 q.2 (by decide +kernel)).elim) (fun v h hp hlc => ?_)
  obtain ⟨rfl, hS⟩ := z_go (x' := (-1)) (σ' := qs_47) (by decide +kernel) (z_sx (by decide +kernel)) hp
  refine am_iconst (v := -1) hC dL_rows_64 (by decide) ?_
  refine am_icmp_eq (tgt := 70) hC dL_rows_65 (by decide) (fun c_65 => ?_) (fun c_65 => absurd (by decide) c_65)
  refine am_iinc (v := nI 40) hC dL_rows_70 rfl (by decide) (by decide) ?_
  change am_W _ _ _ _ [.ref (3), .int (nI 40)] _ _
  refine am_goto (tgt := 29) hC dL_rows_73 (by decide) ?_
  refine am_iload_n hC dL_rows_29 rfl ?_
  refine am_bipush (v := nI 40) hC dL_rows_30 (by decide) ?_
  refine am_icmp_ge (tgt := 76) hC dL_rows_32 (by decide) (fun c_32 => ?_) (fun c_32 => absurd (by decide) c_32)
  refine am_aload_n hC dL_rows_76 rfl ?_
  refine am_iconst (v := nI 0) hC dL_rows_77 (by decide) ?_
  refine am_callV hC (ci := 6) (N := 4) [.int (nI 0)] rfl (SZ_3 hS) rfl mf_X5_rooms tw_361 (d_rooms _ _ (am_tr hC) h hS _) rfl ⟨rfl, Nat.le_of_ble_eq_true rfl⟩ ⟨by decide, by decide⟩ (by decide) (by decide) dL_rows_78 rfl (fun _ _ q _ => (XN_0 q.2 (by decide +kernel)).elim) (fun v h hp hlc => ?_)
  obtain ⟨rfl, hS⟩ := z_gor (x' := nI 5) (dn_nI (by decide)) (z_VR qv_15 (by decide +kernel)) hp
  refine am_iconst (v := nI 5) hC dL_rows_81 (by decide) ?_
  refine am_icmp_ne (tgt := 336) hC dL_rows_82 (by decide) (fun c_82 => absurd (by decide) c_82) (fun c_82 => ?_)
  refine am_aload_n hC dL_rows_85 rfl ?_
  refine am_iconst (v := nI 0) hC dL_rows_86 (by decide) ?_
  refine am_bipush (v := nI 7) hC dL_rows_87 (by decide) ?_
  refine am_iconst (v := nI 5) hC dL_rows_89 (by decide) ?_
  refine am_iconst (v := nI 5) hC dL_rows_90 (by decide) ?_
  refine am_iconst (v := -1) hC dL_rows_91 (by decide) ?_
  refine am_iconst (v := -1) hC dL_rows_92 (by decide) ?_
  refine am_callS hC [.ref (3), .int (nI 0), .int (nI 7), .int (nI 5), .int (nI 5), .int (-1), .int (-1)] mf_L_cell tw_596 (c_cell _ _ (am_tr hC) h hS _ _ _ _ _ _ 0 7 (by decide +kernel) (by decide) (dn_nI (by decide)) (dn_nI (by decide)) (z_VM qv_15 (by decide +kernel)) (z_VS qv_15 (by decide +kernel)) (z_VD qv_15 (by decide +kernel)) (z_VHn qv_15 qn_39 (by decide +kernel))) rfl ⟨rfl, Nat.le_of_ble_eq_true rfl⟩ ⟨by decide, by decide⟩ (by decide) (by decide) dL_rows_93 rfl (fun _ _ q _ => False.elim q) (fun v h hp hlc => ?_)
  obtain ⟨rfl, hS⟩ := hp
  refine am_if_eq (tgt := 336) hC dL_rows_96 (by decide) (fun c_96 => absurd c_96 (by decide)) (fun c_96 => ?_)
  refine am_aload_n hC dL_rows_99 rfl ?_
  refine am_iconst (v := nI 0) hC dL_rows_100 (by decide) ?_
  refine am_iconst (v := nI 0) hC dL_rows_101 (by decide) ?_
  refine am_iconst (v := nI 2) hC dL_rows_102 (by decide) ?_
  refine am_iconst (v := nI 1) hC dL_rows_103 (by decide) ?_
  refine am_callV hC (ci := 6) (N := 4) [.int (nI 0), .int (nI 0), .int (nI 2), .int (nI 1)] rfl (SZ_3 hS) rfl mf_X5_setExit tw_342 (d_setExit _ _ (am_tr hC) h hS _ _ _ true) rfl ⟨rfl, Nat.le_of_ble_eq_true rfl⟩ ⟨by decide, by decide⟩ (by decide) (by decide) dL_rows_104 rfl (fun _ _ q _ => (XN_0 q.2 (by decide +kernel)).elim) (fun v h hp hlc => ?_)
  obtain ⟨rfl, hS⟩ := z_go (x' := nI 0) (σ' := qs_48) (by decide +kernel) (z_sx (by decide +kernel)) hp
  refine am_if_ne (tgt := 336) hC dL_rows_107 (by decide) (fun c_107 => absurd (by decide) c_107) (fun c_107 => ?_)
  refine am_aload_n hC dL_rows_110 rfl ?_
  refine am_iconst (v := nI 0) hC dL_rows_111 (by decide) ?_
  refine am_iconst (v := nI 4) hC dL_rows_112 (by decide) ?_
  refine am_iconst (v := nI 0) hC dL_rows_113 (by decide) ?_
  refine am_iconst (v := nI 5) hC dL_rows_114 (by decide) ?_
  refine am_iconst (v := nI 0) hC dL_rows_115 (by decide) ?_
  refine am_iconst (v := -1) hC dL_rows_116 (by decide) ?_
  refine am_callS hC [.ref (3), .int (nI 0), .int (nI 4), .int (nI 0), .int (nI 5), .int (nI 0), .int (-1)] mf_L_cell tw_596 (c_cell _ _ (am_tr hC) h hS _ _ _ _ _ _ 0 4 (by decide +kernel) (by decide) (dn_nI (by decide)) (dn_nI (by decide)) (z_VM qv_16 (by decide +kernel)) (z_VS qv_16 (by decide +kernel)) (z_VD qv_16 (by decide +kernel)) (z_VHy qv_16 (by decide +kernel))) rfl ⟨rfl, Nat.le_of_ble_eq_true rfl⟩ ⟨by decide, by decide⟩ (by decide) (by decide) dL_rows_117 rfl (fun _ _ q _ => False.elim q) (fun v h hp hlc => ?_)
  obtain ⟨rfl, hS⟩ := hp
  refine am_if_eq (tgt := 336) hC dL_rows_120 (by decide) (fun c_120 => absurd c_120 (by decide)) (fun c_120 => ?_)
  refine am_aload_n hC dL_rows_123 rfl ?_
  refine am_iconst (v := nI 0) hC dL_rows_124 (by decide) ?_
  refine am_bipush (v := nI 9) hC dL_rows_125 (by decide) ?_
  refine am_iconst (v := nI 5) hC dL_rows_127 (by decide) ?_
  refine am_iconst (v := nI 5) hC dL_rows_128 (by decide) ?_
  refine am_iconst (v := nI 1) hC dL_rows_129 (by decide) ?_
  refine am_iconst (v := -1) hC dL_rows_130 (by decide) ?_
  refine am_callS hC [.ref (3), .int (nI 0), .int (nI 9), .int (nI 5), .int (nI 5), .int (nI 1), .int (-1)] mf_L_cell tw_596 (c_cell _ _ (am_tr hC) h hS _ _ _ _ _ _ 0 9 (by decide +kernel) (by decide) (dn_nI (by decide)) (dn_nI (by decide)) (z_VM qv_16 (by decide +kernel)) (z_VS qv_16 (by decide +kernel)) (z_VD qv_16 (by decide +kernel)) (z_VHy qv_16 (by decide +kernel))) rfl ⟨rfl, Nat.le_of_ble_eq_true rfl⟩ ⟨by decide, by decide⟩ (by decide) (by decide) dL_rows_131 rfl (fun _ _ q _ => False.elim q) (fun v h hp hlc => ?_)
  obtain ⟨rfl, hS⟩ := hp
  refine am_if_eq (tgt := 336) hC dL_rows_134 (by decide) (fun c_134 => absurd c_134 (by decide)) (fun c_134 => ?_)
  refine am_aload_n hC dL_rows_137 rfl ?_
  refine am_iconst (v := nI 0) hC dL_rows_138 (by decide) ?_
  refine am_bipush (v := nI 10) hC dL_rows_139 (by decide) ?_
  refine am_bipush (v := nI 10) hC dL_rows_141 (by decide) ?_
  refine am_iconst (v := nI 5) hC dL_rows_143 (by decide) ?_
  refine am_iconst (v := nI 2) hC dL_rows_144 (by decide) ?_
  refine am_iconst (v := -1) hC dL_rows_145 (by decide) ?_
  refine am_callS hC [.ref (3), .int (nI 0), .int (nI 10), .int (nI 10), .int (nI 5), .int (nI 2), .int (-1)] mf_L_cell tw_596 (c_cell _ _ (am_tr hC) h hS _ _ _ _ _ _ 0 10 (by decide +kernel) (by decide) (dn_nI (by decide)) (dn_nI (by decide)) (z_VM qv_16 (by decide +kernel)) (z_VS qv_16 (by decide +kernel)) (z_VD qv_16 (by decide +kernel)) (z_VHy qv_16 (by decide +kernel))) rfl ⟨rfl, Nat.le_of_ble_eq_true rfl⟩ ⟨by decide, by decide⟩ (by decide) (by decide) dL_rows_146 rfl (fun _ _ q _ => False.elim q) (fun v h hp hlc => ?_)
  obtain ⟨rfl, hS⟩ := hp
  refine am_if_eq (tgt := 336) hC dL_rows_149 (by decide) (fun c_149 => absurd c_149 (by decide)) (fun c_149 => ?_)
  refine am_aload_n hC dL_rows_152 rfl ?_
  refine am_iconst (v := nI 0) hC dL_rows_153 (by decide) ?_
  refine am_bipush (v := nI 19) hC dL_rows_154 (by decide) ?_
  refine am_bipush (v := nI 15) hC dL_rows_156 (by decide) ?_
  refine am_iconst (v := nI 5) hC dL_rows_158 (by decide) ?_
  refine am_iconst (v := nI 3) hC dL_rows_159 (by decide) ?_
  refine am_iconst (v := -1) hC dL_rows_160 (by decide) ?_
  refine am_callS hC [.ref (3), .int (nI 0), .int (nI 19), .int (nI 15), .int (nI 5), .int (nI 3), .int (-1)] mf_L_cell tw_596 (c_cell _ _ (am_tr hC) h hS _ _ _ _ _ _ 0 19 (by decide +kernel) (by decide) (dn_nI (by decide)) (dn_nI (by decide)) (z_VM qv_16 (by decide +kernel)) (z_VS qv_16 (by decide +kernel)) (z_VD qv_16 (by decide +kernel)) (z_VHy qv_16 (by decide +kernel))) rfl ⟨rfl, Nat.le_of_ble_eq_true rfl⟩ ⟨by decide, by decide⟩ (by decide) (by decide) dL_rows_161 rfl (fun _ _ q _ => False.elim q) (fun v h hp hlc => ?_)
  obtain ⟨rfl, hS⟩ := hp
  refine am_if_eq (tgt := 336) hC dL_rows_164 (by decide) (fun c_164 => absurd c_164 (by decide)) (fun c_164 => ?_)
  refine am_aload_n hC dL_rows_167 rfl ?_
  refine am_iconst (v := nI 0) hC dL_rows_168 (by decide) ?_
  refine am_bipush (v := nI 20) hC dL_rows_169 (by decide) ?_
  refine am_bipush (v := nI 20) hC dL_rows_171 (by decide) ?_
  refine am_iconst (v := nI 5) hC dL_rows_173 (by decide) ?_
  refine am_iconst (v := -1) hC dL_rows_174 (by decide) ?_
  refine am_bipush (v := nI 35) hC dL_rows_175 (by decide) ?_
  refine am_callS hC [.ref (3), .int (nI 0), .int (nI 20), .int (nI 20), .int (nI 5), .int (-1), .int (nI 35)] mf_L_cell tw_596 (c_cell _ _ (am_tr hC) h hS _ _ _ _ _ _ 0 20 (by decide +kernel) (by decide) (dn_nI (by decide)) (dn_nI (by decide)) (z_VM qv_16 (by decide +kernel)) (z_VS qv_16 (by decide +kernel)) (z_VD qv_16 (by decide +kernel)) (z_VHn qv_16 qn_41 (by decide +kernel))) rfl ⟨rfl, Nat.le_of_ble_eq_true rfl⟩ ⟨by decide, by decide⟩ (by decide) (by decide) dL_rows_177 rfl (fun _ _ q _ => False.elim q) (fun v h hp hlc => ?_)
  obtain ⟨rfl, hS⟩ := hp
  refine am_if_eq (tgt := 336) hC dL_rows_180 (by decide) (fun c_180 => absurd c_180 (by decide)) (fun c_180 => ?_)
  exact am_more (kc' := 397) (ks' := 2717) (by decide) (by decide) (rows_4 hC hR h hS)
set_option maxRecDepth 100000 in
set_option maxHeartbeats 4000000 in
theorem rows_2 {Z : am_Z} (hC : am_OK Z "HousePlansLaw" cL_rows 2 16 2705 40165) (hR : am_Rt Z (some .boolean) [] z_one am_no 2705 40165) (h : am_H) (hS : SZ h qs_35) : am_W Z 93 893 70 [.ref (3), .int (nI 27)] [] h := by
  refine am_iinc (v := nI 28) hC dL_rows_70 rfl (by decide) (by decide) ?_
  change am_W _ _ _ _ [.ref (3), .int (nI 28)] _ _
  refine am_goto (tgt := 29) hC dL_rows_73 (by decide) ?_
  refine am_iload_n hC dL_rows_29 rfl ?_
  refine am_bipush (v := nI 40) hC dL_rows_30 (by decide) ?_
  refine am_icmp_ge (tgt := 76) hC dL_rows_32 (by decide) (fun c_32 => absurd c_32 (by decide)) (fun c_32 => ?_)
  refine am_aload_n hC dL_rows_35 rfl ?_
  refine am_iconst (v := nI 0) hC dL_rows_36 (by decide) ?_
  refine am_iconst (v := nI 0) hC dL_rows_37 (by decide) ?_
  refine am_iload_n hC dL_rows_38 rfl ?_
  refine am_iload_n hC dL_rows_39 rfl ?_
  refine am_bipush (v := nI 35) hC dL_rows_40 (by decide) ?_
  refine am_icmp_ge (tgt := 60) hC dL_rows_42 (by decide) (fun c_42 => absurd c_42 (by decide)) (fun c_42 => ?_)
  refine am_iload_n hC dL_rows_45 rfl ?_
  refine am_iconst (v := nI 5) hC dL_rows_46 (by decide) ?_
  refine am_iremE (z := nI (28 % 5)) hC dL_rows_47 (by decide) (pk_rem (by omega) (by omega) (by omega)) ?_
  refine am_iload_n hC dL_rows_48 rfl ?_
  refine am_iconst (v := nI 5) hC dL_rows_49 (by decide) ?_
  refine am_idivE (z := nI (28 / 5)) hC dL_rows_50 (by decide) (pk_div (by omega) (by omega) (by omega)) ?_
  refine am_iconst (v := nI 4) hC dL_rows_51 (by decide) ?_
  refine am_isubE (z := nI (28 / 5 - 4)) hC dL_rows_52 (pk_sub (by omega)) ?_
  refine am_icmp_ne (tgt := 60) hC dL_rows_53 (by decide) (fun c_53 => ?_) (fun c_53 => absurd c_53 (by decide))
  refine am_iconst (v := nI 1) hC dL_rows_60 (by decide) ?_
  refine am_callV hC (ci := 6) (N := 4) [.int (nI 0), .int (nI 0), .int (nI 28), .int (nI 1)] rfl (SZ_3 hS) rfl mf_X5_tell tw_272 (d_tell _ _ (am_tr hC) h hS _ _ _ _) rfl ⟨rfl, Nat.le_of_ble_eq_true rfl⟩ ⟨by decide, by decide⟩ (by decide) (by decide) dL_rows_61 rfl (fun _ _ q _ => (XN_0 q.2 (by decide +kernel)).elim) (fun v h hp hlc => ?_)
  obtain ⟨rfl, hS⟩ := z_go (x' := (-1)) (σ' := qs_36) (by decide +kernel) (z_sx (by decide +kernel)) hp
  refine am_iconst (v := -1) hC dL_rows_64 (by decide) ?_
  refine am_icmp_eq (tgt := 70) hC dL_rows_65 (by decide) (fun c_65 => ?_) (fun c_65 => absurd (by decide) c_65)
  refine am_iinc (v := nI 29) hC dL_rows_70 rfl (by decide) (by decide) ?_
  change am_W _ _ _ _ [.ref (3), .int (nI 29)] _ _
  refine am_goto (tgt := 29) hC dL_rows_73 (by decide) ?_
  refine am_iload_n hC dL_rows_29 rfl ?_
  refine am_bipush (v := nI 40) hC dL_rows_30 (by decide) ?_
  refine am_icmp_ge (tgt := 76) hC dL_rows_32 (by decide) (fun c_32 => absurd c_32 (by decide)) (fun c_32 => ?_)
  refine am_aload_n hC dL_rows_35 rfl ?_
  refine am_iconst (v := nI 0) hC dL_rows_36 (by decide) ?_
  refine am_iconst (v := nI 0) hC dL_rows_37 (by decide) ?_
  refine am_iload_n hC dL_rows_38 rfl ?_
  refine am_iload_n hC dL_rows_39 rfl ?_
  refine am_bipush (v := nI 35) hC dL_rows_40 (by decide) ?_
  refine am_icmp_ge (tgt := 60) hC dL_rows_42 (by decide) (fun c_42 => absurd c_42 (by decide)) (fun c_42 => ?_)
  refine am_iload_n hC dL_rows_45 rfl ?_
  refine am_iconst (v := nI 5) hC dL_rows_46 (by decide) ?_
  refine am_iremE (z := nI (29 % 5)) hC dL_rows_47 (by decide) (pk_rem (by omega) (by omega) (by omega)) ?_
  refine am_iload_n hC dL_rows_48 rfl ?_
  refine am_iconst (v := nI 5) hC dL_rows_49 (by decide) ?_
  refine am_idivE (z := nI (29 / 5)) hC dL_rows_50 (by decide) (pk_div (by omega) (by omega) (by omega)) ?_
  refine am_iconst (v := nI 4) hC dL_rows_51 (by decide) ?_
  refine am_isubE (z := nI (29 / 5 - 4)) hC dL_rows_52 (pk_sub (by omega)) ?_
  refine am_icmp_ne (tgt := 60) hC dL_rows_53 (by decide) (fun c_53 => ?_) (fun c_53 => absurd c_53 (by decide))
  refine am_iconst (v := nI 1) hC dL_rows_60 (by decide) ?_
  refine am_callV hC (ci := 6) (N := 4) [.int (nI 0), .int (nI 0), .int (nI 29), .int (nI 1)] rfl (SZ_3 hS) rfl mf_X5_tell tw_272 (d_tell _ _ (am_tr hC) h hS _ _ _ _) rfl ⟨rfl, Nat.le_of_ble_eq_true rfl⟩ ⟨by decide, by decide⟩ (by decide) (by decide) dL_rows_61 rfl (fun _ _ q _ => (XN_0 q.2 (by decide +kernel)).elim) (fun v h hp hlc => ?_)
  obtain ⟨rfl, hS⟩ := z_go (x' := (-1)) (σ' := qs_37) (by decide +kernel) (z_sx (by decide +kernel)) hp
  refine am_iconst (v := -1) hC dL_rows_64 (by decide) ?_
  refine am_icmp_eq (tgt := 70) hC dL_rows_65 (by decide) (fun c_65 => ?_) (fun c_65 => absurd (by decide) c_65)
  refine am_iinc (v := nI 30) hC dL_rows_70 rfl (by decide) (by decide) ?_
  change am_W _ _ _ _ [.ref (3), .int (nI 30)] _ _
  refine am_goto (tgt := 29) hC dL_rows_73 (by decide) ?_
  refine am_iload_n hC dL_rows_29 rfl ?_
  refine am_bipush (v := nI 40) hC dL_rows_30 (by decide) ?_
  refine am_icmp_ge (tgt := 76) hC dL_rows_32 (by decide) (fun c_32 => absurd c_32 (by decide)) (fun c_32 => ?_)
  refine am_aload_n hC dL_rows_35 rfl ?_
  refine am_iconst (v := nI 0) hC dL_rows_36 (by decide) ?_
  refine am_iconst (v := nI 0) hC dL_rows_37 (by decide) ?_
  refine am_iload_n hC dL_rows_38 rfl ?_
  refine am_iload_n hC dL_rows_39 rfl ?_
  refine am_bipush (v := nI 35) hC dL_rows_40 (by decide) ?_
  refine am_icmp_ge (tgt := 60) hC dL_rows_42 (by decide) (fun c_42 => absurd c_42 (by decide)) (fun c_42 => ?_)
  refine am_iload_n hC dL_rows_45 rfl ?_
  refine am_iconst (v := nI 5) hC dL_rows_46 (by decide) ?_
  refine am_iremE (z := nI (30 % 5)) hC dL_rows_47 (by decide) (pk_rem (by omega) (by omega) (by omega)) ?_
  refine am_iload_n hC dL_rows_48 rfl ?_
  refine am_iconst (v := nI 5) hC dL_rows_49 (by decide) ?_
  refine am_idivE (z := nI (30 / 5)) hC dL_rows_50 (by decide) (pk_div (by omega) (by omega) (by omega)) ?_
  refine am_iconst (v := nI 4) hC dL_rows_51 (by decide) ?_
  refine am_isubE (z := nI (30 / 5 - 4)) hC dL_rows_52 (pk_sub (by omega)) ?_
  refine am_icmp_ne (tgt := 60) hC dL_rows_53 (by decide) (fun c_53 => ?_) (fun c_53 => absurd c_53 (by decide))
  refine am_iconst (v := nI 1) hC dL_rows_60 (by decide) ?_
  refine am_callV hC (ci := 6) (N := 4) [.int (nI 0), .int (nI 0), .int (nI 30), .int (nI 1)] rfl (SZ_3 hS) rfl mf_X5_tell tw_272 (d_tell _ _ (am_tr hC) h hS _ _ _ _) rfl ⟨rfl, Nat.le_of_ble_eq_true rfl⟩ ⟨by decide, by decide⟩ (by decide) (by decide) dL_rows_61 rfl (fun _ _ q _ => (XN_0 q.2 (by decide +kernel)).elim) (fun v h hp hlc => ?_)
  obtain ⟨rfl, hS⟩ := z_go (x' := (-1)) (σ' := qs_38) (by decide +kernel) (z_sx (by decide +kernel)) hp
  refine am_iconst (v := -1) hC dL_rows_64 (by decide) ?_
  refine am_icmp_eq (tgt := 70) hC dL_rows_65 (by decide) (fun c_65 => ?_) (fun c_65 => absurd (by decide) c_65)
  refine am_iinc (v := nI 31) hC dL_rows_70 rfl (by decide) (by decide) ?_
  change am_W _ _ _ _ [.ref (3), .int (nI 31)] _ _
  refine am_goto (tgt := 29) hC dL_rows_73 (by decide) ?_
  refine am_iload_n hC dL_rows_29 rfl ?_
  refine am_bipush (v := nI 40) hC dL_rows_30 (by decide) ?_
  refine am_icmp_ge (tgt := 76) hC dL_rows_32 (by decide) (fun c_32 => absurd c_32 (by decide)) (fun c_32 => ?_)
  refine am_aload_n hC dL_rows_35 rfl ?_
  refine am_iconst (v := nI 0) hC dL_rows_36 (by decide) ?_
  refine am_iconst (v := nI 0) hC dL_rows_37 (by decide) ?_
  refine am_iload_n hC dL_rows_38 rfl ?_
  refine am_iload_n hC dL_rows_39 rfl ?_
  refine am_bipush (v := nI 35) hC dL_rows_40 (by decide) ?_
  refine am_icmp_ge (tgt := 60) hC dL_rows_42 (by decide) (fun c_42 => absurd c_42 (by decide)) (fun c_42 => ?_)
  refine am_iload_n hC dL_rows_45 rfl ?_
  refine am_iconst (v := nI 5) hC dL_rows_46 (by decide) ?_
  refine am_iremE (z := nI (31 % 5)) hC dL_rows_47 (by decide) (pk_rem (by omega) (by omega) (by omega)) ?_
  refine am_iload_n hC dL_rows_48 rfl ?_
  refine am_iconst (v := nI 5) hC dL_rows_49 (by decide) ?_
  refine am_idivE (z := nI (31 / 5)) hC dL_rows_50 (by decide) (pk_div (by omega) (by omega) (by omega)) ?_
  refine am_iconst (v := nI 4) hC dL_rows_51 (by decide) ?_
  refine am_isubE (z := nI (31 / 5 - 4)) hC dL_rows_52 (pk_sub (by omega)) ?_
  refine am_icmp_ne (tgt := 60) hC dL_rows_53 (by decide) (fun c_53 => ?_) (fun c_53 => absurd c_53 (by decide))
  refine am_iconst (v := nI 1) hC dL_rows_60 (by decide) ?_
  refine am_callV hC (ci := 6) (N := 4) [.int (nI 0), .int (nI 0), .int (nI 31), .int (nI 1)] rfl (SZ_3 hS) rfl mf_X5_tell tw_272 (d_tell _ _ (am_tr hC) h hS _ _ _ _) rfl ⟨rfl, Nat.le_of_ble_eq_true rfl⟩ ⟨by decide, by decide⟩ (by decide) (by decide) dL_rows_61 rfl (fun _ _ q _ => (XN_0 q.2 (by decide +kernel)).elim) (fun v h hp hlc => ?_)
  obtain ⟨rfl, hS⟩ := z_go (x' := (-1)) (σ' := qs_39) (by decide +kernel) (z_sx (by decide +kernel)) hp
  refine am_iconst (v := -1) hC dL_rows_64 (by decide) ?_
  refine am_icmp_eq (tgt := 70) hC dL_rows_65 (by decide) (fun c_65 => ?_) (fun c_65 => absurd (by decide) c_65)
  refine am_iinc (v := nI 32) hC dL_rows_70 rfl (by decide) (by decide) ?_
  change am_W _ _ _ _ [.ref (3), .int (nI 32)] _ _
  refine am_goto (tgt := 29) hC dL_rows_73 (by decide) ?_
  refine am_iload_n hC dL_rows_29 rfl ?_
  refine am_bipush (v := nI 40) hC dL_rows_30 (by decide) ?_
  refine am_icmp_ge (tgt := 76) hC dL_rows_32 (by decide) (fun c_32 => absurd c_32 (by decide)) (fun c_32 => ?_)
  refine am_aload_n hC dL_rows_35 rfl ?_
  refine am_iconst (v := nI 0) hC dL_rows_36 (by decide) ?_
  refine am_iconst (v := nI 0) hC dL_rows_37 (by decide) ?_
  refine am_iload_n hC dL_rows_38 rfl ?_
  refine am_iload_n hC dL_rows_39 rfl ?_
  refine am_bipush (v := nI 35) hC dL_rows_40 (by decide) ?_
  refine am_icmp_ge (tgt := 60) hC dL_rows_42 (by decide) (fun c_42 => absurd c_42 (by decide)) (fun c_42 => ?_)
  refine am_iload_n hC dL_rows_45 rfl ?_
  refine am_iconst (v := nI 5) hC dL_rows_46 (by decide) ?_
  refine am_iremE (z := nI (32 % 5)) hC dL_rows_47 (by decide) (pk_rem (by omega) (by omega) (by omega)) ?_
  refine am_iload_n hC dL_rows_48 rfl ?_
  refine am_iconst (v := nI 5) hC dL_rows_49 (by decide) ?_
  refine am_idivE (z := nI (32 / 5)) hC dL_rows_50 (by decide) (pk_div (by omega) (by omega) (by omega)) ?_
  refine am_iconst (v := nI 4) hC dL_rows_51 (by decide) ?_
  refine am_isubE (z := nI (32 / 5 - 4)) hC dL_rows_52 (pk_sub (by omega)) ?_
  refine am_icmp_ne (tgt := 60) hC dL_rows_53 (by decide) (fun c_53 => absurd (by decide) c_53) (fun c_53 => ?_)
  refine am_iconst (v := nI 2) hC dL_rows_56 (by decide) ?_
  refine am_goto (tgt := 61) hC dL_rows_57 (by decide) ?_
  refine am_callV hC (ci := 6) (N := 4) [.int (nI 0), .int (nI 0), .int (nI 32), .int (nI 2)] rfl (SZ_3 hS) rfl mf_X5_tell tw_272 (d_tell _ _ (am_tr hC) h hS _ _ _ _) rfl ⟨rfl, Nat.le_of_ble_eq_true rfl⟩ ⟨by decide, by decide⟩ (by decide) (by decide) dL_rows_61 rfl (fun _ _ q _ => (XN_0 q.2 (by decide +kernel)).elim) (fun v h hp hlc => ?_)
  obtain ⟨rfl, hS⟩ := z_go (x' := (-1)) (σ' := qs_40) (by decide +kernel) (z_sx (by decide +kernel)) hp
  refine am_iconst (v := -1) hC dL_rows_64 (by decide) ?_
  refine am_icmp_eq (tgt := 70) hC dL_rows_65 (by decide) (fun c_65 => ?_) (fun c_65 => absurd (by decide) c_65)
  refine am_iinc (v := nI 33) hC dL_rows_70 rfl (by decide) (by decide) ?_
  change am_W _ _ _ _ [.ref (3), .int (nI 33)] _ _
  refine am_goto (tgt := 29) hC dL_rows_73 (by decide) ?_
  refine am_iload_n hC dL_rows_29 rfl ?_
  refine am_bipush (v := nI 40) hC dL_rows_30 (by decide) ?_
  refine am_icmp_ge (tgt := 76) hC dL_rows_32 (by decide) (fun c_32 => absurd c_32 (by decide)) (fun c_32 => ?_)
  refine am_aload_n hC dL_rows_35 rfl ?_
  refine am_iconst (v := nI 0) hC dL_rows_36 (by decide) ?_
  refine am_iconst (v := nI 0) hC dL_rows_37 (by decide) ?_
  refine am_iload_n hC dL_rows_38 rfl ?_
  refine am_iload_n hC dL_rows_39 rfl ?_
  refine am_bipush (v := nI 35) hC dL_rows_40 (by decide) ?_
  refine am_icmp_ge (tgt := 60) hC dL_rows_42 (by decide) (fun c_42 => absurd c_42 (by decide)) (fun c_42 => ?_)
  refine am_iload_n hC dL_rows_45 rfl ?_
  refine am_iconst (v := nI 5) hC dL_rows_46 (by decide) ?_
  refine am_iremE (z := nI (33 % 5)) hC dL_rows_47 (by decide) (pk_rem (by omega) (by omega) (by omega)) ?_
  refine am_iload_n hC dL_rows_48 rfl ?_
  refine am_iconst (v := nI 5) hC dL_rows_49 (by decide) ?_
  refine am_idivE (z := nI (33 / 5)) hC dL_rows_50 (by decide) (pk_div (by omega) (by omega) (by omega)) ?_
  refine am_iconst (v := nI 4) hC dL_rows_51 (by decide) ?_
  refine am_isubE (z := nI (33 / 5 - 4)) hC dL_rows_52 (pk_sub (by omega)) ?_
  refine am_icmp_ne (tgt := 60) hC dL_rows_53 (by decide) (fun c_53 => ?_) (fun c_53 => absurd c_53 (by decide))
  refine am_iconst (v := nI 1) hC dL_rows_60 (by decide) ?_
  refine am_callV hC (ci := 6) (N := 4) [.int (nI 0), .int (nI 0), .int (nI 33), .int (nI 1)] rfl (SZ_3 hS) rfl mf_X5_tell tw_272 (d_tell _ _ (am_tr hC) h hS _ _ _ _) rfl ⟨rfl, Nat.le_of_ble_eq_true rfl⟩ ⟨by decide, by decide⟩ (by decide) (by decide) dL_rows_61 rfl (fun _ _ q _ => (XN_0 q.2 (by decide +kernel)).elim) (fun v h hp hlc => ?_)
  obtain ⟨rfl, hS⟩ := z_go (x' := (-1)) (σ' := qs_41) (by decide +kernel) (z_sx (by decide +kernel)) hp
  refine am_iconst (v := -1) hC dL_rows_64 (by decide) ?_
  refine am_icmp_eq (tgt := 70) hC dL_rows_65 (by decide) (fun c_65 => ?_) (fun c_65 => absurd (by decide) c_65)
  refine am_iinc (v := nI 34) hC dL_rows_70 rfl (by decide) (by decide) ?_
  change am_W _ _ _ _ [.ref (3), .int (nI 34)] _ _
  refine am_goto (tgt := 29) hC dL_rows_73 (by decide) ?_
  refine am_iload_n hC dL_rows_29 rfl ?_
  refine am_bipush (v := nI 40) hC dL_rows_30 (by decide) ?_
  refine am_icmp_ge (tgt := 76) hC dL_rows_32 (by decide) (fun c_32 => absurd c_32 (by decide)) (fun c_32 => ?_)
  refine am_aload_n hC dL_rows_35 rfl ?_
  refine am_iconst (v := nI 0) hC dL_rows_36 (by decide) ?_
  refine am_iconst (v := nI 0) hC dL_rows_37 (by decide) ?_
  refine am_iload_n hC dL_rows_38 rfl ?_
  refine am_iload_n hC dL_rows_39 rfl ?_
  refine am_bipush (v := nI 35) hC dL_rows_40 (by decide) ?_
  refine am_icmp_ge (tgt := 60) hC dL_rows_42 (by decide) (fun c_42 => absurd c_42 (by decide)) (fun c_42 => ?_)
  refine am_iload_n hC dL_rows_45 rfl ?_
  refine am_iconst (v := nI 5) hC dL_rows_46 (by decide) ?_
  refine am_iremE (z := nI (34 % 5)) hC dL_rows_47 (by decide) (pk_rem (by omega) (by omega) (by omega)) ?_
  refine am_iload_n hC dL_rows_48 rfl ?_
  refine am_iconst (v := nI 5) hC dL_rows_49 (by decide) ?_
  refine am_idivE (z := nI (34 / 5)) hC dL_rows_50 (by decide) (pk_div (by omega) (by omega) (by omega)) ?_
  refine am_iconst (v := nI 4) hC dL_rows_51 (by decide) ?_
  refine am_isubE (z := nI (34 / 5 - 4)) hC dL_rows_52 (pk_sub (by omega)) ?_
  refine am_icmp_ne (tgt := 60) hC dL_rows_53 (by decide) (fun c_53 => ?_) (fun c_53 => absurd c_53 (by decide))
  refine am_iconst (v := nI 1) hC dL_rows_60 (by decide) ?_
  refine am_callV hC (ci := 6) (N := 4) [.int (nI 0), .int (nI 0), .int (nI 34), .int (nI 1)] rfl (SZ_3 hS) rfl mf_X5_tell tw_272 (d_tell _ _ (am_tr hC) h hS _ _ _ _) rfl ⟨rfl, Nat.le_of_ble_eq_true rfl⟩ ⟨by decide, by decide⟩ (by decide) (by decide) dL_rows_61 rfl (fun _ _ q _ => (XN_0 q.2 (by decide +kernel)).elim) (fun v h hp hlc => ?_)
  obtain ⟨rfl, hS⟩ := z_go (x' := (-1)) (σ' := qs_42) (by decide +kernel) (z_sx (by decide +kernel)) hp
  refine am_iconst (v := -1) hC dL_rows_64 (by decide) ?_
  refine am_icmp_eq (tgt := 70) hC dL_rows_65 (by decide) (fun c_65 => ?_) (fun c_65 => absurd (by decide) c_65)
  refine am_iinc (v := nI 35) hC dL_rows_70 rfl (by decide) (by decide) ?_
  change am_W _ _ _ _ [.ref (3), .int (nI 35)] _ _
  refine am_goto (tgt := 29) hC dL_rows_73 (by decide) ?_
  refine am_iload_n hC dL_rows_29 rfl ?_
  refine am_bipush (v := nI 40) hC dL_rows_30 (by decide) ?_
  refine am_icmp_ge (tgt := 76) hC dL_rows_32 (by decide) (fun c_32 => absurd c_32 (by decide)) (fun c_32 => ?_)
  refine am_aload_n hC dL_rows_35 rfl ?_
  refine am_iconst (v := nI 0) hC dL_rows_36 (by decide) ?_
  refine am_iconst (v := nI 0) hC dL_rows_37 (by decide) ?_
  refine am_iload_n hC dL_rows_38 rfl ?_
  refine am_iload_n hC dL_rows_39 rfl ?_
  refine am_bipush (v := nI 35) hC dL_rows_40 (by decide) ?_
  refine am_icmp_ge (tgt := 60) hC dL_rows_42 (by decide) (fun c_42 => ?_) (fun c_42 => absurd (by decide) c_42)
  refine am_iconst (v := nI 1) hC dL_rows_60 (by decide) ?_
  refine am_callV hC (ci := 6) (N := 4) [.int (nI 0), .int (nI 0), .int (nI 35), .int (nI 1)] rfl (SZ_3 hS) rfl mf_X5_tell tw_272 (d_tell _ _ (am_tr hC) h hS _ _ _ _) rfl ⟨rfl, Nat.le_of_ble_eq_true rfl⟩ ⟨by decide, by decide⟩ (by decide) (by decide) dL_rows_61 rfl (fun _ _ q _ => (XN_0 q.2 (by decide +kernel)).elim) (fun v h hp hlc => ?_)
  obtain ⟨rfl, hS⟩ := z_go (x' := (-1)) (σ' := qs_43) (by decide +kernel) (z_sx (by decide +kernel)) hp
  refine am_iconst (v := -1) hC dL_rows_64 (by decide) ?_
  refine am_icmp_eq (tgt := 70) hC dL_rows_65 (by decide) (fun c_65 => ?_) (fun c_65 => absurd (by decide) c_65)
  refine am_iinc (v := nI 36) hC dL_rows_70 rfl (by decide) (by decide) ?_
  change am_W _ _ _ _ [.ref (3), .int (nI 36)] _ _
  refine am_goto (tgt := 29) hC dL_rows_73 (by decide) ?_
  refine am_iload_n hC dL_rows_29 rfl ?_
  refine am_bipush (v := nI 40) hC dL_rows_30 (by decide) ?_
  refine am_icmp_ge (tgt := 76) hC dL_rows_32 (by decide) (fun c_32 => absurd c_32 (by decide)) (fun c_32 => ?_)
  refine am_aload_n hC dL_rows_35 rfl ?_
  refine am_iconst (v := nI 0) hC dL_rows_36 (by decide) ?_
  refine am_iconst (v := nI 0) hC dL_rows_37 (by decide) ?_
  refine am_iload_n hC dL_rows_38 rfl ?_
  refine am_iload_n hC dL_rows_39 rfl ?_
  refine am_bipush (v := nI 35) hC dL_rows_40 (by decide) ?_
  refine am_icmp_ge (tgt := 60) hC dL_rows_42 (by decide) (fun c_42 => ?_) (fun c_42 => absurd (by decide) c_42)
  refine am_iconst (v := nI 1) hC dL_rows_60 (by decide) ?_
  refine am_callV hC (ci := 6) (N := 4) [.int (nI 0), .int (nI 0), .int (nI 36), .int (nI 1)] rfl (SZ_3 hS) rfl mf_X5_tell tw_272 (d_tell _ _ (am_tr hC) h hS _ _ _ _) rfl ⟨rfl, Nat.le_of_ble_eq_true rfl⟩ ⟨by decide, by decide⟩ (by decide) (by decide) dL_rows_61 rfl (fun _ _ q _ => (XN_0 q.2 (by decide +kernel)).elim) (fun v h hp hlc => ?_)
  obtain ⟨rfl, hS⟩ := z_go (x' := (-1)) (σ' := qs_44) (by decide +kernel) (z_sx (by decide +kernel)) hp
  refine am_iconst (v := -1) hC dL_rows_64 (by decide) ?_
  refine am_icmp_eq (tgt := 70) hC dL_rows_65 (by decide) (fun c_65 => ?_) (fun c_65 => absurd (by decide) c_65)
  refine am_iinc (v := nI 37) hC dL_rows_70 rfl (by decide) (by decide) ?_
  change am_W _ _ _ _ [.ref (3), .int (nI 37)] _ _
  refine am_goto (tgt := 29) hC dL_rows_73 (by decide) ?_
  refine am_iload_n hC dL_rows_29 rfl ?_
  refine am_bipush (v := nI 40) hC dL_rows_30 (by decide) ?_
  refine am_icmp_ge (tgt := 76) hC dL_rows_32 (by decide) (fun c_32 => absurd c_32 (by decide)) (fun c_32 => ?_)
  refine am_aload_n hC dL_rows_35 rfl ?_
  refine am_iconst (v := nI 0) hC dL_rows_36 (by decide) ?_
  refine am_iconst (v := nI 0) hC dL_rows_37 (by decide) ?_
  refine am_iload_n hC dL_rows_38 rfl ?_
  refine am_iload_n hC dL_rows_39 rfl ?_
  refine am_bipush (v := nI 35) hC dL_rows_40 (by decide) ?_
  refine am_icmp_ge (tgt := 60) hC dL_rows_42 (by decide) (fun c_42 => ?_) (fun c_42 => absurd (by decide) c_42)
  refine am_iconst (v := nI 1) hC dL_rows_60 (by decide) ?_
  refine am_callV hC (ci := 6) (N := 4) [.int (nI 0), .int (nI 0), .int (nI 37), .int (nI 1)] rfl (SZ_3 hS) rfl mf_X5_tell tw_272 (d_tell _ _ (am_tr hC) h hS _ _ _ _) rfl ⟨rfl, Nat.le_of_ble_eq_true rfl⟩ ⟨by decide, by decide⟩ (by decide) (by decide) dL_rows_61 rfl (fun _ _ q _ => (XN_0 q.2 (by decide +kernel)).elim) (fun v h hp hlc => ?_)
  obtain ⟨rfl, hS⟩ := z_go (x' := (-1)) (σ' := qs_45) (by decide +kernel) (z_sx (by decide +kernel)) hp
  refine am_iconst (v := -1) hC dL_rows_64 (by decide) ?_
  refine am_icmp_eq (tgt := 70) hC dL_rows_65 (by decide) (fun c_65 => ?_) (fun c_65 => absurd (by decide) c_65)
  exact am_more (kc' := 173) (ks' := 1373) (by decide) (by decide) (rows_3 hC hR h hS)
set_option maxRecDepth 100000 in
set_option maxHeartbeats 4000000 in
theorem rows_1 {Z : am_Z} (hC : am_OK Z "HousePlansLaw" cL_rows 2 16 2705 40165) (hR : am_Rt Z (some .boolean) [] z_one am_no 2705 40165) (h : am_H) (hS : SZ h z_00) : am_W Z 11 159 8 [.ref (3), .null] [] h := by
  refine am_aload_n hC dL_rows_8 rfl ?_
  refine am_callV hC (ci := 6) (N := 4) [] rfl (SZ_3 hS) rfl mf_X5_begin tw_107 (d_begin _ _ (am_tr hC) h hS ) rfl ⟨rfl, Nat.le_of_ble_eq_true rfl⟩ ⟨by decide, by decide⟩ (by decide) (by decide) dL_rows_9 rfl (fun _ _ q _ => (XN_0 q.2 (by decide +kernel)).elim) (fun v h hp hlc => ?_)
  obtain ⟨rfl, hS⟩ := z_go (x' := nI 0) (σ' := qs_0) (by decide +kernel) (z_sx (by decide +kernel)) hp
  refine am_if_ne (tgt := 24) hC dL_rows_12 (by decide) (fun c_12 => absurd (by decide) c_12) (fun c_12 => ?_)
  refine am_aload_n hC dL_rows_15 rfl ?_
  refine am_iconst (v := nI 0) hC dL_rows_16 (by decide) ?_
  refine am_iconst (v := nI 0) hC dL_rows_17 (by decide) ?_
  refine am_callSX hC [.ref (3), .int (nI 0), .int (nI 0)] mf_L_lock tw_436 (c_lock _ _ (am_tr hC) h hS _ _) rfl ⟨rfl, Nat.le_of_ble_eq_true rfl⟩ ⟨by decide, by decide⟩ (by decide) (by decide) dL_rows_18 rfl (fun _ _ q _ => False.elim q) (fun v h hp hlc => ?_)
  obtain ⟨rfl, hS⟩ := z_goa (x' := nI 0) (σ' := qs_27) (by decide +kernel) (z_sx (by decide +kernel)) hp
  refine am_if_eq (tgt := 26) hC dL_rows_21 (by decide) (fun c_21 => ?_) (fun c_21 => absurd (by decide) c_21)
  refine am_bipush (v := nI 20) hC dL_rows_26 (by decide) ?_
  refine am_istore_n hC dL_rows_28 (by decide) ?_
  change am_W _ _ _ _ [.ref (3), .int (nI 20)] _ _
  refine am_iload_n hC dL_rows_29 rfl ?_
  refine am_bipush (v := nI 40) hC dL_rows_30 (by decide) ?_
  refine am_icmp_ge (tgt := 76) hC dL_rows_32 (by decide) (fun c_32 => absurd c_32 (by decide)) (fun c_32 => ?_)
  refine am_aload_n hC dL_rows_35 rfl ?_
  refine am_iconst (v := nI 0) hC dL_rows_36 (by decide) ?_
  refine am_iconst (v := nI 0) hC dL_rows_37 (by decide) ?_
  refine am_iload_n hC dL_rows_38 rfl ?_
  refine am_iload_n hC dL_rows_39 rfl ?_
  refine am_bipush (v := nI 35) hC dL_rows_40 (by decide) ?_
  refine am_icmp_ge (tgt := 60) hC dL_rows_42 (by decide) (fun c_42 => absurd c_42 (by decide)) (fun c_42 => ?_)
  refine am_iload_n hC dL_rows_45 rfl ?_
  refine am_iconst (v := nI 5) hC dL_rows_46 (by decide) ?_
  refine am_iremE (z := nI (20 % 5)) hC dL_rows_47 (by decide) (pk_rem (by omega) (by omega) (by omega)) ?_
  refine am_iload_n hC dL_rows_48 rfl ?_
  refine am_iconst (v := nI 5) hC dL_rows_49 (by decide) ?_
  refine am_idivE (z := nI (20 / 5)) hC dL_rows_50 (by decide) (pk_div (by omega) (by omega) (by omega)) ?_
  refine am_iconst (v := nI 4) hC dL_rows_51 (by decide) ?_
  refine am_isubE (z := nI (20 / 5 - 4)) hC dL_rows_52 (pk_sub (by omega)) ?_
  refine am_icmp_ne (tgt := 60) hC dL_rows_53 (by decide) (fun c_53 => absurd (by decide) c_53) (fun c_53 => ?_)
  refine am_iconst (v := nI 2) hC dL_rows_56 (by decide) ?_
  refine am_goto (tgt := 61) hC dL_rows_57 (by decide) ?_
  refine am_callV hC (ci := 6) (N := 4) [.int (nI 0), .int (nI 0), .int (nI 20), .int (nI 2)] rfl (SZ_3 hS) rfl mf_X5_tell tw_272 (d_tell _ _ (am_tr hC) h hS _ _ _ _) rfl ⟨rfl, Nat.le_of_ble_eq_true rfl⟩ ⟨by decide, by decide⟩ (by decide) (by decide) dL_rows_61 rfl (fun _ _ q _ => (XN_0 q.2 (by decide +kernel)).elim) (fun v h hp hlc => ?_)
  obtain ⟨rfl, hS⟩ := z_go (x' := (-1)) (σ' := qs_28) (by decide +kernel) (z_sx (by decide +kernel)) hp
  refine am_iconst (v := -1) hC dL_rows_64 (by decide) ?_
  refine am_icmp_eq (tgt := 70) hC dL_rows_65 (by decide) (fun c_65 => ?_) (fun c_65 => absurd (by decide) c_65)
  refine am_iinc (v := nI 21) hC dL_rows_70 rfl (by decide) (by decide) ?_
  change am_W _ _ _ _ [.ref (3), .int (nI 21)] _ _
  refine am_goto (tgt := 29) hC dL_rows_73 (by decide) ?_
  refine am_iload_n hC dL_rows_29 rfl ?_
  refine am_bipush (v := nI 40) hC dL_rows_30 (by decide) ?_
  refine am_icmp_ge (tgt := 76) hC dL_rows_32 (by decide) (fun c_32 => absurd c_32 (by decide)) (fun c_32 => ?_)
  refine am_aload_n hC dL_rows_35 rfl ?_
  refine am_iconst (v := nI 0) hC dL_rows_36 (by decide) ?_
  refine am_iconst (v := nI 0) hC dL_rows_37 (by decide) ?_
  refine am_iload_n hC dL_rows_38 rfl ?_
  refine am_iload_n hC dL_rows_39 rfl ?_
  refine am_bipush (v := nI 35) hC dL_rows_40 (by decide) ?_
  refine am_icmp_ge (tgt := 60) hC dL_rows_42 (by decide) (fun c_42 => absurd c_42 (by decide)) (fun c_42 => ?_)
  refine am_iload_n hC dL_rows_45 rfl ?_
  refine am_iconst (v := nI 5) hC dL_rows_46 (by decide) ?_
  refine am_iremE (z := nI (21 % 5)) hC dL_rows_47 (by decide) (pk_rem (by omega) (by omega) (by omega)) ?_
  refine am_iload_n hC dL_rows_48 rfl ?_
  refine am_iconst (v := nI 5) hC dL_rows_49 (by decide) ?_
  refine am_idivE (z := nI (21 / 5)) hC dL_rows_50 (by decide) (pk_div (by omega) (by omega) (by omega)) ?_
  refine am_iconst (v := nI 4) hC dL_rows_51 (by decide) ?_
  refine am_isubE (z := nI (21 / 5 - 4)) hC dL_rows_52 (pk_sub (by omega)) ?_
  refine am_icmp_ne (tgt := 60) hC dL_rows_53 (by decide) (fun c_53 => ?_) (fun c_53 => absurd c_53 (by decide))
  refine am_iconst (v := nI 1) hC dL_rows_60 (by decide) ?_
  refine am_callV hC (ci := 6) (N := 4) [.int (nI 0), .int (nI 0), .int (nI 21), .int (nI 1)] rfl (SZ_3 hS) rfl mf_X5_tell tw_272 (d_tell _ _ (am_tr hC) h hS _ _ _ _) rfl ⟨rfl, Nat.le_of_ble_eq_true rfl⟩ ⟨by decide, by decide⟩ (by decide) (by decide) dL_rows_61 rfl (fun _ _ q _ => (XN_0 q.2 (by decide +kernel)).elim) (fun v h hp hlc => ?_)
  obtain ⟨rfl, hS⟩ := z_go (x' := (-1)) (σ' := qs_29) (by decide +kernel) (z_sx (by decide +kernel)) hp
  refine am_iconst (v := -1) hC dL_rows_64 (by decide) ?_
  refine am_icmp_eq (tgt := 70) hC dL_rows_65 (by decide) (fun c_65 => ?_) (fun c_65 => absurd (by decide) c_65)
  refine am_iinc (v := nI 22) hC dL_rows_70 rfl (by decide) (by decide) ?_
  change am_W _ _ _ _ [.ref (3), .int (nI 22)] _ _
  refine am_goto (tgt := 29) hC dL_rows_73 (by decide) ?_
  refine am_iload_n hC dL_rows_29 rfl ?_
  refine am_bipush (v := nI 40) hC dL_rows_30 (by decide) ?_
  refine am_icmp_ge (tgt := 76) hC dL_rows_32 (by decide) (fun c_32 => absurd c_32 (by decide)) (fun c_32 => ?_)
  refine am_aload_n hC dL_rows_35 rfl ?_
  refine am_iconst (v := nI 0) hC dL_rows_36 (by decide) ?_
  refine am_iconst (v := nI 0) hC dL_rows_37 (by decide) ?_
  refine am_iload_n hC dL_rows_38 rfl ?_
  refine am_iload_n hC dL_rows_39 rfl ?_
  refine am_bipush (v := nI 35) hC dL_rows_40 (by decide) ?_
  refine am_icmp_ge (tgt := 60) hC dL_rows_42 (by decide) (fun c_42 => absurd c_42 (by decide)) (fun c_42 => ?_)
  refine am_iload_n hC dL_rows_45 rfl ?_
  refine am_iconst (v := nI 5) hC dL_rows_46 (by decide) ?_
  refine am_iremE (z := nI (22 % 5)) hC dL_rows_47 (by decide) (pk_rem (by omega) (by omega) (by omega)) ?_
  refine am_iload_n hC dL_rows_48 rfl ?_
  refine am_iconst (v := nI 5) hC dL_rows_49 (by decide) ?_
  refine am_idivE (z := nI (22 / 5)) hC dL_rows_50 (by decide) (pk_div (by omega) (by omega) (by omega)) ?_
  refine am_iconst (v := nI 4) hC dL_rows_51 (by decide) ?_
  refine am_isubE (z := nI (22 / 5 - 4)) hC dL_rows_52 (pk_sub (by omega)) ?_
  refine am_icmp_ne (tgt := 60) hC dL_rows_53 (by decide) (fun c_53 => ?_) (fun c_53 => absurd c_53 (by decide))
  refine am_iconst (v := nI 1) hC dL_rows_60 (by decide) ?_
  refine am_callV hC (ci := 6) (N := 4) [.int (nI 0), .int (nI 0), .int (nI 22), .int (nI 1)] rfl (SZ_3 hS) rfl mf_X5_tell tw_272 (d_tell _ _ (am_tr hC) h hS _ _ _ _) rfl ⟨rfl, Nat.le_of_ble_eq_true rfl⟩ ⟨by decide, by decide⟩ (by decide) (by decide) dL_rows_61 rfl (fun _ _ q _ => (XN_0 q.2 (by decide +kernel)).elim) (fun v h hp hlc => ?_)
  obtain ⟨rfl, hS⟩ := z_go (x' := (-1)) (σ' := qs_30) (by decide +kernel) (z_sx (by decide +kernel)) hp
  refine am_iconst (v := -1) hC dL_rows_64 (by decide) ?_
  refine am_icmp_eq (tgt := 70) hC dL_rows_65 (by decide) (fun c_65 => ?_) (fun c_65 => absurd (by decide) c_65)
  refine am_iinc (v := nI 23) hC dL_rows_70 rfl (by decide) (by decide) ?_
  change am_W _ _ _ _ [.ref (3), .int (nI 23)] _ _
  refine am_goto (tgt := 29) hC dL_rows_73 (by decide) ?_
  refine am_iload_n hC dL_rows_29 rfl ?_
  refine am_bipush (v := nI 40) hC dL_rows_30 (by decide) ?_
  refine am_icmp_ge (tgt := 76) hC dL_rows_32 (by decide) (fun c_32 => absurd c_32 (by decide)) (fun c_32 => ?_)
  refine am_aload_n hC dL_rows_35 rfl ?_
  refine am_iconst (v := nI 0) hC dL_rows_36 (by decide) ?_
  refine am_iconst (v := nI 0) hC dL_rows_37 (by decide) ?_
  refine am_iload_n hC dL_rows_38 rfl ?_
  refine am_iload_n hC dL_rows_39 rfl ?_
  refine am_bipush (v := nI 35) hC dL_rows_40 (by decide) ?_
  refine am_icmp_ge (tgt := 60) hC dL_rows_42 (by decide) (fun c_42 => absurd c_42 (by decide)) (fun c_42 => ?_)
  refine am_iload_n hC dL_rows_45 rfl ?_
  refine am_iconst (v := nI 5) hC dL_rows_46 (by decide) ?_
  refine am_iremE (z := nI (23 % 5)) hC dL_rows_47 (by decide) (pk_rem (by omega) (by omega) (by omega)) ?_
  refine am_iload_n hC dL_rows_48 rfl ?_
  refine am_iconst (v := nI 5) hC dL_rows_49 (by decide) ?_
  refine am_idivE (z := nI (23 / 5)) hC dL_rows_50 (by decide) (pk_div (by omega) (by omega) (by omega)) ?_
  refine am_iconst (v := nI 4) hC dL_rows_51 (by decide) ?_
  refine am_isubE (z := nI (23 / 5 - 4)) hC dL_rows_52 (pk_sub (by omega)) ?_
  refine am_icmp_ne (tgt := 60) hC dL_rows_53 (by decide) (fun c_53 => ?_) (fun c_53 => absurd c_53 (by decide))
  refine am_iconst (v := nI 1) hC dL_rows_60 (by decide) ?_
  refine am_callV hC (ci := 6) (N := 4) [.int (nI 0), .int (nI 0), .int (nI 23), .int (nI 1)] rfl (SZ_3 hS) rfl mf_X5_tell tw_272 (d_tell _ _ (am_tr hC) h hS _ _ _ _) rfl ⟨rfl, Nat.le_of_ble_eq_true rfl⟩ ⟨by decide, by decide⟩ (by decide) (by decide) dL_rows_61 rfl (fun _ _ q _ => (XN_0 q.2 (by decide +kernel)).elim) (fun v h hp hlc => ?_)
  obtain ⟨rfl, hS⟩ := z_go (x' := (-1)) (σ' := qs_31) (by decide +kernel) (z_sx (by decide +kernel)) hp
  refine am_iconst (v := -1) hC dL_rows_64 (by decide) ?_
  refine am_icmp_eq (tgt := 70) hC dL_rows_65 (by decide) (fun c_65 => ?_) (fun c_65 => absurd (by decide) c_65)
  refine am_iinc (v := nI 24) hC dL_rows_70 rfl (by decide) (by decide) ?_
  change am_W _ _ _ _ [.ref (3), .int (nI 24)] _ _
  refine am_goto (tgt := 29) hC dL_rows_73 (by decide) ?_
  refine am_iload_n hC dL_rows_29 rfl ?_
  refine am_bipush (v := nI 40) hC dL_rows_30 (by decide) ?_
  refine am_icmp_ge (tgt := 76) hC dL_rows_32 (by decide) (fun c_32 => absurd c_32 (by decide)) (fun c_32 => ?_)
  refine am_aload_n hC dL_rows_35 rfl ?_
  refine am_iconst (v := nI 0) hC dL_rows_36 (by decide) ?_
  refine am_iconst (v := nI 0) hC dL_rows_37 (by decide) ?_
  refine am_iload_n hC dL_rows_38 rfl ?_
  refine am_iload_n hC dL_rows_39 rfl ?_
  refine am_bipush (v := nI 35) hC dL_rows_40 (by decide) ?_
  refine am_icmp_ge (tgt := 60) hC dL_rows_42 (by decide) (fun c_42 => absurd c_42 (by decide)) (fun c_42 => ?_)
  refine am_iload_n hC dL_rows_45 rfl ?_
  refine am_iconst (v := nI 5) hC dL_rows_46 (by decide) ?_
  refine am_iremE (z := nI (24 % 5)) hC dL_rows_47 (by decide) (pk_rem (by omega) (by omega) (by omega)) ?_
  refine am_iload_n hC dL_rows_48 rfl ?_
  refine am_iconst (v := nI 5) hC dL_rows_49 (by decide) ?_
  refine am_idivE (z := nI (24 / 5)) hC dL_rows_50 (by decide) (pk_div (by omega) (by omega) (by omega)) ?_
  refine am_iconst (v := nI 4) hC dL_rows_51 (by decide) ?_
  refine am_isubE (z := nI (24 / 5 - 4)) hC dL_rows_52 (pk_sub (by omega)) ?_
  refine am_icmp_ne (tgt := 60) hC dL_rows_53 (by decide) (fun c_53 => ?_) (fun c_53 => absurd c_53 (by decide))
  refine am_iconst (v := nI 1) hC dL_rows_60 (by decide) ?_
  refine am_callV hC (ci := 6) (N := 4) [.int (nI 0), .int (nI 0), .int (nI 24), .int (nI 1)] rfl (SZ_3 hS) rfl mf_X5_tell tw_272 (d_tell _ _ (am_tr hC) h hS _ _ _ _) rfl ⟨rfl, Nat.le_of_ble_eq_true rfl⟩ ⟨by decide, by decide⟩ (by decide) (by decide) dL_rows_61 rfl (fun _ _ q _ => (XN_0 q.2 (by decide +kernel)).elim) (fun v h hp hlc => ?_)
  obtain ⟨rfl, hS⟩ := z_go (x' := (-1)) (σ' := qs_32) (by decide +kernel) (z_sx (by decide +kernel)) hp
  refine am_iconst (v := -1) hC dL_rows_64 (by decide) ?_
  refine am_icmp_eq (tgt := 70) hC dL_rows_65 (by decide) (fun c_65 => ?_) (fun c_65 => absurd (by decide) c_65)
  refine am_iinc (v := nI 25) hC dL_rows_70 rfl (by decide) (by decide) ?_
  change am_W _ _ _ _ [.ref (3), .int (nI 25)] _ _
  refine am_goto (tgt := 29) hC dL_rows_73 (by decide) ?_
  refine am_iload_n hC dL_rows_29 rfl ?_
  refine am_bipush (v := nI 40) hC dL_rows_30 (by decide) ?_
  refine am_icmp_ge (tgt := 76) hC dL_rows_32 (by decide) (fun c_32 => absurd c_32 (by decide)) (fun c_32 => ?_)
  refine am_aload_n hC dL_rows_35 rfl ?_
  refine am_iconst (v := nI 0) hC dL_rows_36 (by decide) ?_
  refine am_iconst (v := nI 0) hC dL_rows_37 (by decide) ?_
  refine am_iload_n hC dL_rows_38 rfl ?_
  refine am_iload_n hC dL_rows_39 rfl ?_
  refine am_bipush (v := nI 35) hC dL_rows_40 (by decide) ?_
  refine am_icmp_ge (tgt := 60) hC dL_rows_42 (by decide) (fun c_42 => absurd c_42 (by decide)) (fun c_42 => ?_)
  refine am_iload_n hC dL_rows_45 rfl ?_
  refine am_iconst (v := nI 5) hC dL_rows_46 (by decide) ?_
  refine am_iremE (z := nI (25 % 5)) hC dL_rows_47 (by decide) (pk_rem (by omega) (by omega) (by omega)) ?_
  refine am_iload_n hC dL_rows_48 rfl ?_
  refine am_iconst (v := nI 5) hC dL_rows_49 (by decide) ?_
  refine am_idivE (z := nI (25 / 5)) hC dL_rows_50 (by decide) (pk_div (by omega) (by omega) (by omega)) ?_
  refine am_iconst (v := nI 4) hC dL_rows_51 (by decide) ?_
  refine am_isubE (z := nI (25 / 5 - 4)) hC dL_rows_52 (pk_sub (by omega)) ?_
  refine am_icmp_ne (tgt := 60) hC dL_rows_53 (by decide) (fun c_53 => ?_) (fun c_53 => absurd c_53 (by decide))
  refine am_iconst (v := nI 1) hC dL_rows_60 (by decide) ?_
  refine am_callV hC (ci := 6) (N := 4) [.int (nI 0), .int (nI 0), .int (nI 25), .int (nI 1)] rfl (SZ_3 hS) rfl mf_X5_tell tw_272 (d_tell _ _ (am_tr hC) h hS _ _ _ _) rfl ⟨rfl, Nat.le_of_ble_eq_true rfl⟩ ⟨by decide, by decide⟩ (by decide) (by decide) dL_rows_61 rfl (fun _ _ q _ => (XN_0 q.2 (by decide +kernel)).elim) (fun v h hp hlc => ?_)
  obtain ⟨rfl, hS⟩ := z_go (x' := (-1)) (σ' := qs_33) (by decide +kernel) (z_sx (by decide +kernel)) hp
  refine am_iconst (v := -1) hC dL_rows_64 (by decide) ?_
  refine am_icmp_eq (tgt := 70) hC dL_rows_65 (by decide) (fun c_65 => ?_) (fun c_65 => absurd (by decide) c_65)
  refine am_iinc (v := nI 26) hC dL_rows_70 rfl (by decide) (by decide) ?_
  change am_W _ _ _ _ [.ref (3), .int (nI 26)] _ _
  refine am_goto (tgt := 29) hC dL_rows_73 (by decide) ?_
  refine am_iload_n hC dL_rows_29 rfl ?_
  refine am_bipush (v := nI 40) hC dL_rows_30 (by decide) ?_
  refine am_icmp_ge (tgt := 76) hC dL_rows_32 (by decide) (fun c_32 => absurd c_32 (by decide)) (fun c_32 => ?_)
  refine am_aload_n hC dL_rows_35 rfl ?_
  refine am_iconst (v := nI 0) hC dL_rows_36 (by decide) ?_
  refine am_iconst (v := nI 0) hC dL_rows_37 (by decide) ?_
  refine am_iload_n hC dL_rows_38 rfl ?_
  refine am_iload_n hC dL_rows_39 rfl ?_
  refine am_bipush (v := nI 35) hC dL_rows_40 (by decide) ?_
  refine am_icmp_ge (tgt := 60) hC dL_rows_42 (by decide) (fun c_42 => absurd c_42 (by decide)) (fun c_42 => ?_)
  refine am_iload_n hC dL_rows_45 rfl ?_
  refine am_iconst (v := nI 5) hC dL_rows_46 (by decide) ?_
  refine am_iremE (z := nI (26 % 5)) hC dL_rows_47 (by decide) (pk_rem (by omega) (by omega) (by omega)) ?_
  refine am_iload_n hC dL_rows_48 rfl ?_
  refine am_iconst (v := nI 5) hC dL_rows_49 (by decide) ?_
  refine am_idivE (z := nI (26 / 5)) hC dL_rows_50 (by decide) (pk_div (by omega) (by omega) (by omega)) ?_
  refine am_iconst (v := nI 4) hC dL_rows_51 (by decide) ?_
  refine am_isubE (z := nI (26 / 5 - 4)) hC dL_rows_52 (pk_sub (by omega)) ?_
  refine am_icmp_ne (tgt := 60) hC dL_rows_53 (by decide) (fun c_53 => absurd (by decide) c_53) (fun c_53 => ?_)
  refine am_iconst (v := nI 2) hC dL_rows_56 (by decide) ?_
  refine am_goto (tgt := 61) hC dL_rows_57 (by decide) ?_
  refine am_callV hC (ci := 6) (N := 4) [.int (nI 0), .int (nI 0), .int (nI 26), .int (nI 2)] rfl (SZ_3 hS) rfl mf_X5_tell tw_272 (d_tell _ _ (am_tr hC) h hS _ _ _ _) rfl ⟨rfl, Nat.le_of_ble_eq_true rfl⟩ ⟨by decide, by decide⟩ (by decide) (by decide) dL_rows_61 rfl (fun _ _ q _ => (XN_0 q.2 (by decide +kernel)).elim) (fun v h hp hlc => ?_)
  obtain ⟨rfl, hS⟩ := z_go (x' := (-1)) (σ' := qs_34) (by decide +kernel) (z_sx (by decide +kernel)) hp
  refine am_iconst (v := -1) hC dL_rows_64 (by decide) ?_
  refine am_icmp_eq (tgt := 70) hC dL_rows_65 (by decide) (fun c_65 => ?_) (fun c_65 => absurd (by decide) c_65)
  refine am_iinc (v := nI 27) hC dL_rows_70 rfl (by decide) (by decide) ?_
  change am_W _ _ _ _ [.ref (3), .int (nI 27)] _ _
  refine am_goto (tgt := 29) hC dL_rows_73 (by decide) ?_
  refine am_iload_n hC dL_rows_29 rfl ?_
  refine am_bipush (v := nI 40) hC dL_rows_30 (by decide) ?_
  refine am_icmp_ge (tgt := 76) hC dL_rows_32 (by decide) (fun c_32 => absurd c_32 (by decide)) (fun c_32 => ?_)
  refine am_aload_n hC dL_rows_35 rfl ?_
  refine am_iconst (v := nI 0) hC dL_rows_36 (by decide) ?_
  refine am_iconst (v := nI 0) hC dL_rows_37 (by decide) ?_
  refine am_iload_n hC dL_rows_38 rfl ?_
  refine am_iload_n hC dL_rows_39 rfl ?_
  refine am_bipush (v := nI 35) hC dL_rows_40 (by decide) ?_
  refine am_icmp_ge (tgt := 60) hC dL_rows_42 (by decide) (fun c_42 => absurd c_42 (by decide)) (fun c_42 => ?_)
  refine am_iload_n hC dL_rows_45 rfl ?_
  refine am_iconst (v := nI 5) hC dL_rows_46 (by decide) ?_
  refine am_iremE (z := nI (27 % 5)) hC dL_rows_47 (by decide) (pk_rem (by omega) (by omega) (by omega)) ?_
  refine am_iload_n hC dL_rows_48 rfl ?_
  refine am_iconst (v := nI 5) hC dL_rows_49 (by decide) ?_
  refine am_idivE (z := nI (27 / 5)) hC dL_rows_50 (by decide) (pk_div (by omega) (by omega) (by omega)) ?_
  refine am_iconst (v := nI 4) hC dL_rows_51 (by decide) ?_
  refine am_isubE (z := nI (27 / 5 - 4)) hC dL_rows_52 (pk_sub (by omega)) ?_
  refine am_icmp_ne (tgt := 60) hC dL_rows_53 (by decide) (fun c_53 => ?_) (fun c_53 => absurd c_53 (by decide))
  refine am_iconst (v := nI 1) hC dL_rows_60 (by decide) ?_
  refine am_callV hC (ci := 6) (N := 4) [.int (nI 0), .int (nI 0), .int (nI 27), .int (nI 1)] rfl (SZ_3 hS) rfl mf_X5_tell tw_272 (d_tell _ _ (am_tr hC) h hS _ _ _ _) rfl ⟨rfl, Nat.le_of_ble_eq_true rfl⟩ ⟨by decide, by decide⟩ (by decide) (by decide) dL_rows_61 rfl (fun _ _ q _ => (XN_0 q.2 (by decide +kernel)).elim) (fun v h hp hlc => ?_)
  obtain ⟨rfl, hS⟩ := z_go (x' := (-1)) (σ' := qs_35) (by decide +kernel) (z_sx (by decide +kernel)) hp
  refine am_iconst (v := -1) hC dL_rows_64 (by decide) ?_
  refine am_icmp_eq (tgt := 70) hC dL_rows_65 (by decide) (fun c_65 => ?_) (fun c_65 => absurd (by decide) c_65)
  exact am_more (kc' := 93) (ks' := 893) (by decide) (by decide) (rows_2 hC hR h hS)
set_option maxRecDepth 100000 in
set_option maxHeartbeats 4000000 in
theorem c_rows (G : am_G) (l : Launch) (htr : l.stackTraces = false) : am_Met G l yL_rows (.code yL_rows cL_rows 2 (some .boolean)) 16 2705 40165 [] h00 z_one am_no := by
  refine am_intro rfl htr rfl (Nat.le_of_ble_eq_true rfl) (fun Z hC hR hI => ?_)
  change am_W Z 0 0 0 [.null, .null] [] h00
  refine am_newO hC (ci := 6) (N := 4) 3 rfl (hk_00 (by decide) (by decide) (by decide)) (by decide) tw_22 tw_23 tw_1 (by decide) (by decide) dL_rows_0 ?_
  refine am_dup hC dL_rows_3 rfl ?_
  refine am_callI hC [] (by decide) mf_X5_init tw_24 (c_X5_init _ _ (am_tr hC) (am_new h00 3 7 0) rfl rfl (fun r h1 h2 => by rw [hk_new, if_neg (by omega)]; exact hk_00 (by omega) (by omega) (by omega)) (fun L c h1 h2 h3 => by rw [hk_new, if_neg (by unfold rw_; omega)]; exact hk_00 (by unfold rw_; omega) (by unfold rw_; omega) (by unfold rw_; omega))) rfl ⟨rfl, Nat.le_of_ble_eq_true rfl⟩ ⟨by decide, by decide⟩ (by decide) (by decide) dL_rows_4 rfl (fun _ _ q _ => False.elim q) (fun v h hp hlc => ?_)
  obtain ⟨rfl, f1, l4, l5, l6, e1⟩ := hp
  have hS : SZ h z_00 := SZ_0 f1 l4 l5 l6 (am_eq_tr (am_eq_new (by decide)) e1)
  clear f1 l4 l5 l6 e1
  refine am_astore_n hC dL_rows_7 (by decide) ?_
  change am_W _ _ _ _ [.ref (3), .null] _ _
  exact am_more (kc' := 11) (ks' := 159) (by decide) (by decide) (rows_1 hC hR h hS)
