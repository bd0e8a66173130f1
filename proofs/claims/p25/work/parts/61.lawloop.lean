/-! ===== the law's drawn part ===== -/
set_option maxRecDepth 100000 in
set_option maxHeartbeats 4000000 in
theorem law_it {Z : am_Z} (hC : am_OK Z "HousePlansLaw" cL_law 5 20 618172 7247108) {y k kc ks : Nat} (hy : y < 2 ^ 24) (hk : k < 30) (hb : kc + 1900 ≤ 618172 ∧ ks + 35000 ≤ 7247108) (cont : ∀ (h : am_H) (σ : z_Sg), SZ h σ → z_J σ → am_W Z (kc + 1900) (ks + 35000) 152 [.ref (41), .ref (3), .int (nI (k + 1)), .null, .null] [] h) (h : am_H) (σ : z_Sg) (hS : SZ h σ) (hJ : z_J σ) : am_W Z kc ks 179 [.ref (41), .ref (3), .int (nI k), .null, .null] [.int (nI y)] h := by
  have i0 : IX (z_n σ) (nI 0) = true := by rw [hJ.1]; decide
  have i40 : IX 40 (nI (y % 40)) = true := IX_y (by decide) (show y % 40 < 40 by omega) rfl
  have i25 : IX 25 (nI (y % 25)) = true := IX_y (by decide) (show y % 25 < 25 by omega) rfl
  have iw : IW (nI ((y / 40) % 4) - nI 1) = true := z_iw (by omega)
  refine am_istore_n hC dL_law_179 (by decide) ?_
  change am_W _ _ _ _ [.ref (41), .ref (3), .int (nI k), .int (nI y), .null] _ _
  refine am_aload_n hC dL_law_180 rfl ?_
  refine am_iconst (v := nI 0) hC dL_law_181 (by decide) ?_
  refine am_iload_n hC dL_law_182 rfl ?_
  refine am_bipush (v := nI 40) hC dL_law_183 (by decide) ?_
  refine am_iremE (z := nI (y % 40)) hC dL_law_185 (by decide) (pk_rem (by omega) (by omega) (by omega)) ?_
  refine am_callV hC (ci := 6) (N := 4) [.int (nI 0), .int (nI (y % 40))] rfl (SZ_3 hS) rfl mf_X5_side tw_350 (d_side _ _ (am_tr hC) h hS _ _) rfl ⟨rfl, Nat.le_of_ble_eq_true rfl⟩ ⟨by decide, by decide⟩ (by omega) (by omega) dL_law_186 rfl (fun _ _ q _ => (XN_0 q.2 (k3_0 i0 i40 rfl)).elim) (fun v h hp hlc => ?_)
  obtain ⟨rfl, hS⟩ := z_go (x' := z_cd (z_T σ 0 (y % 40))) (by rw [dn_nI (j := 0) (by decide), dn_nI (j := y % 40) (by omega)]; exact z_J_sd hJ _) rfl hp
  refine am_istore hC dL_law_189 (by decide) ?_
  change am_W _ _ _ _ [.ref (41), .ref (3), .int (nI k), .int (nI y), .int (z_cd (z_T σ 0 (y % 40)))] _ _
  refine am_aload_n hC dL_law_191 rfl ?_
  refine am_iconst (v := nI 0) hC dL_law_192 (by decide) ?_
  refine am_iconst (v := nI 5) hC dL_law_193 (by decide) ?_
  refine am_iload_n hC dL_law_194 rfl ?_
  refine am_bipush (v := nI 40) hC dL_law_195 (by decide) ?_
  refine am_iremE (z := nI (y % 40)) hC dL_law_197 (by decide) (pk_rem (by omega) (by omega) (by omega)) ?_
  refine am_iload_n hC dL_law_198 rfl ?_
  refine am_bipush (v := nI 40) hC dL_law_199 (by decide) ?_
  refine am_idivE (z := nI (y / 40)) hC dL_law_201 (by decide) (pk_div (by omega) (by omega) (by omega)) ?_
  refine am_iconst (v := nI 4) hC dL_law_202 (by decide) ?_
  refine am_iremE (z := nI ((y / 40) % 4)) hC dL_law_203 (by decide) (pk_rem (by omega) (by omega) (by omega)) ?_
  refine am_iconst (v := nI 1) hC dL_law_204 (by decide) ?_
  refine am_isubE (z := nI ((y / 40) % 4) - nI 1) hC dL_law_205 rfl ?_
  refine am_callV hC (ci := 6) (N := 4) [.int (nI 0), .int (nI 5), .int (nI (y % 40)), .int (nI ((y / 40) % 4) - nI 1)] rfl (SZ_3 hS) rfl mf_X5_tell tw_272 (d_tell _ _ (am_tr hC) h hS _ _ _ _) rfl ⟨rfl, Nat.le_of_ble_eq_true rfl⟩ ⟨by decide, by decide⟩ (by omega) (by omega) dL_law_206 rfl (fun _ _ q _ => (XN_0 q.2 (k3_0 i0 (and_tt (and_tt (by decide) i40) iw) (decide_eq_true (by rw [dn_nI (j := 0) (by decide)]; exact hJ.2.2.2.1)))).elim) (fun v h hp hlc => ?_)
  obtain ⟨rfl, hS⟩ := z_go (x' := z_cd (z_T σ 0 (y % 40))) (σ' := z_uT σ 0 (y % 40) (z_ec (nI ((y / 40) % 4) - nI 1))) (by rw [dn_nI (j := 0) (by decide), dn_nI (j := y % 40) (by omega)]) (by rw [dn_nI (j := 0) (by decide), dn_nI (j := y % 40) (by omega)]) hp
  obtain ⟨hJ1, e1⟩ := z_J_uT hJ (w := z_ec (nI ((y / 40) % 4) - nI 1)) (show y % 40 < 40 by omega)
  generalize z_uT σ 0 (y % 40) (z_ec (nI ((y / 40) % 4) - nI 1)) = σ1 at hS hJ1 e1
  have i1 : IX (z_n σ1) (nI 0) = true := by rw [hJ1.1]; decide
  refine am_iload hC dL_law_209 rfl ?_
  refine am_icmp_ne (tgt := 285) hC dL_law_211 (by decide) (fun c_211 => absurd rfl c_211) (fun c_211 => ?_)
  refine am_aload_n hC dL_law_214 rfl ?_
  refine am_iconst (v := nI 0) hC dL_law_215 (by decide) ?_
  refine am_iload_n hC dL_law_216 rfl ?_
  refine am_bipush (v := nI 40) hC dL_law_217 (by decide) ?_
  refine am_iremE (z := nI (y % 40)) hC dL_law_219 (by decide) (pk_rem (by omega) (by omega) (by omega)) ?_
  refine am_callV hC (ci := 6) (N := 4) [.int (nI 0), .int (nI (y % 40))] rfl (SZ_3 hS) rfl mf_X5_side tw_350 (d_side _ _ (am_tr hC) h hS _ _) rfl ⟨rfl, Nat.le_of_ble_eq_true rfl⟩ ⟨by decide, by decide⟩ (by omega) (by omega) dL_law_220 rfl (fun _ _ q _ => (XN_0 q.2 (k3_0 i1 i40 rfl)).elim) (fun v h hp hlc => ?_)
  obtain ⟨rfl, hS⟩ := z_go (x' := nI ((y / 40) % 4) - nI 1) (by rw [dn_nI (j := 0) (by decide), dn_nI (j := y % 40) (by omega), z_J_sd hJ1, e1]; exact z_cd_ec iw) rfl hp
  refine am_iload_n hC dL_law_223 rfl ?_
  refine am_bipush (v := nI 40) hC dL_law_224 (by decide) ?_
  refine am_idivE (z := nI (y / 40)) hC dL_law_226 (by decide) (pk_div (by omega) (by omega) (by omega)) ?_
  refine am_iconst (v := nI 4) hC dL_law_227 (by decide) ?_
  refine am_iremE (z := nI ((y / 40) % 4)) hC dL_law_228 (by decide) (pk_rem (by omega) (by omega) (by omega)) ?_
  refine am_iconst (v := nI 1) hC dL_law_229 (by decide) ?_
  refine am_isubE (z := nI ((y / 40) % 4) - nI 1) hC dL_law_230 rfl ?_
  refine am_icmp_ne (tgt := 285) hC dL_law_231 (by decide) (fun c_231 => absurd rfl c_231) (fun c_231 => ?_)
  refine am_aload_n hC dL_law_234 rfl ?_
  refine am_iconst (v := nI 0) hC dL_law_235 (by decide) ?_
  refine am_iload_n hC dL_law_236 rfl ?_
  refine am_bipush (v := nI 25) hC dL_law_237 (by decide) ?_
  refine am_iremE (z := nI (y % 25)) hC dL_law_239 (by decide) (pk_rem (by omega) (by omega) (by omega)) ?_
  refine am_callV hC (ci := 6) (N := 4) [.int (nI 0), .int (nI (y % 25))] rfl (SZ_3 hS) rfl mf_X5_size tw_414 (d_size _ _ (am_tr hC) h hS _ _) rfl ⟨rfl, Nat.le_of_ble_eq_true rfl⟩ ⟨by decide, by decide⟩ (by omega) (by omega) dL_law_240 rfl (fun _ _ q _ => (XN_0 q.2 (k3_0 i1 i25 rfl)).elim) (fun v h hp hlc => ?_)
  obtain ⟨-, hS, x1, rfl, hV1⟩ := hp
  obtain ⟨a1, rfl, a2, a3⟩ := z_size (by rw [dn_nI (j := y % 25) (by omega)]; omega) hV1
  refine am_iconst (v := nI 1) hC dL_law_243 (by decide) ?_
  refine am_icmp_lt (tgt := 285) hC dL_law_244 (by decide) (fun c_244 => absurd c_244 (fun z => by have := (nI_ltI (by omega) (by omega)).mp z; omega)) (fun c_244 => ?_)
  refine am_aload_n hC dL_law_247 rfl ?_
  refine am_iconst (v := nI 0) hC dL_law_248 (by decide) ?_
  refine am_iload_n hC dL_law_249 rfl ?_
  refine am_bipush (v := nI 25) hC dL_law_250 (by decide) ?_
  refine am_iremE (z := nI (y % 25)) hC dL_law_252 (by decide) (pk_rem (by omega) (by omega) (by omega)) ?_
  refine am_callV hC (ci := 6) (N := 4) [.int (nI 0), .int (nI (y % 25))] rfl (SZ_3 hS) rfl mf_X5_size tw_414 (d_size _ _ (am_tr hC) h hS _ _) rfl ⟨rfl, Nat.le_of_ble_eq_true rfl⟩ ⟨by decide, by decide⟩ (by omega) (by omega) dL_law_253 rfl (fun _ _ q _ => (XN_0 q.2 (k3_0 i1 i25 rfl)).elim) (fun v h hp hlc => ?_)
  obtain ⟨-, hS, x2, rfl, hV2⟩ := hp
  refine am_bipush (v := nI 26) hC dL_law_256 (by decide) ?_
  refine am_aload_n hC dL_law_258 rfl ?_
  refine am_iconst (v := nI 0) hC dL_law_259 (by decide) ?_
  refine am_callV hC (ci := 6) (N := 4) [.int (nI 0)] rfl (SZ_3 hS) rfl mf_X5_rooms tw_361 (d_rooms _ _ (am_tr hC) h hS _) rfl ⟨rfl, Nat.le_of_ble_eq_true rfl⟩ ⟨by decide, by decide⟩ (by omega) (by omega) dL_law_260 rfl (fun _ _ q _ => (XN_0 q.2 (k3_0 i1 rfl rfl)).elim) (fun v h hp hlc => ?_)
  obtain ⟨-, hS, x3, rfl, hV3⟩ := hp
  obtain ⟨b1, b2, rfl, rfl, b3⟩ := z_ineq (by rw [dn_nI (j := y % 25) (by omega)]; omega) hV2 hV3
  refine am_isubE (z := nI (26 - b2)) hC dL_law_263 (pk_sub (by omega)) ?_
  refine am_icmp_gt (tgt := 285) hC dL_law_264 (by decide) (fun c_264 => absurd c_264 (fun z => by have := (nI_ltI (by omega) (by omega)).mp z; omega)) (fun c_264 => ?_)
  refine am_iload_n hC dL_law_267 rfl ?_
  refine am_bipush (v := nI 8) hC dL_law_268 (by decide) ?_
  refine am_iremE (z := nI (k % 8)) hC dL_law_270 (by decide) (pk_rem (by omega) (by omega) (by omega)) ?_
  refine am_if_ne (tgt := 287) hC dL_law_271 (by decide) (fun c_271 => ?_) (fun c_271 => ?_)
  · replace c_271 : ¬ (k % 8) = 0 := fun q9 => c_271 ((nI_eq (a := (k % 8)) (b := 0) (by omega) (by omega)).mpr q9)
    refine am_iinc (v := nI (k + 1)) hC dL_law_287 rfl (nI_1 (k)) (by decide) ?_
    change am_W _ _ _ _ [.ref (41), .ref (3), .int (nI (k + 1)), .int (nI y), .int (z_cd (z_T σ 0 (y % 40)))] _ _
    refine am_goto (tgt := 152) hC dL_law_290 (by decide) ?_
    exact am_fgt (ls' := [.ref (41), .ref (3), .int (nI (k + 1)), .null, .null]) ⟨Or.inl rfl, ⟨Or.inl rfl, ⟨Or.inl rfl, ⟨Or.inr rfl, ⟨Or.inr rfl, trivial⟩⟩⟩⟩⟩ (am_more (by omega) (by omega) (cont h _ hS hJ1))
  · replace c_271 : (k % 8) = 0 := (nI_eq (a := (k % 8)) (b := 0) (by omega) (by omega)).mp c_271
    refine am_aload_n hC dL_law_274 rfl ?_
    refine am_bipush (v := nI 20) hC dL_law_275 (by decide) ?_
    refine am_bipush (v := nI 30) hC dL_law_277 (by decide) ?_
    refine am_callS hC [.ref (3), .int (nI 20), .int (nI 30)] mf_L_refuses tw_573 (c_refuses' _ _ (am_tr hC) h hS (p := 20) (q := 30) hJ1.2.1 hJ1.2.2.1) rfl ⟨rfl, Nat.le_of_ble_eq_true rfl⟩ ⟨by decide, by decide⟩ (by omega) (by omega) dL_law_279 rfl (fun _ _ q _ => False.elim q) (fun v h hp hlc => ?_)
    obtain ⟨rfl, hS⟩ := hp
    refine am_if_ne (tgt := 287) hC dL_law_282 (by decide) (fun c_282 => ?_) (fun c_282 => absurd c_282 (by decide))
    refine am_iinc (v := nI (k + 1)) hC dL_law_287 rfl (nI_1 (k)) (by decide) ?_
    change am_W _ _ _ _ [.ref (41), .ref (3), .int (nI (k + 1)), .int (nI y), .int (z_cd (z_T σ 0 (y % 40)))] _ _
    refine am_goto (tgt := 152) hC dL_law_290 (by decide) ?_
    exact am_fgt (ls' := [.ref (41), .ref (3), .int (nI (k + 1)), .null, .null]) ⟨Or.inl rfl, ⟨Or.inl rfl, ⟨Or.inl rfl, ⟨Or.inr rfl, ⟨Or.inr rfl, trivial⟩⟩⟩⟩⟩ (am_more (by omega) (by omega) (cont h _ hS hJ1))
set_option maxRecDepth 100000 in
set_option maxHeartbeats 4000000 in
theorem law_l2 {Z : am_Z} {L : Nat} {xs : Nat → Int32} (hC : am_OK Z "HousePlansLaw" cL_law 5 20 618172 7247108) (hX : SCR Z L xs) (hL : L ≤ 260) (hfin : ∀ (kc ks : Nat) (ls : List Value) (h : am_H), kc ≤ 618172 → ks ≤ 7247108 → am_W Z kc ks 308 ls [.int (nI 1)] h) : ∀ (q k kc ks : Nat) (h : am_H) (σ : z_Sg), k + q = 30 → kc + 1900 * q + 100 ≤ 618172 → ks + 35000 * q + 1000 ≤ 7247108 → SZ h σ → z_J σ → am_W Z kc ks 152 [.ref (41), .ref (3), .int (nI k), .null, .null] [] h := by
  intro q
  induction q with
  | zero =>
    intro k kc ks h σ hk hkc hks hS hJ
    obtain rfl : k = 30 := by omega
    have i0 : IX (z_n σ) (nI 0) = true := by rw [hJ.1]; decide
    refine am_iload_n hC dL_law_152 rfl ?_
    refine am_bipush (v := nI 30) hC dL_law_153 (by decide) ?_
    refine am_icmp_ge (tgt := 293) hC dL_law_155 (by decide) (fun c_155 => ?_) (fun c_155 => absurd (by decide) c_155)
    refine am_aload_n hC dL_law_293 rfl ?_
    refine am_iconst (v := nI 0) hC dL_law_294 (by decide) ?_
    refine am_bipush (v := nI 12) hC dL_law_295 (by decide) ?_
    refine am_callV hC (ci := 6) (N := 4) [.int (nI 0), .int (nI 12)] rfl (SZ_3 hS) rfl mf_X5_doorsOut tw_422 (d_doorsOut _ _ (am_tr hC) h hS _ _) rfl ⟨rfl, Nat.le_of_ble_eq_true rfl⟩ ⟨by decide, by decide⟩ (by omega) (by omega) dL_law_297 rfl (fun _ _ q _ => (XN_0 q.2 (k3_0 i0 (by decide) rfl)).elim) (fun v h hp hlc => ?_)
    obtain ⟨-, hS, x, rfl, hV⟩ := hp
    rw [dn_nI (j := 0) (by decide), dn_nI (j := 12) (by decide)] at hV
    obtain rfl := z_out hJ hV
    refine am_if_ne (tgt := 307) hC dL_law_300 (by decide) (fun c_300 => absurd (by decide) c_300) (fun c_300 => ?_)
    refine am_iconst (v := nI 1) hC dL_law_303 (by decide) ?_
    refine am_goto (tgt := 308) hC dL_law_304 (by decide) ?_
    exact hfin _ _ _ _ (by omega) (by omega)
  | succ q ih =>
    intro k kc ks h σ hk hkc hks hS hJ
    refine am_iload_n hC dL_law_152 rfl ?_
    refine am_bipush (v := nI 30) hC dL_law_153 (by decide) ?_
    refine am_icmp_ge (tgt := 293) hC dL_law_155 (by decide) (fun c_155 => absurd c_155 (by rw [Int32.not_le]; exact nI_lt (by omega) (by omega))) (fun c_155 => ?_)
    refine am_aload_n hC dL_law_158 rfl ?_
    refine am_slen hC hX dL_law_159 ?_
    refine am_if_ne (tgt := 170) hC dL_law_160 (by decide) (fun c_160 => ?_) (fun c_160 => ?_)
    · replace c_160 : ¬ L = 0 := fun q9 => c_160 ((nI_eq (a := L) (b := 0) (by omega) (by omega)).mpr q9)
      refine am_aload_n hC dL_law_170 rfl ?_
      refine am_iload_n hC dL_law_171 rfl ?_
      refine am_aload_n hC dL_law_172 rfl ?_
      refine am_slen hC hX dL_law_173 ?_
      refine am_iremE (z := nI (k % L)) hC dL_law_174 (fun z => by have := (nI_eq (a := L) (b := 0) (by omega) (by omega)).mp z; omega) (pk_rem (by omega) (by omega) (by omega)) ?_
      refine am_sld hC hX (j := k % L) rfl ⟨Nat.mod_lt _ (by omega), hL⟩ dL_law_175 ?_
      refine am_bipush (v := nI 8) hC dL_law_176 (by decide) ?_
      obtain ⟨y, hy, ey⟩ := z_ush (xs (k % L))
      refine am_iushr (v := nI y) hC dL_law_178 ey ?_
      exact law_it hC (y := y) hy (show k < 30 by omega) ⟨by omega, by omega⟩ (fun h σ hS hJ => ih (k + 1) _ _ h σ (by omega) (by omega) (by omega) hS hJ) h σ hS hJ
    · replace c_160 : L = 0 := (nI_eq (a := L) (b := 0) (by omega) (by omega)).mp c_160
      refine am_bipush (v := nI 61) hC dL_law_163 (by decide) ?_
      refine am_iload_n hC dL_law_165 rfl ?_
      refine am_imulE (z := nI (61 * k)) hC dL_law_166 (pk_mul (61) (k)) ?_
      refine am_goto (tgt := 179) hC dL_law_167 (by decide) ?_
      exact law_it hC (y := 61 * k) (by omega) (show k < 30 by omega) ⟨by omega, by omega⟩ (fun h σ hS hJ => ih (k + 1) _ _ h σ (by omega) (by omega) (by omega) hS hJ) h σ hS hJ
