/-! ===== the law's cases ===== -/
/-- the script lies below the line -/
def SCR (Z : am_Z) (L : Nat) (xs : Nat → Int32) : Prop := match Z with
  | (G, _, _, _, _, s, _, _, _, _, _, h0, ad0, _, _) => hk_ h0 41 ≠ 0 ∧ ad0 41 < G.2.2.1 ∧ va_X (ad0 41) L xs s s.heap
section SCRR
variable {Z : am_Z} {own : String} {cc : ByteArray} {n L mc ms : Nat} {kc ks pc : Nat} {ls st : List Value} {h : am_H}
theorem am_sld (hC : am_OK Z own cc n L mc ms) {N : Nat} {xs : Nat → Int32} (hS : SCR Z N xs) {j : Nat} {i : Int32} (hi : i = nI j) (hj : j < N ∧ N ≤ 2560) (hd : decode cc pc = .ok (.iaload, 1)) (k : am_W Z kc ks (pc + 1) ls (.int (xs j) :: st) h) : am_W Z kc ks pc ls (.int i :: .ref 41 :: st) h := by
  obtain ⟨G, p, l, e, R, s, m, args, below, meth, c, h0, ad0, n', Q⟩ := Z
  obtain ⟨rfl, ⟨hx, hb, hml, hown, hts⟩, hlk, hE, htr, hR1, hR2, hR3, hR4⟩ := hC
  obtain ⟨s1, s2, s3⟩ := hS
  refine fun ad H locs lc hA hSv hX hl hvl hvs => ?_
  obtain ⟨i1, i2⟩ := am_ix hi hj.1 (by omega)
  have k9 := k ad H locs lc hA hSv hX hl hvl (am_Vc trivial (am_Vt (am_Vt hvs)))
  change W p l e R s m args below meth c H locs kc ks Q (F0 m pc lc (.int i :: am_rv ad 41 :: _))
  rw [am_rv_ref (by decide), hX.2 41 s1]
  refine va_sld hx hb s3 (Nat.lt_of_lt_of_le s2 hE.2.2.2.2.2.2.2.2) (fun q => by have : G.2.2.1 ≤ ad0 41 := q; omega) hSv i1 hd ?_
  rw [i2]
  exact k9
theorem am_slen (hC : am_OK Z own cc n L mc ms) {N : Nat} {xs : Nat → Int32} (hS : SCR Z N xs) (hd : decode cc pc = .ok (.arraylength, 1)) (k : am_W Z kc ks (pc + 1) ls (.int (nI N) :: st) h) : am_W Z kc ks pc ls (.ref 41 :: st) h := by
  obtain ⟨G, p, l, e, R, s, m, args, below, meth, c, h0, ad0, n', Q⟩ := Z
  obtain ⟨rfl, ⟨hx, hb, hml, hown, hts⟩, hlk, hE, htr, hR1, hR2, hR3, hR4⟩ := hC
  obtain ⟨s1, s2, s3⟩ := hS
  refine fun ad H locs lc hA hSv hX hl hvl hvs => ?_
  have k9 := k ad H locs lc hA hSv hX hl hvl (am_Vc trivial (am_Vt hvs))
  change W p l e R s m args below meth c H locs kc ks Q (F0 m pc lc (am_rv ad 41 :: _))
  rw [am_rv_ref (by decide), hX.2 41 s1]
  exact va_slen hx hb s3 (Nat.lt_of_lt_of_le s2 hE.2.2.2.2.2.2.2.2) (fun q => by have : G.2.2.1 ≤ ad0 41 := q; omega) hSv hd k9
end SCRR
theorem FM_14 {h : am_H} (hM : FM h) : hk_ h 14 = 8 := (hM.1 (14, 8, 0) (by decide)).1
theorem nI_k3 {a b c : Bool} (h : nI (k3 a b c) = 0) : k3 a b c = 0 := by
  revert h
  cases a <;> cases b <;> cases c <;> decide
theorem lg_eq {x y : Int64} (h : x = y) : lg_cmp x y = 0 := by
  subst h
  unfold lg_cmp
  simp
theorem lv_0 {x : Int64} {V : Int32} (c : V = 0) (h : x = V.toInt64) : x = 0 := by rw [h, c]; rfl
theorem lv_1 {x : Int64} {V : Int32} (c : ¬ V = 0) (hB : ∃ B, V = b2i B) (h : x = V.toInt64) : x = 1 := by
  obtain ⟨B, rfl⟩ := hB
  cases B
  · exact absurd rfl c
  · rw [h]; rfl
set_option maxRecDepth 100000 in
set_option maxHeartbeats 4000000 in
theorem lc_begin {Z : am_Z} {L : Nat} {xs : Nat → Int32} (hC : am_OK Z "HousePlansLaw" cL_law 7 20 601024 7293033) (hS : SCR Z L xs) (hL : L ≤ 2560) {h : am_H} {n np nq kc ks i : Nat} (hI : INV h n np nq) (hi : i + 5 ≤ L) (hkc : kc + 10 ≤ 601024) (hks : ks + 200 ≤ 7293033) (hend : ∀ (h' : am_H) (n' np' nq' : Nat), INV h' n' np' nq' → am_W Z (kc + 10) (ks + 200) 1529 [.ref (41), .ref (3), .ref (14), .ref (40), .int (nI i), .null, .null] [] h') : am_W Z kc ks 140 [.ref (41), .ref (3), .ref (14), .ref (40), .int (nI i), .null, .null] [] h := by
  refine am_aload_n hC dL_law_140 rfl ?_
  refine am_aload_n hC dL_law_141 rfl ?_
  refine am_callSX hC [.ref (3), .ref (40)] mf_L_begin tw_159 (c_L_begin _ _ (am_tr hC) h n np nq hI.1 hI.2.2 ) rfl ⟨rfl, Nat.le_of_ble_eq_true rfl⟩ ⟨by decide, by decide⟩ (by omega) (by omega) dL_law_142 rfl (fun _ _ q _ => False.elim q) (fun v h1 hp hlc => ?_)
  obtain ⟨rfl, p1, p2⟩ := hp
  obtain ⟨mA, oA, leA⟩ := PO_A hI p1 p2 (fun x h' q => am_eq_mono (fun r hr => Or.elim hr (fun z => by unfold SL at z; unfold SC; omega) (fun z => by unfold SC; omega)) q.2.1)
  have hk14 := FM_14 mA.1.1
  refine am_istore hC dL_law_145 (by decide) ?_
  change am_W _ _ _ _ [.ref (41), .ref (3), .ref (14), .ref (40), .int (nI i), .int (nI (k3 (decide (n < 6)) true true)), .null] _ _
  refine am_aload_n hC dL_law_147 rfl ?_
  refine am_callV hC (ci := 7) (N := 20) [] rfl hk14 rfl mf_X6_begin tw_713 (c_X6_begin _ _ (am_tr hC) h1 mA.1.1 n mA.1.2.1 mA.1.2.2.1 ) rfl ⟨rfl, Nat.le_of_ble_eq_true rfl⟩ ⟨by decide, by decide⟩ (by omega) (by omega) dL_law_148 rfl (fun _ _ q _ => False.elim q) (fun v h2 hp hlc => ?_)
  obtain ⟨V, rfl, hm⟩ := hp
  have hr := st_begin hI p1 p2 hm
  have hk14 := FM_14 hr.1
  have hO : OA h2 := hr.2.2.2.1
  refine am_istore hC dL_law_151 (by decide) ?_
  change am_W _ _ _ _ [.ref (41), .ref (3), .ref (14), .ref (40), .int (nI i), .int (nI (k3 (decide (n < 6)) true true)), .int (V)] _ _
  refine am_aload_n hC dL_law_153 rfl ?_
  refine am_callV hC (ci := 7) (N := 20) [] rfl hk14 rfl mf_X6_thrown tw_709 (c_X6_thrown _ _ (am_tr hC) h2 hr.1) rfl ⟨rfl, Nat.le_of_ble_eq_true rfl⟩ ⟨by decide, by decide⟩ (by omega) (by omega) dL_law_154 rfl (fun _ _ q _ => False.elim q) (fun v h3 hp hlc => ?_)
  obtain ⟨e3, rfl⟩ := hp
  rw [e3]
  refine am_iload hC dL_law_157 rfl ?_
  refine am_icmp_eq (tgt := 164) hC dL_law_159 (by decide) (fun c_159 => ?_) (fun c_159 => absurd hr.2.1 c_159)
  refine am_iload hC dL_law_164 rfl ?_
  refine am_if_ne (tgt := 181) hC dL_law_166 (by decide) (fun c_166 => ?_) (fun c_166 => ?_)
  · refine am_goto (tgt := 1529) hC dL_law_181 (by decide) ?_
    obtain ⟨n2, np2, nq2, hI2⟩ := hr.2.2.2.2
    refine am_more (kc' := kc + 10) (ks' := ks + 200) (by omega) (by omega) ?_
    exact am_fgt (ls' := [.ref (41), .ref (3), .ref (14), .ref (40), .int (nI i), .null, .null]) ⟨Or.inl rfl, ⟨Or.inl rfl, ⟨Or.inl rfl, ⟨Or.inl rfl, ⟨Or.inl rfl, ⟨Or.inr rfl, ⟨Or.inr rfl, trivial⟩⟩⟩⟩⟩⟩⟩ (hend _ _ _ _ hI2)
  · have hK0 := nI_k3 c_166
    refine am_aload_n hC dL_law_169 rfl ?_
    refine am_iconst (v := nI 0) hC dL_law_170 (by decide) ?_
    refine am_lald hC (j := 0) (N := 1) hO.1 hO.2 rfl (by decide) (by decide) dL_law_171 ?_
    refine am_iload hC dL_law_172 rfl ?_
    refine am_i2l hC dL_law_174 ?_
    refine am_lcmp hC dL_law_175 ?_
    refine am_if_eq (tgt := 181) hC dL_law_176 (by decide) (fun c_176 => ?_) (fun c_176 => absurd (lg_eq (hr.2.2.1 hK0)) c_176)
    refine am_goto (tgt := 1529) hC dL_law_181 (by decide) ?_
    obtain ⟨n2, np2, nq2, hI2⟩ := hr.2.2.2.2
    refine am_more (kc' := kc + 10) (ks' := ks + 200) (by omega) (by omega) ?_
    exact am_fgt (ls' := [.ref (41), .ref (3), .ref (14), .ref (40), .int (nI i), .null, .null]) ⟨Or.inl rfl, ⟨Or.inl rfl, ⟨Or.inl rfl, ⟨Or.inl rfl, ⟨Or.inl rfl, ⟨Or.inr rfl, ⟨Or.inr rfl, trivial⟩⟩⟩⟩⟩⟩⟩ (hend _ _ _ _ hI2)
set_option maxRecDepth 100000 in
set_option maxHeartbeats 4000000 in
theorem lc_tell {Z : am_Z} {L : Nat} {xs : Nat → Int32} (hC : am_OK Z "HousePlansLaw" cL_law 7 20 601024 7293033) (hS : SCR Z L xs) (hL : L ≤ 2560) {h : am_H} {n np nq kc ks i : Nat} (hI : INV h n np nq) (hi : i + 5 ≤ L) (hkc : kc + 10 ≤ 601024) (hks : ks + 200 ≤ 7293033) (hend : ∀ (h' : am_H) (n' np' nq' : Nat), INV h' n' np' nq' → am_W Z (kc + 10) (ks + 200) 1529 [.ref (41), .ref (3), .ref (14), .ref (40), .int (nI i), .null, .null] [] h') : am_W Z kc ks 184 [.ref (41), .ref (3), .ref (14), .ref (40), .int (nI i), .null, .null] [] h := by
  refine am_aload_n hC dL_law_184 rfl ?_
  refine am_aload_n hC dL_law_185 rfl ?_
  refine am_iload hC dL_law_186 rfl ?_
  refine am_iconst (v := nI 1) hC dL_law_188 (by decide) ?_
  refine am_iaddE (z := nI (i + 1)) hC dL_law_189 (nI_add (i) (1)) ?_
  refine am_sld hC hS (j := i + 1) rfl (by omega) dL_law_190 ?_
  refine am_aload_n hC dL_law_191 rfl ?_
  refine am_iload hC dL_law_192 rfl ?_
  refine am_iconst (v := nI 2) hC dL_law_194 (by decide) ?_
  refine am_iaddE (z := nI (i + 2)) hC dL_law_195 (nI_add (i) (2)) ?_
  refine am_sld hC hS (j := i + 2) rfl (by omega) dL_law_196 ?_
  refine am_aload_n hC dL_law_197 rfl ?_
  refine am_iload hC dL_law_198 rfl ?_
  refine am_iconst (v := nI 3) hC dL_law_200 (by decide) ?_
  refine am_iaddE (z := nI (i + 3)) hC dL_law_201 (nI_add (i) (3)) ?_
  refine am_sld hC hS (j := i + 3) rfl (by omega) dL_law_202 ?_
  refine am_aload_n hC dL_law_203 rfl ?_
  refine am_iload hC dL_law_204 rfl ?_
  refine am_iconst (v := nI 4) hC dL_law_206 (by decide) ?_
  refine am_iaddE (z := nI (i + 4)) hC dL_law_207 (nI_add (i) (4)) ?_
  refine am_sld hC hS (j := i + 4) rfl (by omega) dL_law_208 ?_
  refine am_aload_n hC dL_law_209 rfl ?_
  refine am_callSX hC [.ref (3), .int (xs (i + 1)), .int (xs (i + 2)), .int (xs (i + 3)), .int (xs (i + 4)), .ref (40)] mf_L_tell tw_324 (c_L_tell _ _ (am_tr hC) h n np nq hI.1 hI.2.2 (xs (i + 1)) (xs (i + 2)) (xs (i + 3)) (xs (i + 4))) rfl ⟨rfl, Nat.le_of_ble_eq_true rfl⟩ ⟨by decide, by decide⟩ (by omega) (by omega) dL_law_210 rfl (fun _ _ q _ => False.elim q) (fun v h1 hp hlc => ?_)
  obtain ⟨rfl, p1, p2⟩ := hp
  obtain ⟨mA, oA, leA⟩ := PO_A hI p1 p2 (fun x h' q => by rw [q.2]; exact am_eq_sI (Or.inr (by omega)))
  have hk14 := FM_14 mA.1.1
  refine am_istore hC dL_law_213 (by decide) ?_
  change am_W _ _ _ _ [.ref (41), .ref (3), .ref (14), .ref (40), .int (nI i), .int (nI (k3 (IX n (xs (i + 1))) (IX 6 (xs (i + 2)) && IX 40 (xs (i + 3)) && IW (xs (i + 4))) (decide (chg h (dn (xs (i + 1))) = (xs (i + 2)))))), .null] _ _
  refine am_aload_n hC dL_law_215 rfl ?_
  refine am_aload_n hC dL_law_216 rfl ?_
  refine am_iload hC dL_law_217 rfl ?_
  refine am_iconst (v := nI 1) hC dL_law_219 (by decide) ?_
  refine am_iaddE (z := nI (i + 1)) hC dL_law_220 (nI_add (i) (1)) ?_
  refine am_sld hC hS (j := i + 1) rfl (by omega) dL_law_221 ?_
  refine am_aload_n hC dL_law_222 rfl ?_
  refine am_iload hC dL_law_223 rfl ?_
  refine am_iconst (v := nI 2) hC dL_law_225 (by decide) ?_
  refine am_iaddE (z := nI (i + 2)) hC dL_law_226 (nI_add (i) (2)) ?_
  refine am_sld hC hS (j := i + 2) rfl (by omega) dL_law_227 ?_
  refine am_aload_n hC dL_law_228 rfl ?_
  refine am_iload hC dL_law_229 rfl ?_
  refine am_iconst (v := nI 3) hC dL_law_231 (by decide) ?_
  refine am_iaddE (z := nI (i + 3)) hC dL_law_232 (nI_add (i) (3)) ?_
  refine am_sld hC hS (j := i + 3) rfl (by omega) dL_law_233 ?_
  refine am_aload_n hC dL_law_234 rfl ?_
  refine am_iload hC dL_law_235 rfl ?_
  refine am_iconst (v := nI 4) hC dL_law_237 (by decide) ?_
  refine am_iaddE (z := nI (i + 4)) hC dL_law_238 (nI_add (i) (4)) ?_
  refine am_sld hC hS (j := i + 4) rfl (by omega) dL_law_239 ?_
  refine am_callV hC (ci := 7) (N := 20) [.int (xs (i + 1)), .int (xs (i + 2)), .int (xs (i + 3)), .int (xs (i + 4))] rfl hk14 rfl mf_X6_tell tw_717 (c_X6_tell _ _ (am_tr hC) h1 mA.1.1 n mA.1.2.1 mA.1.2.2.1 (xs (i + 1)) (xs (i + 2)) (xs (i + 3)) (xs (i + 4))) rfl ⟨rfl, Nat.le_of_ble_eq_true rfl⟩ ⟨by decide, by decide⟩ (by omega) (by omega) dL_law_240 rfl (fun _ _ q _ => False.elim q) (fun v h2 hp hlc => ?_)
  obtain ⟨V, rfl, hm⟩ := hp
  have hr := st_tell hI p1 p2 hm
  have hk14 := FM_14 hr.1
  have hO : OA h2 := hr.2.2.2.1
  refine am_istore hC dL_law_243 (by decide) ?_
  change am_W _ _ _ _ [.ref (41), .ref (3), .ref (14), .ref (40), .int (nI i), .int (nI (k3 (IX n (xs (i + 1))) (IX 6 (xs (i + 2)) && IX 40 (xs (i + 3)) && IW (xs (i + 4))) (decide (chg h (dn (xs (i + 1))) = (xs (i + 2)))))), .int (V)] _ _
  refine am_aload_n hC dL_law_245 rfl ?_
  refine am_callV hC (ci := 7) (N := 20) [] rfl hk14 rfl mf_X6_thrown tw_709 (c_X6_thrown _ _ (am_tr hC) h2 hr.1) rfl ⟨rfl, Nat.le_of_ble_eq_true rfl⟩ ⟨by decide, by decide⟩ (by omega) (by omega) dL_law_246 rfl (fun _ _ q _ => False.elim q) (fun v h3 hp hlc => ?_)
  obtain ⟨e3, rfl⟩ := hp
  rw [e3]
  refine am_iload hC dL_law_249 rfl ?_
  refine am_icmp_eq (tgt := 256) hC dL_law_251 (by decide) (fun c_251 => ?_) (fun c_251 => absurd hr.2.1 c_251)
  refine am_iload hC dL_law_256 rfl ?_
  refine am_if_ne (tgt := 273) hC dL_law_258 (by decide) (fun c_258 => ?_) (fun c_258 => ?_)
  · refine am_goto (tgt := 1529) hC dL_law_273 (by decide) ?_
    obtain ⟨n2, np2, nq2, hI2⟩ := hr.2.2.2.2
    refine am_more (kc' := kc + 10) (ks' := ks + 200) (by omega) (by omega) ?_
    exact am_fgt (ls' := [.ref (41), .ref (3), .ref (14), .ref (40), .int (nI i), .null, .null]) ⟨Or.inl rfl, ⟨Or.inl rfl, ⟨Or.inl rfl, ⟨Or.inl rfl, ⟨Or.inl rfl, ⟨Or.inr rfl, ⟨Or.inr rfl, trivial⟩⟩⟩⟩⟩⟩⟩ (hend _ _ _ _ hI2)
  · have hK0 := nI_k3 c_258
    refine am_aload_n hC dL_law_261 rfl ?_
    refine am_iconst (v := nI 0) hC dL_law_262 (by decide) ?_
    refine am_lald hC (j := 0) (N := 1) hO.1 hO.2 rfl (by decide) (by decide) dL_law_263 ?_
    refine am_iload hC dL_law_264 rfl ?_
    refine am_i2l hC dL_law_266 ?_
    refine am_lcmp hC dL_law_267 ?_
    refine am_if_eq (tgt := 273) hC dL_law_268 (by decide) (fun c_268 => ?_) (fun c_268 => absurd (lg_eq (hr.2.2.1 hK0)) c_268)
    refine am_goto (tgt := 1529) hC dL_law_273 (by decide) ?_
    obtain ⟨n2, np2, nq2, hI2⟩ := hr.2.2.2.2
    refine am_more (kc' := kc + 10) (ks' := ks + 200) (by omega) (by omega) ?_
    exact am_fgt (ls' := [.ref (41), .ref (3), .ref (14), .ref (40), .int (nI i), .null, .null]) ⟨Or.inl rfl, ⟨Or.inl rfl, ⟨Or.inl rfl, ⟨Or.inl rfl, ⟨Or.inl rfl, ⟨Or.inr rfl, ⟨Or.inr rfl, trivial⟩⟩⟩⟩⟩⟩⟩ (hend _ _ _ _ hI2)
set_option maxRecDepth 100000 in
set_option maxHeartbeats 4000000 in
theorem lc_setExit {Z : am_Z} {L : Nat} {xs : Nat → Int32} (hC : am_OK Z "HousePlansLaw" cL_law 7 20 601024 7293033) (hS : SCR Z L xs) (hL : L ≤ 2560) {h : am_H} {n np nq kc ks i : Nat} (hI : INV h n np nq) (hi : i + 5 ≤ L) (hkc : kc + 10 ≤ 601024) (hks : ks + 200 ≤ 7293033) (hend : ∀ (h' : am_H) (n' np' nq' : Nat), INV h' n' np' nq' → am_W Z (kc + 10) (ks + 200) 1529 [.ref (41), .ref (3), .ref (14), .ref (40), .int (nI i), .null, .null] [] h') : am_W Z kc ks 276 [.ref (41), .ref (3), .ref (14), .ref (40), .int (nI i), .null, .null] [] h := by
  refine am_aload_n hC dL_law_276 rfl ?_
  refine am_aload_n hC dL_law_277 rfl ?_
  refine am_iload hC dL_law_278 rfl ?_
  refine am_iconst (v := nI 1) hC dL_law_280 (by decide) ?_
  refine am_iaddE (z := nI (i + 1)) hC dL_law_281 (nI_add (i) (1)) ?_
  refine am_sld hC hS (j := i + 1) rfl (by omega) dL_law_282 ?_
  refine am_aload_n hC dL_law_283 rfl ?_
  refine am_iload hC dL_law_284 rfl ?_
  refine am_iconst (v := nI 2) hC dL_law_286 (by decide) ?_
  refine am_iaddE (z := nI (i + 2)) hC dL_law_287 (nI_add (i) (2)) ?_
  refine am_sld hC hS (j := i + 2) rfl (by omega) dL_law_288 ?_
  refine am_aload_n hC dL_law_289 rfl ?_
  refine am_iload hC dL_law_290 rfl ?_
  refine am_iconst (v := nI 3) hC dL_law_292 (by decide) ?_
  refine am_iaddE (z := nI (i + 3)) hC dL_law_293 (nI_add (i) (3)) ?_
  refine am_sld hC hS (j := i + 3) rfl (by omega) dL_law_294 ?_
  refine am_aload_n hC dL_law_295 rfl ?_
  refine am_iload hC dL_law_296 rfl ?_
  refine am_iconst (v := nI 4) hC dL_law_298 (by decide) ?_
  refine am_iaddE (z := nI (i + 4)) hC dL_law_299 (nI_add (i) (4)) ?_
  refine am_sld hC hS (j := i + 4) rfl (by omega) dL_law_300 ?_
  refine am_if_eq (tgt := 308) hC dL_law_301 (by decide) (fun c_301 => ?_) (fun c_301 => ?_)
  · refine am_iconst (v := b2i false) hC dL_law_308 (by decide) ?_
    refine am_aload_n hC dL_law_309 rfl ?_
    refine am_callSX hC [.ref (3), .int (xs (i + 1)), .int (xs (i + 2)), .int (xs (i + 3)), .int (b2i false), .ref (40)] mf_L_setExit tw_385 (c_L_setExit _ _ (am_tr hC) h n np nq hI.1 hI.2.2 (xs (i + 1)) (xs (i + 2)) (xs (i + 3)) false) rfl ⟨rfl, Nat.le_of_ble_eq_true rfl⟩ ⟨by decide, by decide⟩ (by omega) (by omega) dL_law_310 rfl (fun _ _ q _ => False.elim q) (fun v h1 hp hlc => ?_)
    obtain ⟨rfl, p1, p2⟩ := hp
    obtain ⟨mA, oA, leA⟩ := PO_A hI p1 p2 (fun x h' q => by rw [q.2]; exact am_eq_sI (Or.inr (by omega)))
    have hk14 := FM_14 mA.1.1
    refine am_istore hC dL_law_313 (by decide) ?_
    change am_W _ _ _ _ [.ref (41), .ref (3), .ref (14), .ref (40), .int (nI i), .int (nI (k3 (IX n (xs (i + 1))) (IX 6 (xs (i + 2)) && IX 25 (xs (i + 3))) (decide (chg h (dn (xs (i + 1))) = (xs (i + 2)))))), .null] _ _
    refine am_aload_n hC dL_law_315 rfl ?_
    refine am_aload_n hC dL_law_316 rfl ?_
    refine am_iload hC dL_law_317 rfl ?_
    refine am_iconst (v := nI 1) hC dL_law_319 (by decide) ?_
    refine am_iaddE (z := nI (i + 1)) hC dL_law_320 (nI_add (i) (1)) ?_
    refine am_sld hC hS (j := i + 1) rfl (by omega) dL_law_321 ?_
    refine am_aload_n hC dL_law_322 rfl ?_
    refine am_iload hC dL_law_323 rfl ?_
    refine am_iconst (v := nI 2) hC dL_law_325 (by decide) ?_
    refine am_iaddE (z := nI (i + 2)) hC dL_law_326 (nI_add (i) (2)) ?_
    refine am_sld hC hS (j := i + 2) rfl (by omega) dL_law_327 ?_
    refine am_aload_n hC dL_law_328 rfl ?_
    refine am_iload hC dL_law_329 rfl ?_
    refine am_iconst (v := nI 3) hC dL_law_331 (by decide) ?_
    refine am_iaddE (z := nI (i + 3)) hC dL_law_332 (nI_add (i) (3)) ?_
    refine am_sld hC hS (j := i + 3) rfl (by omega) dL_law_333 ?_
    refine am_aload_n hC dL_law_334 rfl ?_
    refine am_iload hC dL_law_335 rfl ?_
    refine am_iconst (v := nI 4) hC dL_law_337 (by decide) ?_
    refine am_iaddE (z := nI (i + 4)) hC dL_law_338 (nI_add (i) (4)) ?_
    refine am_sld hC hS (j := i + 4) rfl (by omega) dL_law_339 ?_
    refine am_if_eq (tgt := 347) hC dL_law_340 (by decide) (fun c_340 => ?_) (fun c_340 => absurd c_301 c_340)
    refine am_iconst (v := b2i false) hC dL_law_347 (by decide) ?_
    refine am_callV hC (ci := 7) (N := 20) [.int (xs (i + 1)), .int (xs (i + 2)), .int (xs (i + 3)), .int (b2i false)] rfl hk14 rfl mf_X6_setExit tw_735 (c_X6_setExit _ _ (am_tr hC) h1 mA.1.1 n mA.1.2.1 mA.1.2.2.1 (xs (i + 1)) (xs (i + 2)) (xs (i + 3)) false) rfl ⟨rfl, Nat.le_of_ble_eq_true rfl⟩ ⟨by decide, by decide⟩ (by omega) (by omega) dL_law_348 rfl (fun _ _ q _ => False.elim q) (fun v h2 hp hlc => ?_)
    obtain ⟨V, rfl, hm⟩ := hp
    have ⟨hr, hB⟩ := st_setExit hI p1 p2 hm
    have hk14 := FM_14 hr.1
    have hO : OA h2 := hr.2.2.2.1
    refine am_istore hC dL_law_351 (by decide) ?_
    change am_W _ _ _ _ [.ref (41), .ref (3), .ref (14), .ref (40), .int (nI i), .int (nI (k3 (IX n (xs (i + 1))) (IX 6 (xs (i + 2)) && IX 25 (xs (i + 3))) (decide (chg h (dn (xs (i + 1))) = (xs (i + 2)))))), .int (V)] _ _
    refine am_aload_n hC dL_law_353 rfl ?_
    refine am_callV hC (ci := 7) (N := 20) [] rfl hk14 rfl mf_X6_thrown tw_709 (c_X6_thrown _ _ (am_tr hC) h2 hr.1) rfl ⟨rfl, Nat.le_of_ble_eq_true rfl⟩ ⟨by decide, by decide⟩ (by omega) (by omega) dL_law_354 rfl (fun _ _ q _ => False.elim q) (fun v h3 hp hlc => ?_)
    obtain ⟨e3, rfl⟩ := hp
    rw [e3]
    refine am_iload hC dL_law_357 rfl ?_
    refine am_icmp_eq (tgt := 364) hC dL_law_359 (by decide) (fun c_359 => ?_) (fun c_359 => absurd hr.2.1 c_359)
    refine am_iload hC dL_law_364 rfl ?_
    refine am_if_ne (tgt := 388) hC dL_law_366 (by decide) (fun c_366 => ?_) (fun c_366 => ?_)
    · refine am_goto (tgt := 1529) hC dL_law_388 (by decide) ?_
      obtain ⟨n2, np2, nq2, hI2⟩ := hr.2.2.2.2
      refine am_more (kc' := kc + 10) (ks' := ks + 200) (by omega) (by omega) ?_
      exact am_fgt (ls' := [.ref (41), .ref (3), .ref (14), .ref (40), .int (nI i), .null, .null]) ⟨Or.inl rfl, ⟨Or.inl rfl, ⟨Or.inl rfl, ⟨Or.inl rfl, ⟨Or.inl rfl, ⟨Or.inr rfl, ⟨Or.inr rfl, trivial⟩⟩⟩⟩⟩⟩⟩ (hend _ _ _ _ hI2)
    · have hK0 := nI_k3 c_366
      refine am_aload_n hC dL_law_369 rfl ?_
      refine am_iconst (v := nI 0) hC dL_law_370 (by decide) ?_
      refine am_lald hC (j := 0) (N := 1) hO.1 hO.2 rfl (by decide) (by decide) dL_law_371 ?_
      refine am_iload hC dL_law_372 rfl ?_
      refine am_if_eq (tgt := 381) hC dL_law_374 (by decide) (fun c_374 => ?_) (fun c_374 => ?_)
      · refine am_lconst (v := 0) hC dL_law_381 (by decide) ?_
        refine am_lcmp hC dL_law_382 ?_
        refine am_if_eq (tgt := 388) hC dL_law_383 (by decide) (fun c_383 => ?_) (fun c_383 => absurd (lg_eq (lv_0 c_374 (hr.2.2.1 hK0))) c_383)
        refine am_goto (tgt := 1529) hC dL_law_388 (by decide) ?_
        obtain ⟨n2, np2, nq2, hI2⟩ := hr.2.2.2.2
        refine am_more (kc' := kc + 10) (ks' := ks + 200) (by omega) (by omega) ?_
        exact am_fgt (ls' := [.ref (41), .ref (3), .ref (14), .ref (40), .int (nI i), .null, .null]) ⟨Or.inl rfl, ⟨Or.inl rfl, ⟨Or.inl rfl, ⟨Or.inl rfl, ⟨Or.inl rfl, ⟨Or.inr rfl, ⟨Or.inr rfl, trivial⟩⟩⟩⟩⟩⟩⟩ (hend _ _ _ _ hI2)
      · refine am_lconst (v := 1) hC dL_law_377 (by decide) ?_
        refine am_goto (tgt := 382) hC dL_law_378 (by decide) ?_
        refine am_lcmp hC dL_law_382 ?_
        refine am_if_eq (tgt := 388) hC dL_law_383 (by decide) (fun c_383 => ?_) (fun c_383 => absurd (lg_eq (lv_1 c_374 (hB hK0) (hr.2.2.1 hK0))) c_383)
        refine am_goto (tgt := 1529) hC dL_law_388 (by decide) ?_
        obtain ⟨n2, np2, nq2, hI2⟩ := hr.2.2.2.2
        refine am_more (kc' := kc + 10) (ks' := ks + 200) (by omega) (by omega) ?_
        exact am_fgt (ls' := [.ref (41), .ref (3), .ref (14), .ref (40), .int (nI i), .null, .null]) ⟨Or.inl rfl, ⟨Or.inl rfl, ⟨Or.inl rfl, ⟨Or.inl rfl, ⟨Or.inl rfl, ⟨Or.inr rfl, ⟨Or.inr rfl, trivial⟩⟩⟩⟩⟩⟩⟩ (hend _ _ _ _ hI2)
  · refine am_iconst (v := b2i true) hC dL_law_304 (by decide) ?_
    refine am_goto (tgt := 309) hC dL_law_305 (by decide) ?_
    refine am_aload_n hC dL_law_309 rfl ?_
    refine am_callSX hC [.ref (3), .int (xs (i + 1)), .int (xs (i + 2)), .int (xs (i + 3)), .int (b2i true), .ref (40)] mf_L_setExit tw_385 (c_L_setExit _ _ (am_tr hC) h n np nq hI.1 hI.2.2 (xs (i + 1)) (xs (i + 2)) (xs (i + 3)) true) rfl ⟨rfl, Nat.le_of_ble_eq_true rfl⟩ ⟨by decide, by decide⟩ (by omega) (by omega) dL_law_310 rfl (fun _ _ q _ => False.elim q) (fun v h1 hp hlc => ?_)
    obtain ⟨rfl, p1, p2⟩ := hp
    obtain ⟨mA, oA, leA⟩ := PO_A hI p1 p2 (fun x h' q => by rw [q.2]; exact am_eq_sI (Or.inr (by omega)))
    have hk14 := FM_14 mA.1.1
    refine am_istore hC dL_law_313 (by decide) ?_
    change am_W _ _ _ _ [.ref (41), .ref (3), .ref (14), .ref (40), .int (nI i), .int (nI (k3 (IX n (xs (i + 1))) (IX 6 (xs (i + 2)) && IX 25 (xs (i + 3))) (decide (chg h (dn (xs (i + 1))) = (xs (i + 2)))))), .null] _ _
    refine am_aload_n hC dL_law_315 rfl ?_
    refine am_aload_n hC dL_law_316 rfl ?_
    refine am_iload hC dL_law_317 rfl ?_
    refine am_iconst (v := nI 1) hC dL_law_319 (by decide) ?_
    refine am_iaddE (z := nI (i + 1)) hC dL_law_320 (nI_add (i) (1)) ?_
    refine am_sld hC hS (j := i + 1) rfl (by omega) dL_law_321 ?_
    refine am_aload_n hC dL_law_322 rfl ?_
    refine am_iload hC dL_law_323 rfl ?_
    refine am_iconst (v := nI 2) hC dL_law_325 (by decide) ?_
    refine am_iaddE (z := nI (i + 2)) hC dL_law_326 (nI_add (i) (2)) ?_
    refine am_sld hC hS (j := i + 2) rfl (by omega) dL_law_327 ?_
    refine am_aload_n hC dL_law_328 rfl ?_
    refine am_iload hC dL_law_329 rfl ?_
    refine am_iconst (v := nI 3) hC dL_law_331 (by decide) ?_
    refine am_iaddE (z := nI (i + 3)) hC dL_law_332 (nI_add (i) (3)) ?_
    refine am_sld hC hS (j := i + 3) rfl (by omega) dL_law_333 ?_
    refine am_aload_n hC dL_law_334 rfl ?_
    refine am_iload hC dL_law_335 rfl ?_
    refine am_iconst (v := nI 4) hC dL_law_337 (by decide) ?_
    refine am_iaddE (z := nI (i + 4)) hC dL_law_338 (nI_add (i) (4)) ?_
    refine am_sld hC hS (j := i + 4) rfl (by omega) dL_law_339 ?_
    refine am_if_eq (tgt := 347) hC dL_law_340 (by decide) (fun c_340 => absurd c_340 c_301) (fun c_340 => ?_)
    refine am_iconst (v := b2i true) hC dL_law_343 (by decide) ?_
    refine am_goto (tgt := 348) hC dL_law_344 (by decide) ?_
    refine am_callV hC (ci := 7) (N := 20) [.int (xs (i + 1)), .int (xs (i + 2)), .int (xs (i + 3)), .int (b2i true)] rfl hk14 rfl mf_X6_setExit tw_735 (c_X6_setExit _ _ (am_tr hC) h1 mA.1.1 n mA.1.2.1 mA.1.2.2.1 (xs (i + 1)) (xs (i + 2)) (xs (i + 3)) true) rfl ⟨rfl, Nat.le_of_ble_eq_true rfl⟩ ⟨by decide, by decide⟩ (by omega) (by omega) dL_law_348 rfl (fun _ _ q _ => False.elim q) (fun v h2 hp hlc => ?_)
    obtain ⟨V, rfl, hm⟩ := hp
    have ⟨hr, hB⟩ := st_setExit hI p1 p2 hm
    have hk14 := FM_14 hr.1
    have hO : OA h2 := hr.2.2.2.1
    refine am_istore hC dL_law_351 (by decide) ?_
    change am_W _ _ _ _ [.ref (41), .ref (3), .ref (14), .ref (40), .int (nI i), .int (nI (k3 (IX n (xs (i + 1))) (IX 6 (xs (i + 2)) && IX 25 (xs (i + 3))) (decide (chg h (dn (xs (i + 1))) = (xs (i + 2)))))), .int (V)] _ _
    refine am_aload_n hC dL_law_353 rfl ?_
    refine am_callV hC (ci := 7) (N := 20) [] rfl hk14 rfl mf_X6_thrown tw_709 (c_X6_thrown _ _ (am_tr hC) h2 hr.1) rfl ⟨rfl, Nat.le_of_ble_eq_true rfl⟩ ⟨by decide, by decide⟩ (by omega) (by omega) dL_law_354 rfl (fun _ _ q _ => False.elim q) (fun v h3 hp hlc => ?_)
    obtain ⟨e3, rfl⟩ := hp
    rw [e3]
    refine am_iload hC dL_law_357 rfl ?_
    refine am_icmp_eq (tgt := 364) hC dL_law_359 (by decide) (fun c_359 => ?_) (fun c_359 => absurd hr.2.1 c_359)
    refine am_iload hC dL_law_364 rfl ?_
    refine am_if_ne (tgt := 388) hC dL_law_366 (by decide) (fun c_366 => ?_) (fun c_366 => ?_)
    · refine am_goto (tgt := 1529) hC dL_law_388 (by decide) ?_
      obtain ⟨n2, np2, nq2, hI2⟩ := hr.2.2.2.2
      refine am_more (kc' := kc + 10) (ks' := ks + 200) (by omega) (by omega) ?_
      exact am_fgt (ls' := [.ref (41), .ref (3), .ref (14), .ref (40), .int (nI i), .null, .null]) ⟨Or.inl rfl, ⟨Or.inl rfl, ⟨Or.inl rfl, ⟨Or.inl rfl, ⟨Or.inl rfl, ⟨Or.inr rfl, ⟨Or.inr rfl, trivial⟩⟩⟩⟩⟩⟩⟩ (hend _ _ _ _ hI2)
    · have hK0 := nI_k3 c_366
      refine am_aload_n hC dL_law_369 rfl ?_
      refine am_iconst (v := nI 0) hC dL_law_370 (by decide) ?_
      refine am_lald hC (j := 0) (N := 1) hO.1 hO.2 rfl (by decide) (by decide) dL_law_371 ?_
      refine am_iload hC dL_law_372 rfl ?_
      refine am_if_eq (tgt := 381) hC dL_law_374 (by decide) (fun c_374 => ?_) (fun c_374 => ?_)
      · refine am_lconst (v := 0) hC dL_law_381 (by decide) ?_
        refine am_lcmp hC dL_law_382 ?_
        refine am_if_eq (tgt := 388) hC dL_law_383 (by decide) (fun c_383 => ?_) (fun c_383 => absurd (lg_eq (lv_0 c_374 (hr.2.2.1 hK0))) c_383)
        refine am_goto (tgt := 1529) hC dL_law_388 (by decide) ?_
        obtain ⟨n2, np2, nq2, hI2⟩ := hr.2.2.2.2
        refine am_more (kc' := kc + 10) (ks' := ks + 200) (by omega) (by omega) ?_
        exact am_fgt (ls' := [.ref (41), .ref (3), .ref (14), .ref (40), .int (nI i), .null, .null]) ⟨Or.inl rfl, ⟨Or.inl rfl, ⟨Or.inl rfl, ⟨Or.inl rfl, ⟨Or.inl rfl, ⟨Or.inr rfl, ⟨Or.inr rfl, trivial⟩⟩⟩⟩⟩⟩⟩ (hend _ _ _ _ hI2)
      · refine am_lconst (v := 1) hC dL_law_377 (by decide) ?_
        refine am_goto (tgt := 382) hC dL_law_378 (by decide) ?_
        refine am_lcmp hC dL_law_382 ?_
        refine am_if_eq (tgt := 388) hC dL_law_383 (by decide) (fun c_383 => ?_) (fun c_383 => absurd (lg_eq (lv_1 c_374 (hB hK0) (hr.2.2.1 hK0))) c_383)
        refine am_goto (tgt := 1529) hC dL_law_388 (by decide) ?_
        obtain ⟨n2, np2, nq2, hI2⟩ := hr.2.2.2.2
        refine am_more (kc' := kc + 10) (ks' := ks + 200) (by omega) (by omega) ?_
        exact am_fgt (ls' := [.ref (41), .ref (3), .ref (14), .ref (40), .int (nI i), .null, .null]) ⟨Or.inl rfl, ⟨Or.inl rfl, ⟨Or.inl rfl, ⟨Or.inl rfl, ⟨Or.inl rfl, ⟨Or.inr rfl, ⟨Or.inr rfl, trivial⟩⟩⟩⟩⟩⟩⟩ (hend _ _ _ _ hI2)
set_option maxRecDepth 100000 in
set_option maxHeartbeats 4000000 in
theorem lc_refer {Z : am_Z} {L : Nat} {xs : Nat → Int32} (hC : am_OK Z "HousePlansLaw" cL_law 7 20 601024 7293033) (hS : SCR Z L xs) (hL : L ≤ 2560) {h : am_H} {n np nq kc ks i : Nat} (hI : INV h n np nq) (hi : i + 5 ≤ L) (hkc : kc + 10 ≤ 601024) (hks : ks + 200 ≤ 7293033) (hend : ∀ (h' : am_H) (n' np' nq' : Nat), INV h' n' np' nq' → am_W Z (kc + 10) (ks + 200) 1529 [.ref (41), .ref (3), .ref (14), .ref (40), .int (nI i), .null, .null] [] h') : am_W Z kc ks 391 [.ref (41), .ref (3), .ref (14), .ref (40), .int (nI i), .null, .null] [] h := by
  refine am_aload_n hC dL_law_391 rfl ?_
  refine am_aload_n hC dL_law_392 rfl ?_
  refine am_iload hC dL_law_393 rfl ?_
  refine am_iconst (v := nI 1) hC dL_law_395 (by decide) ?_
  refine am_iaddE (z := nI (i + 1)) hC dL_law_396 (nI_add (i) (1)) ?_
  refine am_sld hC hS (j := i + 1) rfl (by omega) dL_law_397 ?_
  refine am_aload_n hC dL_law_398 rfl ?_
  refine am_iload hC dL_law_399 rfl ?_
  refine am_iconst (v := nI 2) hC dL_law_401 (by decide) ?_
  refine am_iaddE (z := nI (i + 2)) hC dL_law_402 (nI_add (i) (2)) ?_
  refine am_sld hC hS (j := i + 2) rfl (by omega) dL_law_403 ?_
  refine am_aload_n hC dL_law_404 rfl ?_
  refine am_iload hC dL_law_405 rfl ?_
  refine am_iconst (v := nI 3) hC dL_law_407 (by decide) ?_
  refine am_iaddE (z := nI (i + 3)) hC dL_law_408 (nI_add (i) (3)) ?_
  refine am_sld hC hS (j := i + 3) rfl (by omega) dL_law_409 ?_
  refine am_aload_n hC dL_law_410 rfl ?_
  refine am_iload hC dL_law_411 rfl ?_
  refine am_iconst (v := nI 4) hC dL_law_413 (by decide) ?_
  refine am_iaddE (z := nI (i + 4)) hC dL_law_414 (nI_add (i) (4)) ?_
  refine am_sld hC hS (j := i + 4) rfl (by omega) dL_law_415 ?_
  refine am_if_eq (tgt := 423) hC dL_law_416 (by decide) (fun c_416 => ?_) (fun c_416 => ?_)
  · refine am_iconst (v := b2i false) hC dL_law_423 (by decide) ?_
    refine am_aload_n hC dL_law_424 rfl ?_
    refine am_callSX hC [.ref (3), .int (xs (i + 1)), .int (xs (i + 2)), .int (xs (i + 3)), .int (b2i false), .ref (40)] mf_L_refer tw_396 (c_L_refer _ _ (am_tr hC) h n np nq hI.1 hI.2.2 (xs (i + 1)) (xs (i + 2)) (xs (i + 3)) false) rfl ⟨rfl, Nat.le_of_ble_eq_true rfl⟩ ⟨by decide, by decide⟩ (by omega) (by omega) dL_law_425 rfl (fun _ _ q _ => False.elim q) (fun v h1 hp hlc => ?_)
    obtain ⟨rfl, p1, p2⟩ := hp
    obtain ⟨mA, oA, leA⟩ := PO_A hI p1 p2 (fun x h' q => by rw [q.2]; exact am_eq_sR (Or.inr (by omega)))
    have hk14 := FM_14 mA.1.1
    refine am_istore hC dL_law_428 (by decide) ?_
    change am_W _ _ _ _ [.ref (41), .ref (3), .ref (14), .ref (40), .int (nI i), .int (nI (k3 (IX n (xs (i + 1)) && IX n (xs (i + 3))) (IX 6 (xs (i + 2))) (decide (chg h (dn (xs (i + 1))) = (xs (i + 2))) && !((false) && ldF (rC h) 6 (dn (xs (i + 3))) (dn (xs (i + 1))))))), .null] _ _
    refine am_aload_n hC dL_law_430 rfl ?_
    refine am_aload_n hC dL_law_431 rfl ?_
    refine am_iload hC dL_law_432 rfl ?_
    refine am_iconst (v := nI 1) hC dL_law_434 (by decide) ?_
    refine am_iaddE (z := nI (i + 1)) hC dL_law_435 (nI_add (i) (1)) ?_
    refine am_sld hC hS (j := i + 1) rfl (by omega) dL_law_436 ?_
    refine am_aload_n hC dL_law_437 rfl ?_
    refine am_iload hC dL_law_438 rfl ?_
    refine am_iconst (v := nI 2) hC dL_law_440 (by decide) ?_
    refine am_iaddE (z := nI (i + 2)) hC dL_law_441 (nI_add (i) (2)) ?_
    refine am_sld hC hS (j := i + 2) rfl (by omega) dL_law_442 ?_
    refine am_aload_n hC dL_law_443 rfl ?_
    refine am_iload hC dL_law_444 rfl ?_
    refine am_iconst (v := nI 3) hC dL_law_446 (by decide) ?_
    refine am_iaddE (z := nI (i + 3)) hC dL_law_447 (nI_add (i) (3)) ?_
    refine am_sld hC hS (j := i + 3) rfl (by omega) dL_law_448 ?_
    refine am_aload_n hC dL_law_449 rfl ?_
    refine am_iload hC dL_law_450 rfl ?_
    refine am_iconst (v := nI 4) hC dL_law_452 (by decide) ?_
    refine am_iaddE (z := nI (i + 4)) hC dL_law_453 (nI_add (i) (4)) ?_
    refine am_sld hC hS (j := i + 4) rfl (by omega) dL_law_454 ?_
    refine am_if_eq (tgt := 462) hC dL_law_455 (by decide) (fun c_455 => ?_) (fun c_455 => absurd c_416 c_455)
    refine am_iconst (v := b2i false) hC dL_law_462 (by decide) ?_
    refine am_callV hC (ci := 7) (N := 20) [.int (xs (i + 1)), .int (xs (i + 2)), .int (xs (i + 3)), .int (b2i false)] rfl hk14 rfl mf_X6_refer tw_742 (c_X6_refer _ _ (am_tr hC) h1 n (tC h) (xX h) (rX h) mA.1 (rX_lt mA.1) (xs (i + 1)) (xs (i + 2)) (xs (i + 3)) false) rfl ⟨rfl, Nat.le_of_ble_eq_true rfl⟩ ⟨by decide, by decide⟩ (by omega) (by omega) dL_law_463 rfl (fun _ _ q _ => False.elim q) (fun v h2 hp hlc => ?_)
    obtain ⟨V, rfl, hm⟩ := hp
    have ⟨hr, hB⟩ := st_refer hI p1 p2 hm
    have hk14 := FM_14 hr.1
    have hO : OA h2 := hr.2.2.2.1
    refine am_istore hC dL_law_466 (by decide) ?_
    change am_W _ _ _ _ [.ref (41), .ref (3), .ref (14), .ref (40), .int (nI i), .int (nI (k3 (IX n (xs (i + 1)) && IX n (xs (i + 3))) (IX 6 (xs (i + 2))) (decide (chg h (dn (xs (i + 1))) = (xs (i + 2))) && !((false) && ldF (rC h) 6 (dn (xs (i + 3))) (dn (xs (i + 1))))))), .int (V)] _ _
    refine am_aload_n hC dL_law_468 rfl ?_
    refine am_callV hC (ci := 7) (N := 20) [] rfl hk14 rfl mf_X6_thrown tw_709 (c_X6_thrown _ _ (am_tr hC) h2 hr.1) rfl ⟨rfl, Nat.le_of_ble_eq_true rfl⟩ ⟨by decide, by decide⟩ (by omega) (by omega) dL_law_469 rfl (fun _ _ q _ => False.elim q) (fun v h3 hp hlc => ?_)
    obtain ⟨e3, rfl⟩ := hp
    rw [e3]
    refine am_iload hC dL_law_472 rfl ?_
    refine am_icmp_eq (tgt := 479) hC dL_law_474 (by decide) (fun c_474 => ?_) (fun c_474 => absurd hr.2.1 c_474)
    refine am_iload hC dL_law_479 rfl ?_
    refine am_if_ne (tgt := 503) hC dL_law_481 (by decide) (fun c_481 => ?_) (fun c_481 => ?_)
    · refine am_goto (tgt := 1529) hC dL_law_503 (by decide) ?_
      obtain ⟨n2, np2, nq2, hI2⟩ := hr.2.2.2.2
      refine am_more (kc' := kc + 10) (ks' := ks + 200) (by omega) (by omega) ?_
      exact am_fgt (ls' := [.ref (41), .ref (3), .ref (14), .ref (40), .int (nI i), .null, .null]) ⟨Or.inl rfl, ⟨Or.inl rfl, ⟨Or.inl rfl, ⟨Or.inl rfl, ⟨Or.inl rfl, ⟨Or.inr rfl, ⟨Or.inr rfl, trivial⟩⟩⟩⟩⟩⟩⟩ (hend _ _ _ _ hI2)
    · have hK0 := nI_k3 c_481
      refine am_aload_n hC dL_law_484 rfl ?_
      refine am_iconst (v := nI 0) hC dL_law_485 (by decide) ?_
      refine am_lald hC (j := 0) (N := 1) hO.1 hO.2 rfl (by decide) (by decide) dL_law_486 ?_
      refine am_iload hC dL_law_487 rfl ?_
      refine am_if_eq (tgt := 496) hC dL_law_489 (by decide) (fun c_489 => ?_) (fun c_489 => ?_)
      · refine am_lconst (v := 0) hC dL_law_496 (by decide) ?_
        refine am_lcmp hC dL_law_497 ?_
        refine am_if_eq (tgt := 503) hC dL_law_498 (by decide) (fun c_498 => ?_) (fun c_498 => absurd (lg_eq (lv_0 c_489 (hr.2.2.1 hK0))) c_498)
        refine am_goto (tgt := 1529) hC dL_law_503 (by decide) ?_
        obtain ⟨n2, np2, nq2, hI2⟩ := hr.2.2.2.2
        refine am_more (kc' := kc + 10) (ks' := ks + 200) (by omega) (by omega) ?_
        exact am_fgt (ls' := [.ref (41), .ref (3), .ref (14), .ref (40), .int (nI i), .null, .null]) ⟨Or.inl rfl, ⟨Or.inl rfl, ⟨Or.inl rfl, ⟨Or.inl rfl, ⟨Or.inl rfl, ⟨Or.inr rfl, ⟨Or.inr rfl, trivial⟩⟩⟩⟩⟩⟩⟩ (hend _ _ _ _ hI2)
      · refine am_lconst (v := 1) hC dL_law_492 (by decide) ?_
        refine am_goto (tgt := 497) hC dL_law_493 (by decide) ?_
        refine am_lcmp hC dL_law_497 ?_
        refine am_if_eq (tgt := 503) hC dL_law_498 (by decide) (fun c_498 => ?_) (fun c_498 => absurd (lg_eq (lv_1 c_489 (hB hK0) (hr.2.2.1 hK0))) c_498)
        refine am_goto (tgt := 1529) hC dL_law_503 (by decide) ?_
        obtain ⟨n2, np2, nq2, hI2⟩ := hr.2.2.2.2
        refine am_more (kc' := kc + 10) (ks' := ks + 200) (by omega) (by omega) ?_
        exact am_fgt (ls' := [.ref (41), .ref (3), .ref (14), .ref (40), .int (nI i), .null, .null]) ⟨Or.inl rfl, ⟨Or.inl rfl, ⟨Or.inl rfl, ⟨Or.inl rfl, ⟨Or.inl rfl, ⟨Or.inr rfl, ⟨Or.inr rfl, trivial⟩⟩⟩⟩⟩⟩⟩ (hend _ _ _ _ hI2)
  · refine am_iconst (v := b2i true) hC dL_law_419 (by decide) ?_
    refine am_goto (tgt := 424) hC dL_law_420 (by decide) ?_
    refine am_aload_n hC dL_law_424 rfl ?_
    refine am_callSX hC [.ref (3), .int (xs (i + 1)), .int (xs (i + 2)), .int (xs (i + 3)), .int (b2i true), .ref (40)] mf_L_refer tw_396 (c_L_refer _ _ (am_tr hC) h n np nq hI.1 hI.2.2 (xs (i + 1)) (xs (i + 2)) (xs (i + 3)) true) rfl ⟨rfl, Nat.le_of_ble_eq_true rfl⟩ ⟨by decide, by decide⟩ (by omega) (by omega) dL_law_425 rfl (fun _ _ q _ => False.elim q) (fun v h1 hp hlc => ?_)
    obtain ⟨rfl, p1, p2⟩ := hp
    obtain ⟨mA, oA, leA⟩ := PO_A hI p1 p2 (fun x h' q => by rw [q.2]; exact am_eq_sR (Or.inr (by omega)))
    have hk14 := FM_14 mA.1.1
    refine am_istore hC dL_law_428 (by decide) ?_
    change am_W _ _ _ _ [.ref (41), .ref (3), .ref (14), .ref (40), .int (nI i), .int (nI (k3 (IX n (xs (i + 1)) && IX n (xs (i + 3))) (IX 6 (xs (i + 2))) (decide (chg h (dn (xs (i + 1))) = (xs (i + 2))) && !((true) && ldF (rC h) 6 (dn (xs (i + 3))) (dn (xs (i + 1))))))), .null] _ _
    refine am_aload_n hC dL_law_430 rfl ?_
    refine am_aload_n hC dL_law_431 rfl ?_
    refine am_iload hC dL_law_432 rfl ?_
    refine am_iconst (v := nI 1) hC dL_law_434 (by decide) ?_
    refine am_iaddE (z := nI (i + 1)) hC dL_law_435 (nI_add (i) (1)) ?_
    refine am_sld hC hS (j := i + 1) rfl (by omega) dL_law_436 ?_
    refine am_aload_n hC dL_law_437 rfl ?_
    refine am_iload hC dL_law_438 rfl ?_
    refine am_iconst (v := nI 2) hC dL_law_440 (by decide) ?_
    refine am_iaddE (z := nI (i + 2)) hC dL_law_441 (nI_add (i) (2)) ?_
    refine am_sld hC hS (j := i + 2) rfl (by omega) dL_law_442 ?_
    refine am_aload_n hC dL_law_443 rfl ?_
    refine am_iload hC dL_law_444 rfl ?_
    refine am_iconst (v := nI 3) hC dL_law_446 (by decide) ?_
    refine am_iaddE (z := nI (i + 3)) hC dL_law_447 (nI_add (i) (3)) ?_
    refine am_sld hC hS (j := i + 3) rfl (by omega) dL_law_448 ?_
    refine am_aload_n hC dL_law_449 rfl ?_
    refine am_iload hC dL_law_450 rfl ?_
    refine am_iconst (v := nI 4) hC dL_law_452 (by decide) ?_
    refine am_iaddE (z := nI (i + 4)) hC dL_law_453 (nI_add (i) (4)) ?_
    refine am_sld hC hS (j := i + 4) rfl (by omega) dL_law_454 ?_
    refine am_if_eq (tgt := 462) hC dL_law_455 (by decide) (fun c_455 => absurd c_455 c_416) (fun c_455 => ?_)
    refine am_iconst (v := b2i true) hC dL_law_458 (by decide) ?_
    refine am_goto (tgt := 463) hC dL_law_459 (by decide) ?_
    refine am_callV hC (ci := 7) (N := 20) [.int (xs (i + 1)), .int (xs (i + 2)), .int (xs (i + 3)), .int (b2i true)] rfl hk14 rfl mf_X6_refer tw_742 (c_X6_refer _ _ (am_tr hC) h1 n (tC h) (xX h) (rX h) mA.1 (rX_lt mA.1) (xs (i + 1)) (xs (i + 2)) (xs (i + 3)) true) rfl ⟨rfl, Nat.le_of_ble_eq_true rfl⟩ ⟨by decide, by decide⟩ (by omega) (by omega) dL_law_463 rfl (fun _ _ q _ => False.elim q) (fun v h2 hp hlc => ?_)
    obtain ⟨V, rfl, hm⟩ := hp
    have ⟨hr, hB⟩ := st_refer hI p1 p2 hm
    have hk14 := FM_14 hr.1
    have hO : OA h2 := hr.2.2.2.1
    refine am_istore hC dL_law_466 (by decide) ?_
    change am_W _ _ _ _ [.ref (41), .ref (3), .ref (14), .ref (40), .int (nI i), .int (nI (k3 (IX n (xs (i + 1)) && IX n (xs (i + 3))) (IX 6 (xs (i + 2))) (decide (chg h (dn (xs (i + 1))) = (xs (i + 2))) && !((true) && ldF (rC h) 6 (dn (xs (i + 3))) (dn (xs (i + 1))))))), .int (V)] _ _
    refine am_aload_n hC dL_law_468 rfl ?_
    refine am_callV hC (ci := 7) (N := 20) [] rfl hk14 rfl mf_X6_thrown tw_709 (c_X6_thrown _ _ (am_tr hC) h2 hr.1) rfl ⟨rfl, Nat.le_of_ble_eq_true rfl⟩ ⟨by decide, by decide⟩ (by omega) (by omega) dL_law_469 rfl (fun _ _ q _ => False.elim q) (fun v h3 hp hlc => ?_)
    obtain ⟨e3, rfl⟩ := hp
    rw [e3]
    refine am_iload hC dL_law_472 rfl ?_
    refine am_icmp_eq (tgt := 479) hC dL_law_474 (by decide) (fun c_474 => ?_) (fun c_474 => absurd hr.2.1 c_474)
    refine am_iload hC dL_law_479 rfl ?_
    refine am_if_ne (tgt := 503) hC dL_law_481 (by decide) (fun c_481 => ?_) (fun c_481 => ?_)
    · refine am_goto (tgt := 1529) hC dL_law_503 (by decide) ?_
      obtain ⟨n2, np2, nq2, hI2⟩ := hr.2.2.2.2
      refine am_more (kc' := kc + 10) (ks' := ks + 200) (by omega) (by omega) ?_
      exact am_fgt (ls' := [.ref (41), .ref (3), .ref (14), .ref (40), .int (nI i), .null, .null]) ⟨Or.inl rfl, ⟨Or.inl rfl, ⟨Or.inl rfl, ⟨Or.inl rfl, ⟨Or.inl rfl, ⟨Or.inr rfl, ⟨Or.inr rfl, trivial⟩⟩⟩⟩⟩⟩⟩ (hend _ _ _ _ hI2)
    · have hK0 := nI_k3 c_481
      refine am_aload_n hC dL_law_484 rfl ?_
      refine am_iconst (v := nI 0) hC dL_law_485 (by decide) ?_
      refine am_lald hC (j := 0) (N := 1) hO.1 hO.2 rfl (by decide) (by decide) dL_law_486 ?_
      refine am_iload hC dL_law_487 rfl ?_
      refine am_if_eq (tgt := 496) hC dL_law_489 (by decide) (fun c_489 => ?_) (fun c_489 => ?_)
      · refine am_lconst (v := 0) hC dL_law_496 (by decide) ?_
        refine am_lcmp hC dL_law_497 ?_
        refine am_if_eq (tgt := 503) hC dL_law_498 (by decide) (fun c_498 => ?_) (fun c_498 => absurd (lg_eq (lv_0 c_489 (hr.2.2.1 hK0))) c_498)
        refine am_goto (tgt := 1529) hC dL_law_503 (by decide) ?_
        obtain ⟨n2, np2, nq2, hI2⟩ := hr.2.2.2.2
        refine am_more (kc' := kc + 10) (ks' := ks + 200) (by omega) (by omega) ?_
        exact am_fgt (ls' := [.ref (41), .ref (3), .ref (14), .ref (40), .int (nI i), .null, .null]) ⟨Or.inl rfl, ⟨Or.inl rfl, ⟨Or.inl rfl, ⟨Or.inl rfl, ⟨Or.inl rfl, ⟨Or.inr rfl, ⟨Or.inr rfl, trivial⟩⟩⟩⟩⟩⟩⟩ (hend _ _ _ _ hI2)
      · refine am_lconst (v := 1) hC dL_law_492 (by decide) ?_
        refine am_goto (tgt := 497) hC dL_law_493 (by decide) ?_
        refine am_lcmp hC dL_law_497 ?_
        refine am_if_eq (tgt := 503) hC dL_law_498 (by decide) (fun c_498 => ?_) (fun c_498 => absurd (lg_eq (lv_1 c_489 (hB hK0) (hr.2.2.1 hK0))) c_498)
        refine am_goto (tgt := 1529) hC dL_law_503 (by decide) ?_
        obtain ⟨n2, np2, nq2, hI2⟩ := hr.2.2.2.2
        refine am_more (kc' := kc + 10) (ks' := ks + 200) (by omega) (by omega) ?_
        exact am_fgt (ls' := [.ref (41), .ref (3), .ref (14), .ref (40), .int (nI i), .null, .null]) ⟨Or.inl rfl, ⟨Or.inl rfl, ⟨Or.inl rfl, ⟨Or.inl rfl, ⟨Or.inl rfl, ⟨Or.inr rfl, ⟨Or.inr rfl, trivial⟩⟩⟩⟩⟩⟩⟩ (hend _ _ _ _ hI2)
set_option maxRecDepth 100000 in
set_option maxHeartbeats 4000000 in
theorem lc_drawings {Z : am_Z} {L : Nat} {xs : Nat → Int32} (hC : am_OK Z "HousePlansLaw" cL_law 7 20 601024 7293033) (hS : SCR Z L xs) (hL : L ≤ 2560) {h : am_H} {n np nq kc ks i : Nat} (hI : INV h n np nq) (hi : i + 5 ≤ L) (hkc : kc + 10 ≤ 601024) (hks : ks + 200 ≤ 7293033) (hend : ∀ (h' : am_H) (n' np' nq' : Nat), INV h' n' np' nq' → am_W Z (kc + 10) (ks + 200) 1529 [.ref (41), .ref (3), .ref (14), .ref (40), .int (nI i), .null, .null] [] h') : am_W Z kc ks 506 [.ref (41), .ref (3), .ref (14), .ref (40), .int (nI i), .null, .null] [] h := by
  refine am_aload_n hC dL_law_506 rfl ?_
  refine am_callV hC (ci := 6) (N := 4) [] rfl (FC_3 hI.1) rfl mf_X5_drawings tw_108 (c_X5_drawings _ _ (am_tr hC) h n np nq hI.1) rfl ⟨rfl, Nat.le_of_ble_eq_true rfl⟩ ⟨by decide, by decide⟩ (by omega) (by omega) dL_law_507 rfl (fun _ _ q _ => False.elim q) (fun v h' hp hlc => ?_)
  obtain ⟨rfl, rfl⟩ := hp
  refine am_aload_n hC dL_law_510 rfl ?_
  have hk14 := FM_14 hI.2.1.1.1
  refine am_callV hC (ci := 7) (N := 20) [] rfl hk14 rfl mf_X6_drawings tw_750 (c_X6_drawings _ _ (am_tr hC) h' hI.2.1.1.1 n hI.2.1.1.2.1 hI.2.1.1.2.2.1) rfl ⟨rfl, Nat.le_of_ble_eq_true rfl⟩ ⟨by decide, by decide⟩ (by omega) (by omega) dL_law_511 rfl (fun _ _ q _ => False.elim q) (fun v h2 hp hlc => ?_)
  obtain ⟨e2, rfl⟩ := hp
  have hI2 : INV h2 n np nq := by rw [e2]; exact INV_th hI
  refine am_icmp_eq (tgt := 1529) hC dL_law_514 (by decide) (fun c_514 => ?_) (fun c_514 => absurd rfl c_514)
  exact am_more (by omega) (by omega) (hend _ _ _ _ hI2)
set_option maxRecDepth 100000 in
set_option maxHeartbeats 4000000 in
theorem lc_side {Z : am_Z} {L : Nat} {xs : Nat → Int32} (hC : am_OK Z "HousePlansLaw" cL_law 7 20 601024 7293033) (hS : SCR Z L xs) (hL : L ≤ 2560) {h : am_H} {n np nq kc ks i : Nat} (hI : INV h n np nq) (hi : i + 5 ≤ L) (hkc : kc + 10 ≤ 601024) (hks : ks + 200 ≤ 7293033) (hend : ∀ (h' : am_H) (n' np' nq' : Nat), INV h' n' np' nq' → am_W Z (kc + 10) (ks + 200) 1529 [.ref (41), .ref (3), .ref (14), .ref (40), .int (nI i), .null, .null] [] h') : am_W Z kc ks 519 [.ref (41), .ref (3), .ref (14), .ref (40), .int (nI i), .null, .null] [] h := by
  refine am_aload_n hC dL_law_519 rfl ?_
  refine am_aload_n hC dL_law_520 rfl ?_
  refine am_iload hC dL_law_521 rfl ?_
  refine am_iconst (v := nI 1) hC dL_law_523 (by decide) ?_
  refine am_iaddE (z := nI (i + 1)) hC dL_law_524 (nI_add (i) (1)) ?_
  refine am_sld hC hS (j := i + 1) rfl (by omega) dL_law_525 ?_
  refine am_aload_n hC dL_law_526 rfl ?_
  refine am_iload hC dL_law_527 rfl ?_
  refine am_iconst (v := nI 2) hC dL_law_529 (by decide) ?_
  refine am_iaddE (z := nI (i + 2)) hC dL_law_530 (nI_add (i) (2)) ?_
  refine am_sld hC hS (j := i + 2) rfl (by omega) dL_law_531 ?_
  refine am_aload_n hC dL_law_532 rfl ?_
  refine am_callSX hC [.ref (3), .int (xs (i + 1)), .int (xs (i + 2)), .ref (40)] mf_L_side tw_411 (c_L_side _ _ (am_tr hC) h n np nq hI.1 hI.2.2 (xs (i + 1)) (xs (i + 2))) rfl ⟨rfl, Nat.le_of_ble_eq_true rfl⟩ ⟨by decide, by decide⟩ (by omega) (by omega) dL_law_533 rfl (fun _ _ q _ => False.elim q) (fun v h1 hp hlc => ?_)
  obtain ⟨rfl, p1, p2⟩ := hp
  obtain ⟨mA, oA, leA⟩ := PO_A hI p1 p2 (fun x h' q => by rw [q.2]; exact am_eq_rf _ _)
  have hk14 := FM_14 mA.1.1
  refine am_istore hC dL_law_536 (by decide) ?_
  change am_W _ _ _ _ [.ref (41), .ref (3), .ref (14), .ref (40), .int (nI i), .int (nI (k3 (IX n (xs (i + 1))) (IX 40 (xs (i + 2))) true)), .null] _ _
  refine am_aload_n hC dL_law_538 rfl ?_
  refine am_aload_n hC dL_law_539 rfl ?_
  refine am_iload hC dL_law_540 rfl ?_
  refine am_iconst (v := nI 1) hC dL_law_542 (by decide) ?_
  refine am_iaddE (z := nI (i + 1)) hC dL_law_543 (nI_add (i) (1)) ?_
  refine am_sld hC hS (j := i + 1) rfl (by omega) dL_law_544 ?_
  refine am_aload_n hC dL_law_545 rfl ?_
  refine am_iload hC dL_law_546 rfl ?_
  refine am_iconst (v := nI 2) hC dL_law_548 (by decide) ?_
  refine am_iaddE (z := nI (i + 2)) hC dL_law_549 (nI_add (i) (2)) ?_
  refine am_sld hC hS (j := i + 2) rfl (by omega) dL_law_550 ?_
  refine am_callV hC (ci := 7) (N := 20) [.int (xs (i + 1)), .int (xs (i + 2))] rfl hk14 rfl mf_X6_side tw_754 (c_X6_side _ _ (am_tr hC) h1 n (tC h) (xX h) (rX h) mA.1 (xs (i + 1)) (xs (i + 2))) rfl ⟨rfl, Nat.le_of_ble_eq_true rfl⟩ ⟨by decide, by decide⟩ (by omega) (by omega) dL_law_551 rfl (fun _ _ q _ => False.elim q) (fun v h2 hp hlc => ?_)
  obtain ⟨V, rfl, hm⟩ := hp
  have hr := st_side hI p1 p2 hm
  have hk14 := FM_14 hr.1
  have hO : OA h2 := hr.2.2.2.1
  refine am_istore hC dL_law_554 (by decide) ?_
  change am_W _ _ _ _ [.ref (41), .ref (3), .ref (14), .ref (40), .int (nI i), .int (nI (k3 (IX n (xs (i + 1))) (IX 40 (xs (i + 2))) true)), .int (V)] _ _
  refine am_aload_n hC dL_law_556 rfl ?_
  refine am_callV hC (ci := 7) (N := 20) [] rfl hk14 rfl mf_X6_thrown tw_709 (c_X6_thrown _ _ (am_tr hC) h2 hr.1) rfl ⟨rfl, Nat.le_of_ble_eq_true rfl⟩ ⟨by decide, by decide⟩ (by omega) (by omega) dL_law_557 rfl (fun _ _ q _ => False.elim q) (fun v h3 hp hlc => ?_)
  obtain ⟨e3, rfl⟩ := hp
  rw [e3]
  refine am_iload hC dL_law_560 rfl ?_
  refine am_icmp_eq (tgt := 567) hC dL_law_562 (by decide) (fun c_562 => ?_) (fun c_562 => absurd hr.2.1 c_562)
  refine am_iload hC dL_law_567 rfl ?_
  refine am_if_ne (tgt := 584) hC dL_law_569 (by decide) (fun c_569 => ?_) (fun c_569 => ?_)
  · refine am_goto (tgt := 1529) hC dL_law_584 (by decide) ?_
    obtain ⟨n2, np2, nq2, hI2⟩ := hr.2.2.2.2
    refine am_more (kc' := kc + 10) (ks' := ks + 200) (by omega) (by omega) ?_
    exact am_fgt (ls' := [.ref (41), .ref (3), .ref (14), .ref (40), .int (nI i), .null, .null]) ⟨Or.inl rfl, ⟨Or.inl rfl, ⟨Or.inl rfl, ⟨Or.inl rfl, ⟨Or.inl rfl, ⟨Or.inr rfl, ⟨Or.inr rfl, trivial⟩⟩⟩⟩⟩⟩⟩ (hend _ _ _ _ hI2)
  · have hK0 := nI_k3 c_569
    refine am_aload_n hC dL_law_572 rfl ?_
    refine am_iconst (v := nI 0) hC dL_law_573 (by decide) ?_
    refine am_lald hC (j := 0) (N := 1) hO.1 hO.2 rfl (by decide) (by decide) dL_law_574 ?_
    refine am_iload hC dL_law_575 rfl ?_
    refine am_i2l hC dL_law_577 ?_
    refine am_lcmp hC dL_law_578 ?_
    refine am_if_eq (tgt := 584) hC dL_law_579 (by decide) (fun c_579 => ?_) (fun c_579 => absurd (lg_eq (hr.2.2.1 hK0)) c_579)
    refine am_goto (tgt := 1529) hC dL_law_584 (by decide) ?_
    obtain ⟨n2, np2, nq2, hI2⟩ := hr.2.2.2.2
    refine am_more (kc' := kc + 10) (ks' := ks + 200) (by omega) (by omega) ?_
    exact am_fgt (ls' := [.ref (41), .ref (3), .ref (14), .ref (40), .int (nI i), .null, .null]) ⟨Or.inl rfl, ⟨Or.inl rfl, ⟨Or.inl rfl, ⟨Or.inl rfl, ⟨Or.inl rfl, ⟨Or.inr rfl, ⟨Or.inr rfl, trivial⟩⟩⟩⟩⟩⟩⟩ (hend _ _ _ _ hI2)
set_option maxRecDepth 100000 in
set_option maxHeartbeats 4000000 in
theorem lc_hasExit {Z : am_Z} {L : Nat} {xs : Nat → Int32} (hC : am_OK Z "HousePlansLaw" cL_law 7 20 601024 7293033) (hS : SCR Z L xs) (hL : L ≤ 2560) {h : am_H} {n np nq kc ks i : Nat} (hI : INV h n np nq) (hi : i + 5 ≤ L) (hkc : kc + 10 ≤ 601024) (hks : ks + 200 ≤ 7293033) (hend : ∀ (h' : am_H) (n' np' nq' : Nat), INV h' n' np' nq' → am_W Z (kc + 10) (ks + 200) 1529 [.ref (41), .ref (3), .ref (14), .ref (40), .int (nI i), .null, .null] [] h') : am_W Z kc ks 587 [.ref (41), .ref (3), .ref (14), .ref (40), .int (nI i), .null, .null] [] h := by
  refine am_aload_n hC dL_law_587 rfl ?_
  refine am_aload_n hC dL_law_588 rfl ?_
  refine am_iload hC dL_law_589 rfl ?_
  refine am_iconst (v := nI 1) hC dL_law_591 (by decide) ?_
  refine am_iaddE (z := nI (i + 1)) hC dL_law_592 (nI_add (i) (1)) ?_
  refine am_sld hC hS (j := i + 1) rfl (by omega) dL_law_593 ?_
  refine am_aload_n hC dL_law_594 rfl ?_
  refine am_iload hC dL_law_595 rfl ?_
  refine am_iconst (v := nI 2) hC dL_law_597 (by decide) ?_
  refine am_iaddE (z := nI (i + 2)) hC dL_law_598 (nI_add (i) (2)) ?_
  refine am_sld hC hS (j := i + 2) rfl (by omega) dL_law_599 ?_
  refine am_aload_n hC dL_law_600 rfl ?_
  refine am_callSX hC [.ref (3), .int (xs (i + 1)), .int (xs (i + 2)), .ref (40)] mf_L_hasExit tw_419 (c_L_hasExit _ _ (am_tr hC) h n np nq hI.1 hI.2.2 (xs (i + 1)) (xs (i + 2))) rfl ⟨rfl, Nat.le_of_ble_eq_true rfl⟩ ⟨by decide, by decide⟩ (by omega) (by omega) dL_law_601 rfl (fun _ _ q _ => False.elim q) (fun v h1 hp hlc => ?_)
  obtain ⟨rfl, p1, p2⟩ := hp
  obtain ⟨mA, oA, leA⟩ := PO_A hI p1 p2 (fun x h' q => by rw [q.2]; exact am_eq_rf _ _)
  have hk14 := FM_14 mA.1.1
  refine am_istore hC dL_law_604 (by decide) ?_
  change am_W _ _ _ _ [.ref (41), .ref (3), .ref (14), .ref (40), .int (nI i), .int (nI (k3 (IX n (xs (i + 1))) (IX 25 (xs (i + 2))) true)), .null] _ _
  refine am_aload_n hC dL_law_606 rfl ?_
  refine am_aload_n hC dL_law_607 rfl ?_
  refine am_iload hC dL_law_608 rfl ?_
  refine am_iconst (v := nI 1) hC dL_law_610 (by decide) ?_
  refine am_iaddE (z := nI (i + 1)) hC dL_law_611 (nI_add (i) (1)) ?_
  refine am_sld hC hS (j := i + 1) rfl (by omega) dL_law_612 ?_
  refine am_aload_n hC dL_law_613 rfl ?_
  refine am_iload hC dL_law_614 rfl ?_
  refine am_iconst (v := nI 2) hC dL_law_616 (by decide) ?_
  refine am_iaddE (z := nI (i + 2)) hC dL_law_617 (nI_add (i) (2)) ?_
  refine am_sld hC hS (j := i + 2) rfl (by omega) dL_law_618 ?_
  refine am_callV hC (ci := 7) (N := 20) [.int (xs (i + 1)), .int (xs (i + 2))] rfl hk14 rfl mf_X6_hasExit tw_766 (c_X6_hasExit _ _ (am_tr hC) h1 n (tC h) (xX h) (rX h) mA.1 (xs (i + 1)) (xs (i + 2))) rfl ⟨rfl, Nat.le_of_ble_eq_true rfl⟩ ⟨by decide, by decide⟩ (by omega) (by omega) dL_law_619 rfl (fun _ _ q _ => False.elim q) (fun v h2 hp hlc => ?_)
  obtain ⟨V, rfl, hm⟩ := hp
  have ⟨hr, hB⟩ := st_hasExit hI p1 p2 hm
  have hk14 := FM_14 hr.1
  have hO : OA h2 := hr.2.2.2.1
  refine am_istore hC dL_law_622 (by decide) ?_
  change am_W _ _ _ _ [.ref (41), .ref (3), .ref (14), .ref (40), .int (nI i), .int (nI (k3 (IX n (xs (i + 1))) (IX 25 (xs (i + 2))) true)), .int (V)] _ _
  refine am_aload_n hC dL_law_624 rfl ?_
  refine am_callV hC (ci := 7) (N := 20) [] rfl hk14 rfl mf_X6_thrown tw_709 (c_X6_thrown _ _ (am_tr hC) h2 hr.1) rfl ⟨rfl, Nat.le_of_ble_eq_true rfl⟩ ⟨by decide, by decide⟩ (by omega) (by omega) dL_law_625 rfl (fun _ _ q _ => False.elim q) (fun v h3 hp hlc => ?_)
  obtain ⟨e3, rfl⟩ := hp
  rw [e3]
  refine am_iload hC dL_law_628 rfl ?_
  refine am_icmp_eq (tgt := 635) hC dL_law_630 (by decide) (fun c_630 => ?_) (fun c_630 => absurd hr.2.1 c_630)
  refine am_iload hC dL_law_635 rfl ?_
  refine am_if_ne (tgt := 659) hC dL_law_637 (by decide) (fun c_637 => ?_) (fun c_637 => ?_)
  · refine am_goto (tgt := 1529) hC dL_law_659 (by decide) ?_
    obtain ⟨n2, np2, nq2, hI2⟩ := hr.2.2.2.2
    refine am_more (kc' := kc + 10) (ks' := ks + 200) (by omega) (by omega) ?_
    exact am_fgt (ls' := [.ref (41), .ref (3), .ref (14), .ref (40), .int (nI i), .null, .null]) ⟨Or.inl rfl, ⟨Or.inl rfl, ⟨Or.inl rfl, ⟨Or.inl rfl, ⟨Or.inl rfl, ⟨Or.inr rfl, ⟨Or.inr rfl, trivial⟩⟩⟩⟩⟩⟩⟩ (hend _ _ _ _ hI2)
  · have hK0 := nI_k3 c_637
    refine am_aload_n hC dL_law_640 rfl ?_
    refine am_iconst (v := nI 0) hC dL_law_641 (by decide) ?_
    refine am_lald hC (j := 0) (N := 1) hO.1 hO.2 rfl (by decide) (by decide) dL_law_642 ?_
    refine am_iload hC dL_law_643 rfl ?_
    refine am_if_eq (tgt := 652) hC dL_law_645 (by decide) (fun c_645 => ?_) (fun c_645 => ?_)
    · refine am_lconst (v := 0) hC dL_law_652 (by decide) ?_
      refine am_lcmp hC dL_law_653 ?_
      refine am_if_eq (tgt := 659) hC dL_law_654 (by decide) (fun c_654 => ?_) (fun c_654 => absurd (lg_eq (lv_0 c_645 (hr.2.2.1 hK0))) c_654)
      refine am_goto (tgt := 1529) hC dL_law_659 (by decide) ?_
      obtain ⟨n2, np2, nq2, hI2⟩ := hr.2.2.2.2
      refine am_more (kc' := kc + 10) (ks' := ks + 200) (by omega) (by omega) ?_
      exact am_fgt (ls' := [.ref (41), .ref (3), .ref (14), .ref (40), .int (nI i), .null, .null]) ⟨Or.inl rfl, ⟨Or.inl rfl, ⟨Or.inl rfl, ⟨Or.inl rfl, ⟨Or.inl rfl, ⟨Or.inr rfl, ⟨Or.inr rfl, trivial⟩⟩⟩⟩⟩⟩⟩ (hend _ _ _ _ hI2)
    · refine am_lconst (v := 1) hC dL_law_648 (by decide) ?_
      refine am_goto (tgt := 653) hC dL_law_649 (by decide) ?_
      refine am_lcmp hC dL_law_653 ?_
      refine am_if_eq (tgt := 659) hC dL_law_654 (by decide) (fun c_654 => ?_) (fun c_654 => absurd (lg_eq (lv_1 c_645 (hB hK0) (hr.2.2.1 hK0))) c_654)
      refine am_goto (tgt := 1529) hC dL_law_659 (by decide) ?_
      obtain ⟨n2, np2, nq2, hI2⟩ := hr.2.2.2.2
      refine am_more (kc' := kc + 10) (ks' := ks + 200) (by omega) (by omega) ?_
      exact am_fgt (ls' := [.ref (41), .ref (3), .ref (14), .ref (40), .int (nI i), .null, .null]) ⟨Or.inl rfl, ⟨Or.inl rfl, ⟨Or.inl rfl, ⟨Or.inl rfl, ⟨Or.inl rfl, ⟨Or.inr rfl, ⟨Or.inr rfl, trivial⟩⟩⟩⟩⟩⟩⟩ (hend _ _ _ _ hI2)
set_option maxRecDepth 100000 in
set_option maxHeartbeats 4000000 in
theorem lc_rooms {Z : am_Z} {L : Nat} {xs : Nat → Int32} (hC : am_OK Z "HousePlansLaw" cL_law 7 20 601024 7293033) (hS : SCR Z L xs) (hL : L ≤ 2560) {h : am_H} {n np nq kc ks i : Nat} (hI : INV h n np nq) (hi : i + 5 ≤ L) (hkc : kc + 10 ≤ 601024) (hks : ks + 200 ≤ 7293033) (hend : ∀ (h' : am_H) (n' np' nq' : Nat), INV h' n' np' nq' → am_W Z (kc + 10) (ks + 200) 1529 [.ref (41), .ref (3), .ref (14), .ref (40), .int (nI i), .null, .null] [] h') : am_W Z kc ks 662 [.ref (41), .ref (3), .ref (14), .ref (40), .int (nI i), .null, .null] [] h := by
  refine am_aload_n hC dL_law_662 rfl ?_
  refine am_aload_n hC dL_law_663 rfl ?_
  refine am_iload hC dL_law_664 rfl ?_
  refine am_iconst (v := nI 1) hC dL_law_666 (by decide) ?_
  refine am_iaddE (z := nI (i + 1)) hC dL_law_667 (nI_add (i) (1)) ?_
  refine am_sld hC hS (j := i + 1) rfl (by omega) dL_law_668 ?_
  refine am_aload_n hC dL_law_669 rfl ?_
  refine am_callSX hC [.ref (3), .int (xs (i + 1)), .ref (40)] mf_L_rooms tw_427 (c_L_rooms _ _ (am_tr hC) h n np nq hI.1 hI.2.2 (xs (i + 1))) rfl ⟨rfl, Nat.le_of_ble_eq_true rfl⟩ ⟨by decide, by decide⟩ (by omega) (by omega) dL_law_670 rfl (fun _ _ q _ => False.elim q) (fun v h1 hp hlc => ?_)
  obtain ⟨rfl, p1, p2⟩ := hp
  obtain ⟨mA, oA, leA⟩ := PO_A hI p1 p2 (fun x h' q => FS_SC q.1)
  have hk14 := FM_14 mA.1.1
  refine am_istore hC dL_law_673 (by decide) ?_
  change am_W _ _ _ _ [.ref (41), .ref (3), .ref (14), .ref (40), .int (nI i), .int (nI (k3 (IX n (xs (i + 1))) true true)), .null] _ _
  refine am_aload_n hC dL_law_675 rfl ?_
  refine am_aload_n hC dL_law_676 rfl ?_
  refine am_iload hC dL_law_677 rfl ?_
  refine am_iconst (v := nI 1) hC dL_law_679 (by decide) ?_
  refine am_iaddE (z := nI (i + 1)) hC dL_law_680 (nI_add (i) (1)) ?_
  refine am_sld hC hS (j := i + 1) rfl (by omega) dL_law_681 ?_
  refine am_callV hC (ci := 7) (N := 20) [.int (xs (i + 1))] rfl hk14 rfl mf_X6_rooms tw_784 (c_X6_rooms _ _ (am_tr hC) h1 n (tC h) (xX h) (rX h) mA.1 (xs (i + 1))) rfl ⟨rfl, Nat.le_of_ble_eq_true rfl⟩ ⟨by decide, by decide⟩ (by omega) (by omega) dL_law_682 rfl (fun _ _ q _ => False.elim q) (fun v h2 hp hlc => ?_)
  obtain ⟨V, rfl, hm⟩ := hp
  have hr := st_rooms hI p1 p2 hm
  have hk14 := FM_14 hr.1
  have hO : OA h2 := hr.2.2.2.1
  refine am_istore hC dL_law_685 (by decide) ?_
  change am_W _ _ _ _ [.ref (41), .ref (3), .ref (14), .ref (40), .int (nI i), .int (nI (k3 (IX n (xs (i + 1))) true true)), .int (V)] _ _
  refine am_aload_n hC dL_law_687 rfl ?_
  refine am_callV hC (ci := 7) (N := 20) [] rfl hk14 rfl mf_X6_thrown tw_709 (c_X6_thrown _ _ (am_tr hC) h2 hr.1) rfl ⟨rfl, Nat.le_of_ble_eq_true rfl⟩ ⟨by decide, by decide⟩ (by omega) (by omega) dL_law_688 rfl (fun _ _ q _ => False.elim q) (fun v h3 hp hlc => ?_)
  obtain ⟨e3, rfl⟩ := hp
  rw [e3]
  refine am_iload hC dL_law_691 rfl ?_
  refine am_icmp_eq (tgt := 698) hC dL_law_693 (by decide) (fun c_693 => ?_) (fun c_693 => absurd hr.2.1 c_693)
  refine am_iload hC dL_law_698 rfl ?_
  refine am_if_ne (tgt := 715) hC dL_law_700 (by decide) (fun c_700 => ?_) (fun c_700 => ?_)
  · refine am_goto (tgt := 1529) hC dL_law_715 (by decide) ?_
    obtain ⟨n2, np2, nq2, hI2⟩ := hr.2.2.2.2
    refine am_more (kc' := kc + 10) (ks' := ks + 200) (by omega) (by omega) ?_
    exact am_fgt (ls' := [.ref (41), .ref (3), .ref (14), .ref (40), .int (nI i), .null, .null]) ⟨Or.inl rfl, ⟨Or.inl rfl, ⟨Or.inl rfl, ⟨Or.inl rfl, ⟨Or.inl rfl, ⟨Or.inr rfl, ⟨Or.inr rfl, trivial⟩⟩⟩⟩⟩⟩⟩ (hend _ _ _ _ hI2)
  · have hK0 := nI_k3 c_700
    refine am_aload_n hC dL_law_703 rfl ?_
    refine am_iconst (v := nI 0) hC dL_law_704 (by decide) ?_
    refine am_lald hC (j := 0) (N := 1) hO.1 hO.2 rfl (by decide) (by decide) dL_law_705 ?_
    refine am_iload hC dL_law_706 rfl ?_
    refine am_i2l hC dL_law_708 ?_
    refine am_lcmp hC dL_law_709 ?_
    refine am_if_eq (tgt := 715) hC dL_law_710 (by decide) (fun c_710 => ?_) (fun c_710 => absurd (lg_eq (hr.2.2.1 hK0)) c_710)
    refine am_goto (tgt := 1529) hC dL_law_715 (by decide) ?_
    obtain ⟨n2, np2, nq2, hI2⟩ := hr.2.2.2.2
    refine am_more (kc' := kc + 10) (ks' := ks + 200) (by omega) (by omega) ?_
    exact am_fgt (ls' := [.ref (41), .ref (3), .ref (14), .ref (40), .int (nI i), .null, .null]) ⟨Or.inl rfl, ⟨Or.inl rfl, ⟨Or.inl rfl, ⟨Or.inl rfl, ⟨Or.inl rfl, ⟨Or.inr rfl, ⟨Or.inr rfl, trivial⟩⟩⟩⟩⟩⟩⟩ (hend _ _ _ _ hI2)
set_option maxRecDepth 100000 in
set_option maxHeartbeats 4000000 in
theorem lc_room {Z : am_Z} {L : Nat} {xs : Nat → Int32} (hC : am_OK Z "HousePlansLaw" cL_law 7 20 601024 7293033) (hS : SCR Z L xs) (hL : L ≤ 2560) {h : am_H} {n np nq kc ks i : Nat} (hI : INV h n np nq) (hi : i + 5 ≤ L) (hkc : kc + 10 ≤ 601024) (hks : ks + 200 ≤ 7293033) (hend : ∀ (h' : am_H) (n' np' nq' : Nat), INV h' n' np' nq' → am_W Z (kc + 10) (ks + 200) 1529 [.ref (41), .ref (3), .ref (14), .ref (40), .int (nI i), .null, .null] [] h') : am_W Z kc ks 718 [.ref (41), .ref (3), .ref (14), .ref (40), .int (nI i), .null, .null] [] h := by
  refine am_aload_n hC dL_law_718 rfl ?_
  refine am_aload_n hC dL_law_719 rfl ?_
  refine am_iload hC dL_law_720 rfl ?_
  refine am_iconst (v := nI 1) hC dL_law_722 (by decide) ?_
  refine am_iaddE (z := nI (i + 1)) hC dL_law_723 (nI_add (i) (1)) ?_
  refine am_sld hC hS (j := i + 1) rfl (by omega) dL_law_724 ?_
  refine am_aload_n hC dL_law_725 rfl ?_
  refine am_iload hC dL_law_726 rfl ?_
  refine am_iconst (v := nI 2) hC dL_law_728 (by decide) ?_
  refine am_iaddE (z := nI (i + 2)) hC dL_law_729 (nI_add (i) (2)) ?_
  refine am_sld hC hS (j := i + 2) rfl (by omega) dL_law_730 ?_
  refine am_aload_n hC dL_law_731 rfl ?_
  refine am_callSX hC [.ref (3), .int (xs (i + 1)), .int (xs (i + 2)), .ref (40)] mf_L_room tw_475 (c_L_room _ _ (am_tr hC) h n np nq hI.1 hI.2.2 (xs (i + 1)) (xs (i + 2))) rfl ⟨rfl, Nat.le_of_ble_eq_true rfl⟩ ⟨by decide, by decide⟩ (by omega) (by omega) dL_law_732 rfl (fun _ _ q _ => False.elim q) (fun v h1 hp hlc => ?_)
  obtain ⟨rfl, p1, p2⟩ := hp
  obtain ⟨mA, oA, leA⟩ := PO_A hI p1 p2 (fun x h' q => FS_SC q.1)
  have hk14 := FM_14 mA.1.1
  refine am_istore hC dL_law_735 (by decide) ?_
  change am_W _ _ _ _ [.ref (41), .ref (3), .ref (14), .ref (40), .int (nI i), .int (nI (k3 (IX n (xs (i + 1))) (IX 25 (xs (i + 2))) true)), .null] _ _
  refine am_aload_n hC dL_law_737 rfl ?_
  refine am_aload_n hC dL_law_738 rfl ?_
  refine am_iload hC dL_law_739 rfl ?_
  refine am_iconst (v := nI 1) hC dL_law_741 (by decide) ?_
  refine am_iaddE (z := nI (i + 1)) hC dL_law_742 (nI_add (i) (1)) ?_
  refine am_sld hC hS (j := i + 1) rfl (by omega) dL_law_743 ?_
  refine am_aload_n hC dL_law_744 rfl ?_
  refine am_iload hC dL_law_745 rfl ?_
  refine am_iconst (v := nI 2) hC dL_law_747 (by decide) ?_
  refine am_iaddE (z := nI (i + 2)) hC dL_law_748 (nI_add (i) (2)) ?_
  refine am_sld hC hS (j := i + 2) rfl (by omega) dL_law_749 ?_
  refine am_callV hC (ci := 7) (N := 20) [.int (xs (i + 1)), .int (xs (i + 2))] rfl hk14 rfl mf_X6_room tw_788 (c_X6_room _ _ (am_tr hC) h1 n (tC h) (xX h) (rX h) mA.1 (xs (i + 1)) (xs (i + 2))) rfl ⟨rfl, Nat.le_of_ble_eq_true rfl⟩ ⟨by decide, by decide⟩ (by omega) (by omega) dL_law_750 rfl (fun _ _ q _ => False.elim q) (fun v h2 hp hlc => ?_)
  obtain ⟨V, rfl, hm⟩ := hp
  have hr := st_room hI p1 p2 hm
  have hk14 := FM_14 hr.1
  have hO : OA h2 := hr.2.2.2.1
  refine am_istore hC dL_law_753 (by decide) ?_
  change am_W _ _ _ _ [.ref (41), .ref (3), .ref (14), .ref (40), .int (nI i), .int (nI (k3 (IX n (xs (i + 1))) (IX 25 (xs (i + 2))) true)), .int (V)] _ _
  refine am_aload_n hC dL_law_755 rfl ?_
  refine am_callV hC (ci := 7) (N := 20) [] rfl hk14 rfl mf_X6_thrown tw_709 (c_X6_thrown _ _ (am_tr hC) h2 hr.1) rfl ⟨rfl, Nat.le_of_ble_eq_true rfl⟩ ⟨by decide, by decide⟩ (by omega) (by omega) dL_law_756 rfl (fun _ _ q _ => False.elim q) (fun v h3 hp hlc => ?_)
  obtain ⟨e3, rfl⟩ := hp
  rw [e3]
  refine am_iload hC dL_law_759 rfl ?_
  refine am_icmp_eq (tgt := 766) hC dL_law_761 (by decide) (fun c_761 => ?_) (fun c_761 => absurd hr.2.1 c_761)
  refine am_iload hC dL_law_766 rfl ?_
  refine am_if_ne (tgt := 783) hC dL_law_768 (by decide) (fun c_768 => ?_) (fun c_768 => ?_)
  · refine am_goto (tgt := 1529) hC dL_law_783 (by decide) ?_
    obtain ⟨n2, np2, nq2, hI2⟩ := hr.2.2.2.2
    refine am_more (kc' := kc + 10) (ks' := ks + 200) (by omega) (by omega) ?_
    exact am_fgt (ls' := [.ref (41), .ref (3), .ref (14), .ref (40), .int (nI i), .null, .null]) ⟨Or.inl rfl, ⟨Or.inl rfl, ⟨Or.inl rfl, ⟨Or.inl rfl, ⟨Or.inl rfl, ⟨Or.inr rfl, ⟨Or.inr rfl, trivial⟩⟩⟩⟩⟩⟩⟩ (hend _ _ _ _ hI2)
  · have hK0 := nI_k3 c_768
    refine am_aload_n hC dL_law_771 rfl ?_
    refine am_iconst (v := nI 0) hC dL_law_772 (by decide) ?_
    refine am_lald hC (j := 0) (N := 1) hO.1 hO.2 rfl (by decide) (by decide) dL_law_773 ?_
    refine am_iload hC dL_law_774 rfl ?_
    refine am_i2l hC dL_law_776 ?_
    refine am_lcmp hC dL_law_777 ?_
    refine am_if_eq (tgt := 783) hC dL_law_778 (by decide) (fun c_778 => ?_) (fun c_778 => absurd (lg_eq (hr.2.2.1 hK0)) c_778)
    refine am_goto (tgt := 1529) hC dL_law_783 (by decide) ?_
    obtain ⟨n2, np2, nq2, hI2⟩ := hr.2.2.2.2
    refine am_more (kc' := kc + 10) (ks' := ks + 200) (by omega) (by omega) ?_
    exact am_fgt (ls' := [.ref (41), .ref (3), .ref (14), .ref (40), .int (nI i), .null, .null]) ⟨Or.inl rfl, ⟨Or.inl rfl, ⟨Or.inl rfl, ⟨Or.inl rfl, ⟨Or.inl rfl, ⟨Or.inr rfl, ⟨Or.inr rfl, trivial⟩⟩⟩⟩⟩⟩⟩ (hend _ _ _ _ hI2)
set_option maxRecDepth 100000 in
set_option maxHeartbeats 4000000 in
theorem lc_size {Z : am_Z} {L : Nat} {xs : Nat → Int32} (hC : am_OK Z "HousePlansLaw" cL_law 7 20 601024 7293033) (hS : SCR Z L xs) (hL : L ≤ 2560) {h : am_H} {n np nq kc ks i : Nat} (hI : INV h n np nq) (hi : i + 5 ≤ L) (hkc : kc + 10 ≤ 601024) (hks : ks + 200 ≤ 7293033) (hend : ∀ (h' : am_H) (n' np' nq' : Nat), INV h' n' np' nq' → am_W Z (kc + 10) (ks + 200) 1529 [.ref (41), .ref (3), .ref (14), .ref (40), .int (nI i), .null, .null] [] h') : am_W Z kc ks 786 [.ref (41), .ref (3), .ref (14), .ref (40), .int (nI i), .null, .null] [] h := by
  refine am_aload_n hC dL_law_786 rfl ?_
  refine am_aload_n hC dL_law_787 rfl ?_
  refine am_iload hC dL_law_788 rfl ?_
  refine am_iconst (v := nI 1) hC dL_law_790 (by decide) ?_
  refine am_iaddE (z := nI (i + 1)) hC dL_law_791 (nI_add (i) (1)) ?_
  refine am_sld hC hS (j := i + 1) rfl (by omega) dL_law_792 ?_
  refine am_aload_n hC dL_law_793 rfl ?_
  refine am_iload hC dL_law_794 rfl ?_
  refine am_iconst (v := nI 2) hC dL_law_796 (by decide) ?_
  refine am_iaddE (z := nI (i + 2)) hC dL_law_797 (nI_add (i) (2)) ?_
  refine am_sld hC hS (j := i + 2) rfl (by omega) dL_law_798 ?_
  refine am_aload_n hC dL_law_799 rfl ?_
  refine am_callSX hC [.ref (3), .int (xs (i + 1)), .int (xs (i + 2)), .ref (40)] mf_L_size tw_482 (c_L_size _ _ (am_tr hC) h n np nq hI.1 hI.2.2 (xs (i + 1)) (xs (i + 2))) rfl ⟨rfl, Nat.le_of_ble_eq_true rfl⟩ ⟨by decide, by decide⟩ (by omega) (by omega) dL_law_800 rfl (fun _ _ q _ => False.elim q) (fun v h1 hp hlc => ?_)
  obtain ⟨rfl, p1, p2⟩ := hp
  obtain ⟨mA, oA, leA⟩ := PO_A hI p1 p2 (fun x h' q => FS_SC q.1)
  have hk14 := FM_14 mA.1.1
  refine am_istore hC dL_law_803 (by decide) ?_
  change am_W _ _ _ _ [.ref (41), .ref (3), .ref (14), .ref (40), .int (nI i), .int (nI (k3 (IX n (xs (i + 1))) (IX 25 (xs (i + 2))) true)), .null] _ _
  refine am_aload_n hC dL_law_805 rfl ?_
  refine am_aload_n hC dL_law_806 rfl ?_
  refine am_iload hC dL_law_807 rfl ?_
  refine am_iconst (v := nI 1) hC dL_law_809 (by decide) ?_
  refine am_iaddE (z := nI (i + 1)) hC dL_law_810 (nI_add (i) (1)) ?_
  refine am_sld hC hS (j := i + 1) rfl (by omega) dL_law_811 ?_
  refine am_aload_n hC dL_law_812 rfl ?_
  refine am_iload hC dL_law_813 rfl ?_
  refine am_iconst (v := nI 2) hC dL_law_815 (by decide) ?_
  refine am_iaddE (z := nI (i + 2)) hC dL_law_816 (nI_add (i) (2)) ?_
  refine am_sld hC hS (j := i + 2) rfl (by omega) dL_law_817 ?_
  refine am_callV hC (ci := 7) (N := 20) [.int (xs (i + 1)), .int (xs (i + 2))] rfl hk14 rfl mf_X6_size tw_792 (c_X6_size _ _ (am_tr hC) h1 n (tC h) (xX h) (rX h) mA.1 (xs (i + 1)) (xs (i + 2))) rfl ⟨rfl, Nat.le_of_ble_eq_true rfl⟩ ⟨by decide, by decide⟩ (by omega) (by omega) dL_law_818 rfl (fun _ _ q _ => False.elim q) (fun v h2 hp hlc => ?_)
  obtain ⟨V, rfl, hm⟩ := hp
  have hr := st_size hI p1 p2 hm
  have hk14 := FM_14 hr.1
  have hO : OA h2 := hr.2.2.2.1
  refine am_istore hC dL_law_821 (by decide) ?_
  change am_W _ _ _ _ [.ref (41), .ref (3), .ref (14), .ref (40), .int (nI i), .int (nI (k3 (IX n (xs (i + 1))) (IX 25 (xs (i + 2))) true)), .int (V)] _ _
  refine am_aload_n hC dL_law_823 rfl ?_
  refine am_callV hC (ci := 7) (N := 20) [] rfl hk14 rfl mf_X6_thrown tw_709 (c_X6_thrown _ _ (am_tr hC) h2 hr.1) rfl ⟨rfl, Nat.le_of_ble_eq_true rfl⟩ ⟨by decide, by decide⟩ (by omega) (by omega) dL_law_824 rfl (fun _ _ q _ => False.elim q) (fun v h3 hp hlc => ?_)
  obtain ⟨e3, rfl⟩ := hp
  rw [e3]
  refine am_iload hC dL_law_827 rfl ?_
  refine am_icmp_eq (tgt := 834) hC dL_law_829 (by decide) (fun c_829 => ?_) (fun c_829 => absurd hr.2.1 c_829)
  refine am_iload hC dL_law_834 rfl ?_
  refine am_if_ne (tgt := 851) hC dL_law_836 (by decide) (fun c_836 => ?_) (fun c_836 => ?_)
  · refine am_goto (tgt := 1529) hC dL_law_851 (by decide) ?_
    obtain ⟨n2, np2, nq2, hI2⟩ := hr.2.2.2.2
    refine am_more (kc' := kc + 10) (ks' := ks + 200) (by omega) (by omega) ?_
    exact am_fgt (ls' := [.ref (41), .ref (3), .ref (14), .ref (40), .int (nI i), .null, .null]) ⟨Or.inl rfl, ⟨Or.inl rfl, ⟨Or.inl rfl, ⟨Or.inl rfl, ⟨Or.inl rfl, ⟨Or.inr rfl, ⟨Or.inr rfl, trivial⟩⟩⟩⟩⟩⟩⟩ (hend _ _ _ _ hI2)
  · have hK0 := nI_k3 c_836
    refine am_aload_n hC dL_law_839 rfl ?_
    refine am_iconst (v := nI 0) hC dL_law_840 (by decide) ?_
    refine am_lald hC (j := 0) (N := 1) hO.1 hO.2 rfl (by decide) (by decide) dL_law_841 ?_
    refine am_iload hC dL_law_842 rfl ?_
    refine am_i2l hC dL_law_844 ?_
    refine am_lcmp hC dL_law_845 ?_
    refine am_if_eq (tgt := 851) hC dL_law_846 (by decide) (fun c_846 => ?_) (fun c_846 => absurd (lg_eq (hr.2.2.1 hK0)) c_846)
    refine am_goto (tgt := 1529) hC dL_law_851 (by decide) ?_
    obtain ⟨n2, np2, nq2, hI2⟩ := hr.2.2.2.2
    refine am_more (kc' := kc + 10) (ks' := ks + 200) (by omega) (by omega) ?_
    exact am_fgt (ls' := [.ref (41), .ref (3), .ref (14), .ref (40), .int (nI i), .null, .null]) ⟨Or.inl rfl, ⟨Or.inl rfl, ⟨Or.inl rfl, ⟨Or.inl rfl, ⟨Or.inl rfl, ⟨Or.inr rfl, ⟨Or.inr rfl, trivial⟩⟩⟩⟩⟩⟩⟩ (hend _ _ _ _ hI2)
set_option maxRecDepth 100000 in
set_option maxHeartbeats 4000000 in
theorem lc_doorsOut {Z : am_Z} {L : Nat} {xs : Nat → Int32} (hC : am_OK Z "HousePlansLaw" cL_law 7 20 601024 7293033) (hS : SCR Z L xs) (hL : L ≤ 2560) {h : am_H} {n np nq kc ks i : Nat} (hI : INV h n np nq) (hi : i + 5 ≤ L) (hkc : kc + 10 ≤ 601024) (hks : ks + 200 ≤ 7293033) (hend : ∀ (h' : am_H) (n' np' nq' : Nat), INV h' n' np' nq' → am_W Z (kc + 10) (ks + 200) 1529 [.ref (41), .ref (3), .ref (14), .ref (40), .int (nI i), .null, .null] [] h') : am_W Z kc ks 854 [.ref (41), .ref (3), .ref (14), .ref (40), .int (nI i), .null, .null] [] h := by
  refine am_aload_n hC dL_law_854 rfl ?_
  refine am_aload_n hC dL_law_855 rfl ?_
  refine am_iload hC dL_law_856 rfl ?_
  refine am_iconst (v := nI 1) hC dL_law_858 (by decide) ?_
  refine am_iaddE (z := nI (i + 1)) hC dL_law_859 (nI_add (i) (1)) ?_
  refine am_sld hC hS (j := i + 1) rfl (by omega) dL_law_860 ?_
  refine am_aload_n hC dL_law_861 rfl ?_
  refine am_iload hC dL_law_862 rfl ?_
  refine am_iconst (v := nI 2) hC dL_law_864 (by decide) ?_
  refine am_iaddE (z := nI (i + 2)) hC dL_law_865 (nI_add (i) (2)) ?_
  refine am_sld hC hS (j := i + 2) rfl (by omega) dL_law_866 ?_
  refine am_aload_n hC dL_law_867 rfl ?_
  refine am_callSX hC [.ref (3), .int (xs (i + 1)), .int (xs (i + 2)), .ref (40)] mf_L_doorsOut tw_493 (c_L_doorsOut _ _ (am_tr hC) h n np nq hI.1 hI.2.2 (xs (i + 1)) (xs (i + 2))) rfl ⟨rfl, Nat.le_of_ble_eq_true rfl⟩ ⟨by decide, by decide⟩ (by omega) (by omega) dL_law_868 rfl (fun _ _ q _ => False.elim q) (fun v h1 hp hlc => ?_)
  obtain ⟨rfl, p1, p2⟩ := hp
  obtain ⟨mA, oA, leA⟩ := PO_A hI p1 p2 (fun x h' q => FS_SC q.1)
  have hk14 := FM_14 mA.1.1
  refine am_istore hC dL_law_871 (by decide) ?_
  change am_W _ _ _ _ [.ref (41), .ref (3), .ref (14), .ref (40), .int (nI i), .int (nI (k3 (IX n (xs (i + 1))) (IX 25 (xs (i + 2))) true)), .null] _ _
  refine am_aload_n hC dL_law_873 rfl ?_
  refine am_aload_n hC dL_law_874 rfl ?_
  refine am_iload hC dL_law_875 rfl ?_
  refine am_iconst (v := nI 1) hC dL_law_877 (by decide) ?_
  refine am_iaddE (z := nI (i + 1)) hC dL_law_878 (nI_add (i) (1)) ?_
  refine am_sld hC hS (j := i + 1) rfl (by omega) dL_law_879 ?_
  refine am_aload_n hC dL_law_880 rfl ?_
  refine am_iload hC dL_law_881 rfl ?_
  refine am_iconst (v := nI 2) hC dL_law_883 (by decide) ?_
  refine am_iaddE (z := nI (i + 2)) hC dL_law_884 (nI_add (i) (2)) ?_
  refine am_sld hC hS (j := i + 2) rfl (by omega) dL_law_885 ?_
  refine am_callV hC (ci := 7) (N := 20) [.int (xs (i + 1)), .int (xs (i + 2))] rfl hk14 rfl mf_X6_doorsOut tw_796 (c_X6_doorsOut _ _ (am_tr hC) h1 n (tC h) (xX h) (rX h) mA.1 (xs (i + 1)) (xs (i + 2))) rfl ⟨rfl, Nat.le_of_ble_eq_true rfl⟩ ⟨by decide, by decide⟩ (by omega) (by omega) dL_law_886 rfl (fun _ _ q _ => False.elim q) (fun v h2 hp hlc => ?_)
  obtain ⟨V, rfl, hm⟩ := hp
  have hr := st_doorsOut hI p1 p2 hm
  have hk14 := FM_14 hr.1
  have hO : OA h2 := hr.2.2.2.1
  refine am_istore hC dL_law_889 (by decide) ?_
  change am_W _ _ _ _ [.ref (41), .ref (3), .ref (14), .ref (40), .int (nI i), .int (nI (k3 (IX n (xs (i + 1))) (IX 25 (xs (i + 2))) true)), .int (V)] _ _
  refine am_aload_n hC dL_law_891 rfl ?_
  refine am_callV hC (ci := 7) (N := 20) [] rfl hk14 rfl mf_X6_thrown tw_709 (c_X6_thrown _ _ (am_tr hC) h2 hr.1) rfl ⟨rfl, Nat.le_of_ble_eq_true rfl⟩ ⟨by decide, by decide⟩ (by omega) (by omega) dL_law_892 rfl (fun _ _ q _ => False.elim q) (fun v h3 hp hlc => ?_)
  obtain ⟨e3, rfl⟩ := hp
  rw [e3]
  refine am_iload hC dL_law_895 rfl ?_
  refine am_icmp_eq (tgt := 902) hC dL_law_897 (by decide) (fun c_897 => ?_) (fun c_897 => absurd hr.2.1 c_897)
  refine am_iload hC dL_law_902 rfl ?_
  refine am_if_ne (tgt := 919) hC dL_law_904 (by decide) (fun c_904 => ?_) (fun c_904 => ?_)
  · refine am_goto (tgt := 1529) hC dL_law_919 (by decide) ?_
    obtain ⟨n2, np2, nq2, hI2⟩ := hr.2.2.2.2
    refine am_more (kc' := kc + 10) (ks' := ks + 200) (by omega) (by omega) ?_
    exact am_fgt (ls' := [.ref (41), .ref (3), .ref (14), .ref (40), .int (nI i), .null, .null]) ⟨Or.inl rfl, ⟨Or.inl rfl, ⟨Or.inl rfl, ⟨Or.inl rfl, ⟨Or.inl rfl, ⟨Or.inr rfl, ⟨Or.inr rfl, trivial⟩⟩⟩⟩⟩⟩⟩ (hend _ _ _ _ hI2)
  · have hK0 := nI_k3 c_904
    refine am_aload_n hC dL_law_907 rfl ?_
    refine am_iconst (v := nI 0) hC dL_law_908 (by decide) ?_
    refine am_lald hC (j := 0) (N := 1) hO.1 hO.2 rfl (by decide) (by decide) dL_law_909 ?_
    refine am_iload hC dL_law_910 rfl ?_
    refine am_i2l hC dL_law_912 ?_
    refine am_lcmp hC dL_law_913 ?_
    refine am_if_eq (tgt := 919) hC dL_law_914 (by decide) (fun c_914 => ?_) (fun c_914 => absurd (lg_eq (hr.2.2.1 hK0)) c_914)
    refine am_goto (tgt := 1529) hC dL_law_919 (by decide) ?_
    obtain ⟨n2, np2, nq2, hI2⟩ := hr.2.2.2.2
    refine am_more (kc' := kc + 10) (ks' := ks + 200) (by omega) (by omega) ?_
    exact am_fgt (ls' := [.ref (41), .ref (3), .ref (14), .ref (40), .int (nI i), .null, .null]) ⟨Or.inl rfl, ⟨Or.inl rfl, ⟨Or.inl rfl, ⟨Or.inl rfl, ⟨Or.inl rfl, ⟨Or.inr rfl, ⟨Or.inr rfl, trivial⟩⟩⟩⟩⟩⟩⟩ (hend _ _ _ _ hI2)
set_option maxRecDepth 100000 in
set_option maxHeartbeats 4000000 in
theorem lc_doorThatHelps {Z : am_Z} {L : Nat} {xs : Nat → Int32} (hC : am_OK Z "HousePlansLaw" cL_law 7 20 601024 7293033) (hS : SCR Z L xs) (hL : L ≤ 2560) {h : am_H} {n np nq kc ks i : Nat} (hI : INV h n np nq) (hi : i + 5 ≤ L) (hkc : kc + 10 ≤ 601024) (hks : ks + 200 ≤ 7293033) (hend : ∀ (h' : am_H) (n' np' nq' : Nat), INV h' n' np' nq' → am_W Z (kc + 10) (ks + 200) 1529 [.ref (41), .ref (3), .ref (14), .ref (40), .int (nI i), .null, .null] [] h') : am_W Z kc ks 922 [.ref (41), .ref (3), .ref (14), .ref (40), .int (nI i), .null, .null] [] h := by
  refine am_aload_n hC dL_law_922 rfl ?_
  refine am_aload_n hC dL_law_923 rfl ?_
  refine am_iload hC dL_law_924 rfl ?_
  refine am_iconst (v := nI 1) hC dL_law_926 (by decide) ?_
  refine am_iaddE (z := nI (i + 1)) hC dL_law_927 (nI_add (i) (1)) ?_
  refine am_sld hC hS (j := i + 1) rfl (by omega) dL_law_928 ?_
  refine am_aload_n hC dL_law_929 rfl ?_
  refine am_iload hC dL_law_930 rfl ?_
  refine am_iconst (v := nI 2) hC dL_law_932 (by decide) ?_
  refine am_iaddE (z := nI (i + 2)) hC dL_law_933 (nI_add (i) (2)) ?_
  refine am_sld hC hS (j := i + 2) rfl (by omega) dL_law_934 ?_
  refine am_aload_n hC dL_law_935 rfl ?_
  refine am_callSX hC [.ref (3), .int (xs (i + 1)), .int (xs (i + 2)), .ref (40)] mf_L_doorThatHelps tw_500 (c_L_doorThatHelps _ _ (am_tr hC) h n np nq hI.1 hI.2.2 (xs (i + 1)) (xs (i + 2))) rfl ⟨rfl, Nat.le_of_ble_eq_true rfl⟩ ⟨by decide, by decide⟩ (by omega) (by omega) dL_law_936 rfl (fun _ _ q _ => False.elim q) (fun v h1 hp hlc => ?_)
  obtain ⟨rfl, p1, p2⟩ := hp
  obtain ⟨mA, oA, leA⟩ := PO_A hI p1 p2 (fun x h' q => FS_SC q.1)
  have hk14 := FM_14 mA.1.1
  refine am_istore hC dL_law_939 (by decide) ?_
  change am_W _ _ _ _ [.ref (41), .ref (3), .ref (14), .ref (40), .int (nI i), .int (nI (k3 (IX n (xs (i + 1))) (IX 25 (xs (i + 2))) true)), .null] _ _
  refine am_aload_n hC dL_law_941 rfl ?_
  refine am_aload_n hC dL_law_942 rfl ?_
  refine am_iload hC dL_law_943 rfl ?_
  refine am_iconst (v := nI 1) hC dL_law_945 (by decide) ?_
  refine am_iaddE (z := nI (i + 1)) hC dL_law_946 (nI_add (i) (1)) ?_
  refine am_sld hC hS (j := i + 1) rfl (by omega) dL_law_947 ?_
  refine am_aload_n hC dL_law_948 rfl ?_
  refine am_iload hC dL_law_949 rfl ?_
  refine am_iconst (v := nI 2) hC dL_law_951 (by decide) ?_
  refine am_iaddE (z := nI (i + 2)) hC dL_law_952 (nI_add (i) (2)) ?_
  refine am_sld hC hS (j := i + 2) rfl (by omega) dL_law_953 ?_
  refine am_callV hC (ci := 7) (N := 20) [.int (xs (i + 1)), .int (xs (i + 2))] rfl hk14 rfl mf_X6_doorThatHelps tw_800 (c_X6_doorThatHelps _ _ (am_tr hC) h1 n (tC h) (xX h) (rX h) mA.1 (xs (i + 1)) (xs (i + 2))) rfl ⟨rfl, Nat.le_of_ble_eq_true rfl⟩ ⟨by decide, by decide⟩ (by omega) (by omega) dL_law_954 rfl (fun _ _ q _ => False.elim q) (fun v h2 hp hlc => ?_)
  obtain ⟨V, rfl, hm⟩ := hp
  have hr := st_doorThatHelps hI p1 p2 hm
  have hk14 := FM_14 hr.1
  have hO : OA h2 := hr.2.2.2.1
  refine am_istore hC dL_law_957 (by decide) ?_
  change am_W _ _ _ _ [.ref (41), .ref (3), .ref (14), .ref (40), .int (nI i), .int (nI (k3 (IX n (xs (i + 1))) (IX 25 (xs (i + 2))) true)), .int (V)] _ _
  refine am_aload_n hC dL_law_959 rfl ?_
  refine am_callV hC (ci := 7) (N := 20) [] rfl hk14 rfl mf_X6_thrown tw_709 (c_X6_thrown _ _ (am_tr hC) h2 hr.1) rfl ⟨rfl, Nat.le_of_ble_eq_true rfl⟩ ⟨by decide, by decide⟩ (by omega) (by omega) dL_law_960 rfl (fun _ _ q _ => False.elim q) (fun v h3 hp hlc => ?_)
  obtain ⟨e3, rfl⟩ := hp
  rw [e3]
  refine am_iload hC dL_law_963 rfl ?_
  refine am_icmp_eq (tgt := 970) hC dL_law_965 (by decide) (fun c_965 => ?_) (fun c_965 => absurd hr.2.1 c_965)
  refine am_iload hC dL_law_970 rfl ?_
  refine am_if_ne (tgt := 987) hC dL_law_972 (by decide) (fun c_972 => ?_) (fun c_972 => ?_)
  · refine am_goto (tgt := 1529) hC dL_law_987 (by decide) ?_
    obtain ⟨n2, np2, nq2, hI2⟩ := hr.2.2.2.2
    refine am_more (kc' := kc + 10) (ks' := ks + 200) (by omega) (by omega) ?_
    exact am_fgt (ls' := [.ref (41), .ref (3), .ref (14), .ref (40), .int (nI i), .null, .null]) ⟨Or.inl rfl, ⟨Or.inl rfl, ⟨Or.inl rfl, ⟨Or.inl rfl, ⟨Or.inl rfl, ⟨Or.inr rfl, ⟨Or.inr rfl, trivial⟩⟩⟩⟩⟩⟩⟩ (hend _ _ _ _ hI2)
  · have hK0 := nI_k3 c_972
    refine am_aload_n hC dL_law_975 rfl ?_
    refine am_iconst (v := nI 0) hC dL_law_976 (by decide) ?_
    refine am_lald hC (j := 0) (N := 1) hO.1 hO.2 rfl (by decide) (by decide) dL_law_977 ?_
    refine am_iload hC dL_law_978 rfl ?_
    refine am_i2l hC dL_law_980 ?_
    refine am_lcmp hC dL_law_981 ?_
    refine am_if_eq (tgt := 987) hC dL_law_982 (by decide) (fun c_982 => ?_) (fun c_982 => absurd (lg_eq (hr.2.2.1 hK0)) c_982)
    refine am_goto (tgt := 1529) hC dL_law_987 (by decide) ?_
    obtain ⟨n2, np2, nq2, hI2⟩ := hr.2.2.2.2
    refine am_more (kc' := kc + 10) (ks' := ks + 200) (by omega) (by omega) ?_
    exact am_fgt (ls' := [.ref (41), .ref (3), .ref (14), .ref (40), .int (nI i), .null, .null]) ⟨Or.inl rfl, ⟨Or.inl rfl, ⟨Or.inl rfl, ⟨Or.inl rfl, ⟨Or.inl rfl, ⟨Or.inr rfl, ⟨Or.inr rfl, trivial⟩⟩⟩⟩⟩⟩⟩ (hend _ _ _ _ hI2)
set_option maxRecDepth 100000 in
set_option maxHeartbeats 4000000 in
theorem lc_lock {Z : am_Z} {L : Nat} {xs : Nat → Int32} (hC : am_OK Z "HousePlansLaw" cL_law 7 20 601024 7293033) (hS : SCR Z L xs) (hL : L ≤ 2560) {h : am_H} {n np nq kc ks i : Nat} (hI : INV h n np nq) (hi : i + 5 ≤ L) (hkc : kc + 10 ≤ 601024) (hks : ks + 200 ≤ 7293033) (hend : ∀ (h' : am_H) (n' np' nq' : Nat), INV h' n' np' nq' → am_W Z (kc + 10) (ks + 200) 1529 [.ref (41), .ref (3), .ref (14), .ref (40), .int (nI i), .null, .null] [] h') : am_W Z kc ks 990 [.ref (41), .ref (3), .ref (14), .ref (40), .int (nI i), .null, .null] [] h := by
  refine am_aload_n hC dL_law_990 rfl ?_
  refine am_aload_n hC dL_law_991 rfl ?_
  refine am_iload hC dL_law_992 rfl ?_
  refine am_iconst (v := nI 1) hC dL_law_994 (by decide) ?_
  refine am_iaddE (z := nI (i + 1)) hC dL_law_995 (nI_add (i) (1)) ?_
  refine am_sld hC hS (j := i + 1) rfl (by omega) dL_law_996 ?_
  refine am_aload_n hC dL_law_997 rfl ?_
  refine am_iload hC dL_law_998 rfl ?_
  refine am_iconst (v := nI 2) hC dL_law_1000 (by decide) ?_
  refine am_iaddE (z := nI (i + 2)) hC dL_law_1001 (nI_add (i) (2)) ?_
  refine am_sld hC hS (j := i + 2) rfl (by omega) dL_law_1002 ?_
  refine am_callSX hC [.ref (3), .int (xs (i + 1)), .int (xs (i + 2))] mf_L_lock tw_515 (c_L_lock _ _ (am_tr hC) h n np nq hI.1 (xs (i + 1)) (xs (i + 2))) rfl ⟨rfl, Nat.le_of_ble_eq_true rfl⟩ ⟨by decide, by decide⟩ (by omega) (by omega) dL_law_1003 rfl (fun _ _ q _ => False.elim q) (fun v h1 hp hlc => ?_)
  obtain ⟨rfl, p1, p2⟩ := hp
  obtain ⟨mA, oA, leA⟩ := PN_A (Q := fun h' => h' = am_sI h (100 + 4 * dn (xs (i + 1))) 3 (xs (i + 2))) hI p1 p2 (fun h' q => by rw [show h' = _ from q]; exact am_eq_sI (Or.inr (by omega)))
  have hk14 := FM_14 mA.1.1
  refine am_istore hC dL_law_1006 (by decide) ?_
  change am_W _ _ _ _ [.ref (41), .ref (3), .ref (14), .ref (40), .int (nI i), .int (nI (k3 (IX n (xs (i + 1))) (IX 6 (xs (i + 2))) (decide (hi_ h (100 + 4 * dn (xs (i + 1))) 3 = -1)))), .null] _ _
  refine am_aload_n hC dL_law_1008 rfl ?_
  refine am_aload_n hC dL_law_1009 rfl ?_
  refine am_iload hC dL_law_1010 rfl ?_
  refine am_iconst (v := nI 1) hC dL_law_1012 (by decide) ?_
  refine am_iaddE (z := nI (i + 1)) hC dL_law_1013 (nI_add (i) (1)) ?_
  refine am_sld hC hS (j := i + 1) rfl (by omega) dL_law_1014 ?_
  refine am_aload_n hC dL_law_1015 rfl ?_
  refine am_iload hC dL_law_1016 rfl ?_
  refine am_iconst (v := nI 2) hC dL_law_1018 (by decide) ?_
  refine am_iaddE (z := nI (i + 2)) hC dL_law_1019 (nI_add (i) (2)) ?_
  refine am_sld hC hS (j := i + 2) rfl (by omega) dL_law_1020 ?_
  refine am_callV hC (ci := 7) (N := 20) [.int (xs (i + 1)), .int (xs (i + 2))] rfl hk14 rfl mf_X6_lock tw_808 (c_X6_lock _ _ (am_tr hC) h1 mA.1.1 n mA.1.2.1 mA.1.2.2.1 (xs (i + 1)) (xs (i + 2))) rfl ⟨rfl, Nat.le_of_ble_eq_true rfl⟩ ⟨by decide, by decide⟩ (by omega) (by omega) dL_law_1021 rfl (fun _ _ q _ => False.elim q) (fun v h2 hp hlc => ?_)
  obtain ⟨rfl, hm⟩ := hp
  have hr := st_lock hI p1 p2 hm
  have hk14 := FM_14 hr.1
  refine am_aload_n hC dL_law_1024 rfl ?_
  refine am_callV hC (ci := 7) (N := 20) [] rfl hk14 rfl mf_X6_thrown tw_709 (c_X6_thrown _ _ (am_tr hC) h2 hr.1) rfl ⟨rfl, Nat.le_of_ble_eq_true rfl⟩ ⟨by decide, by decide⟩ (by omega) (by omega) dL_law_1025 rfl (fun _ _ q _ => False.elim q) (fun v h3 hp hlc => ?_)
  obtain ⟨e3, rfl⟩ := hp
  rw [e3]
  refine am_iload hC dL_law_1028 rfl ?_
  refine am_icmp_eq (tgt := 1035) hC dL_law_1030 (by decide) (fun c_1030 => ?_) (fun c_1030 => absurd hr.2.1 c_1030)
  refine am_goto (tgt := 1529) hC dL_law_1035 (by decide) ?_
  obtain ⟨n2, np2, nq2, hI2⟩ := hr.2.2.2
  refine am_more (kc' := kc + 10) (ks' := ks + 200) (by omega) (by omega) ?_
  exact am_fgt (ls' := [.ref (41), .ref (3), .ref (14), .ref (40), .int (nI i), .null, .null]) ⟨Or.inl rfl, ⟨Or.inl rfl, ⟨Or.inl rfl, ⟨Or.inl rfl, ⟨Or.inl rfl, ⟨Or.inr rfl, ⟨Or.inl rfl, trivial⟩⟩⟩⟩⟩⟩⟩ (hend _ _ _ _ hI2)
set_option maxRecDepth 100000 in
set_option maxHeartbeats 4000000 in
theorem lc_unlock {Z : am_Z} {L : Nat} {xs : Nat → Int32} (hC : am_OK Z "HousePlansLaw" cL_law 7 20 601024 7293033) (hS : SCR Z L xs) (hL : L ≤ 2560) {h : am_H} {n np nq kc ks i : Nat} (hI : INV h n np nq) (hi : i + 5 ≤ L) (hkc : kc + 10 ≤ 601024) (hks : ks + 200 ≤ 7293033) (hend : ∀ (h' : am_H) (n' np' nq' : Nat), INV h' n' np' nq' → am_W Z (kc + 10) (ks + 200) 1529 [.ref (41), .ref (3), .ref (14), .ref (40), .int (nI i), .null, .null] [] h') : am_W Z kc ks 1038 [.ref (41), .ref (3), .ref (14), .ref (40), .int (nI i), .null, .null] [] h := by
  refine am_aload_n hC dL_law_1038 rfl ?_
  refine am_aload_n hC dL_law_1039 rfl ?_
  refine am_iload hC dL_law_1040 rfl ?_
  refine am_iconst (v := nI 1) hC dL_law_1042 (by decide) ?_
  refine am_iaddE (z := nI (i + 1)) hC dL_law_1043 (nI_add (i) (1)) ?_
  refine am_sld hC hS (j := i + 1) rfl (by omega) dL_law_1044 ?_
  refine am_aload_n hC dL_law_1045 rfl ?_
  refine am_iload hC dL_law_1046 rfl ?_
  refine am_iconst (v := nI 2) hC dL_law_1048 (by decide) ?_
  refine am_iaddE (z := nI (i + 2)) hC dL_law_1049 (nI_add (i) (2)) ?_
  refine am_sld hC hS (j := i + 2) rfl (by omega) dL_law_1050 ?_
  refine am_callSX hC [.ref (3), .int (xs (i + 1)), .int (xs (i + 2))] mf_L_unlock tw_523 (c_L_unlock _ _ (am_tr hC) h n np nq hI.1 (xs (i + 1)) (xs (i + 2))) rfl ⟨rfl, Nat.le_of_ble_eq_true rfl⟩ ⟨by decide, by decide⟩ (by omega) (by omega) dL_law_1051 rfl (fun _ _ q _ => False.elim q) (fun v h1 hp hlc => ?_)
  obtain ⟨rfl, p1, p2⟩ := hp
  obtain ⟨mA, oA, leA⟩ := PN_A (Q := fun h' => h' = am_sI h (100 + 4 * dn (xs (i + 1))) 3 (-1)) hI p1 p2 (fun h' q => by rw [show h' = _ from q]; exact am_eq_sI (Or.inr (by omega)))
  have hk14 := FM_14 mA.1.1
  refine am_istore hC dL_law_1054 (by decide) ?_
  change am_W _ _ _ _ [.ref (41), .ref (3), .ref (14), .ref (40), .int (nI i), .int (nI (k3 (IX n (xs (i + 1))) (IX 6 (xs (i + 2))) (decide (hi_ h (100 + 4 * dn (xs (i + 1))) 3 = (xs (i + 2))) && decide (hi_ h (100 + 4 * dn (xs (i + 1))) 4 = -1)))), .null] _ _
  refine am_aload_n hC dL_law_1056 rfl ?_
  refine am_aload_n hC dL_law_1057 rfl ?_
  refine am_iload hC dL_law_1058 rfl ?_
  refine am_iconst (v := nI 1) hC dL_law_1060 (by decide) ?_
  refine am_iaddE (z := nI (i + 1)) hC dL_law_1061 (nI_add (i) (1)) ?_
  refine am_sld hC hS (j := i + 1) rfl (by omega) dL_law_1062 ?_
  refine am_aload_n hC dL_law_1063 rfl ?_
  refine am_iload hC dL_law_1064 rfl ?_
  refine am_iconst (v := nI 2) hC dL_law_1066 (by decide) ?_
  refine am_iaddE (z := nI (i + 2)) hC dL_law_1067 (nI_add (i) (2)) ?_
  refine am_sld hC hS (j := i + 2) rfl (by omega) dL_law_1068 ?_
  refine am_callV hC (ci := 7) (N := 20) [.int (xs (i + 1)), .int (xs (i + 2))] rfl hk14 rfl mf_X6_unlock tw_812 (c_X6_unlock _ _ (am_tr hC) h1 mA.1.1 n mA.1.2.1 mA.1.2.2.1 (xs (i + 1)) (xs (i + 2))) rfl ⟨rfl, Nat.le_of_ble_eq_true rfl⟩ ⟨by decide, by decide⟩ (by omega) (by omega) dL_law_1069 rfl (fun _ _ q _ => False.elim q) (fun v h2 hp hlc => ?_)
  obtain ⟨rfl, hm⟩ := hp
  have hr := st_unlock hI p1 p2 hm
  have hk14 := FM_14 hr.1
  refine am_aload_n hC dL_law_1072 rfl ?_
  refine am_callV hC (ci := 7) (N := 20) [] rfl hk14 rfl mf_X6_thrown tw_709 (c_X6_thrown _ _ (am_tr hC) h2 hr.1) rfl ⟨rfl, Nat.le_of_ble_eq_true rfl⟩ ⟨by decide, by decide⟩ (by omega) (by omega) dL_law_1073 rfl (fun _ _ q _ => False.elim q) (fun v h3 hp hlc => ?_)
  obtain ⟨e3, rfl⟩ := hp
  rw [e3]
  refine am_iload hC dL_law_1076 rfl ?_
  refine am_icmp_eq (tgt := 1083) hC dL_law_1078 (by decide) (fun c_1078 => ?_) (fun c_1078 => absurd hr.2.1 c_1078)
  refine am_goto (tgt := 1529) hC dL_law_1083 (by decide) ?_
  obtain ⟨n2, np2, nq2, hI2⟩ := hr.2.2.2
  refine am_more (kc' := kc + 10) (ks' := ks + 200) (by omega) (by omega) ?_
  exact am_fgt (ls' := [.ref (41), .ref (3), .ref (14), .ref (40), .int (nI i), .null, .null]) ⟨Or.inl rfl, ⟨Or.inl rfl, ⟨Or.inl rfl, ⟨Or.inl rfl, ⟨Or.inl rfl, ⟨Or.inr rfl, ⟨Or.inl rfl, trivial⟩⟩⟩⟩⟩⟩⟩ (hend _ _ _ _ hI2)
set_option maxRecDepth 100000 in
set_option maxHeartbeats 4000000 in
theorem lc_lend {Z : am_Z} {L : Nat} {xs : Nat → Int32} (hC : am_OK Z "HousePlansLaw" cL_law 7 20 601024 7293033) (hS : SCR Z L xs) (hL : L ≤ 2560) {h : am_H} {n np nq kc ks i : Nat} (hI : INV h n np nq) (hi : i + 5 ≤ L) (hkc : kc + 10 ≤ 601024) (hks : ks + 200 ≤ 7293033) (hend : ∀ (h' : am_H) (n' np' nq' : Nat), INV h' n' np' nq' → am_W Z (kc + 10) (ks + 200) 1529 [.ref (41), .ref (3), .ref (14), .ref (40), .int (nI i), .null, .null] [] h') : am_W Z kc ks 1086 [.ref (41), .ref (3), .ref (14), .ref (40), .int (nI i), .null, .null] [] h := by
  refine am_aload_n hC dL_law_1086 rfl ?_
  refine am_aload_n hC dL_law_1087 rfl ?_
  refine am_iload hC dL_law_1088 rfl ?_
  refine am_iconst (v := nI 1) hC dL_law_1090 (by decide) ?_
  refine am_iaddE (z := nI (i + 1)) hC dL_law_1091 (nI_add (i) (1)) ?_
  refine am_sld hC hS (j := i + 1) rfl (by omega) dL_law_1092 ?_
  refine am_aload_n hC dL_law_1093 rfl ?_
  refine am_iload hC dL_law_1094 rfl ?_
  refine am_iconst (v := nI 2) hC dL_law_1096 (by decide) ?_
  refine am_iaddE (z := nI (i + 2)) hC dL_law_1097 (nI_add (i) (2)) ?_
  refine am_sld hC hS (j := i + 2) rfl (by omega) dL_law_1098 ?_
  refine am_aload_n hC dL_law_1099 rfl ?_
  refine am_iload hC dL_law_1100 rfl ?_
  refine am_iconst (v := nI 3) hC dL_law_1102 (by decide) ?_
  refine am_iaddE (z := nI (i + 3)) hC dL_law_1103 (nI_add (i) (3)) ?_
  refine am_sld hC hS (j := i + 3) rfl (by omega) dL_law_1104 ?_
  refine am_aload_n hC dL_law_1105 rfl ?_
  refine am_callSX hC [.ref (3), .int (xs (i + 1)), .int (xs (i + 2)), .int (xs (i + 3)), .ref (40)] mf_L_lend tw_535 (c_L_lend _ _ (am_tr hC) h n np nq hI.1 hI.2.2 (xs (i + 1)) (xs (i + 2)) (xs (i + 3))) rfl ⟨rfl, Nat.le_of_ble_eq_true rfl⟩ ⟨by decide, by decide⟩ (by omega) (by omega) dL_law_1106 rfl (fun _ _ q _ => False.elim q) (fun v h1 hp hlc => ?_)
  obtain ⟨rfl, p1, p2⟩ := hp
  obtain ⟨mA, oA, leA⟩ := PO_A hI p1 p2 (fun x h' q => by rw [q.2]; exact am_eq_sI (Or.inr (by omega)))
  have hk14 := FM_14 mA.1.1
  refine am_istore hC dL_law_1109 (by decide) ?_
  change am_W _ _ _ _ [.ref (41), .ref (3), .ref (14), .ref (40), .int (nI i), .int (nI (k3 (IX n (xs (i + 1))) (IX 6 (xs (i + 2)) && ((decide ((xs (i + 3)) = -1) || IX 6 (xs (i + 3))) && !decide ((xs (i + 2)) = (xs (i + 3))))) (decide (hi_ h (100 + 4 * dn (xs (i + 1))) 3 = (xs (i + 2)))))), .null] _ _
  refine am_aload_n hC dL_law_1111 rfl ?_
  refine am_aload_n hC dL_law_1112 rfl ?_
  refine am_iload hC dL_law_1113 rfl ?_
  refine am_iconst (v := nI 1) hC dL_law_1115 (by decide) ?_
  refine am_iaddE (z := nI (i + 1)) hC dL_law_1116 (nI_add (i) (1)) ?_
  refine am_sld hC hS (j := i + 1) rfl (by omega) dL_law_1117 ?_
  refine am_aload_n hC dL_law_1118 rfl ?_
  refine am_iload hC dL_law_1119 rfl ?_
  refine am_iconst (v := nI 2) hC dL_law_1121 (by decide) ?_
  refine am_iaddE (z := nI (i + 2)) hC dL_law_1122 (nI_add (i) (2)) ?_
  refine am_sld hC hS (j := i + 2) rfl (by omega) dL_law_1123 ?_
  refine am_aload_n hC dL_law_1124 rfl ?_
  refine am_iload hC dL_law_1125 rfl ?_
  refine am_iconst (v := nI 3) hC dL_law_1127 (by decide) ?_
  refine am_iaddE (z := nI (i + 3)) hC dL_law_1128 (nI_add (i) (3)) ?_
  refine am_sld hC hS (j := i + 3) rfl (by omega) dL_law_1129 ?_
  refine am_callV hC (ci := 7) (N := 20) [.int (xs (i + 1)), .int (xs (i + 2)), .int (xs (i + 3))] rfl hk14 rfl mf_X6_lend tw_816 (c_X6_lend _ _ (am_tr hC) h1 mA.1.1 n mA.1.2.1 mA.1.2.2.1 (xs (i + 1)) (xs (i + 2)) (xs (i + 3))) rfl ⟨rfl, Nat.le_of_ble_eq_true rfl⟩ ⟨by decide, by decide⟩ (by omega) (by omega) dL_law_1130 rfl (fun _ _ q _ => False.elim q) (fun v h2 hp hlc => ?_)
  obtain ⟨V, rfl, hm⟩ := hp
  have hr := st_lend hI p1 p2 hm
  have hk14 := FM_14 hr.1
  have hO : OA h2 := hr.2.2.2.1
  refine am_istore hC dL_law_1133 (by decide) ?_
  change am_W _ _ _ _ [.ref (41), .ref (3), .ref (14), .ref (40), .int (nI i), .int (nI (k3 (IX n (xs (i + 1))) (IX 6 (xs (i + 2)) && ((decide ((xs (i + 3)) = -1) || IX 6 (xs (i + 3))) && !decide ((xs (i + 2)) = (xs (i + 3))))) (decide (hi_ h (100 + 4 * dn (xs (i + 1))) 3 = (xs (i + 2)))))), .int (V)] _ _
  refine am_aload_n hC dL_law_1135 rfl ?_
  refine am_callV hC (ci := 7) (N := 20) [] rfl hk14 rfl mf_X6_thrown tw_709 (c_X6_thrown _ _ (am_tr hC) h2 hr.1) rfl ⟨rfl, Nat.le_of_ble_eq_true rfl⟩ ⟨by decide, by decide⟩ (by omega) (by omega) dL_law_1136 rfl (fun _ _ q _ => False.elim q) (fun v h3 hp hlc => ?_)
  obtain ⟨e3, rfl⟩ := hp
  rw [e3]
  refine am_iload hC dL_law_1139 rfl ?_
  refine am_icmp_eq (tgt := 1146) hC dL_law_1141 (by decide) (fun c_1141 => ?_) (fun c_1141 => absurd hr.2.1 c_1141)
  refine am_iload hC dL_law_1146 rfl ?_
  refine am_if_ne (tgt := 1163) hC dL_law_1148 (by decide) (fun c_1148 => ?_) (fun c_1148 => ?_)
  · refine am_goto (tgt := 1529) hC dL_law_1163 (by decide) ?_
    obtain ⟨n2, np2, nq2, hI2⟩ := hr.2.2.2.2
    refine am_more (kc' := kc + 10) (ks' := ks + 200) (by omega) (by omega) ?_
    exact am_fgt (ls' := [.ref (41), .ref (3), .ref (14), .ref (40), .int (nI i), .null, .null]) ⟨Or.inl rfl, ⟨Or.inl rfl, ⟨Or.inl rfl, ⟨Or.inl rfl, ⟨Or.inl rfl, ⟨Or.inr rfl, ⟨Or.inr rfl, trivial⟩⟩⟩⟩⟩⟩⟩ (hend _ _ _ _ hI2)
  · have hK0 := nI_k3 c_1148
    refine am_aload_n hC dL_law_1151 rfl ?_
    refine am_iconst (v := nI 0) hC dL_law_1152 (by decide) ?_
    refine am_lald hC (j := 0) (N := 1) hO.1 hO.2 rfl (by decide) (by decide) dL_law_1153 ?_
    refine am_iload hC dL_law_1154 rfl ?_
    refine am_i2l hC dL_law_1156 ?_
    refine am_lcmp hC dL_law_1157 ?_
    refine am_if_eq (tgt := 1163) hC dL_law_1158 (by decide) (fun c_1158 => ?_) (fun c_1158 => absurd (lg_eq (hr.2.2.1 hK0)) c_1158)
    refine am_goto (tgt := 1529) hC dL_law_1163 (by decide) ?_
    obtain ⟨n2, np2, nq2, hI2⟩ := hr.2.2.2.2
    refine am_more (kc' := kc + 10) (ks' := ks + 200) (by omega) (by omega) ?_
    exact am_fgt (ls' := [.ref (41), .ref (3), .ref (14), .ref (40), .int (nI i), .null, .null]) ⟨Or.inl rfl, ⟨Or.inl rfl, ⟨Or.inl rfl, ⟨Or.inl rfl, ⟨Or.inl rfl, ⟨Or.inr rfl, ⟨Or.inr rfl, trivial⟩⟩⟩⟩⟩⟩⟩ (hend _ _ _ _ hI2)
set_option maxRecDepth 100000 in
set_option maxHeartbeats 4000000 in
theorem lc_canChange {Z : am_Z} {L : Nat} {xs : Nat → Int32} (hC : am_OK Z "HousePlansLaw" cL_law 7 20 601024 7293033) (hS : SCR Z L xs) (hL : L ≤ 2560) {h : am_H} {n np nq kc ks i : Nat} (hI : INV h n np nq) (hi : i + 5 ≤ L) (hkc : kc + 10 ≤ 601024) (hks : ks + 200 ≤ 7293033) (hend : ∀ (h' : am_H) (n' np' nq' : Nat), INV h' n' np' nq' → am_W Z (kc + 10) (ks + 200) 1529 [.ref (41), .ref (3), .ref (14), .ref (40), .int (nI i), .null, .null] [] h') : am_W Z kc ks 1166 [.ref (41), .ref (3), .ref (14), .ref (40), .int (nI i), .null, .null] [] h := by
  refine am_aload_n hC dL_law_1166 rfl ?_
  refine am_aload_n hC dL_law_1167 rfl ?_
  refine am_iload hC dL_law_1168 rfl ?_
  refine am_iconst (v := nI 1) hC dL_law_1170 (by decide) ?_
  refine am_iaddE (z := nI (i + 1)) hC dL_law_1171 (nI_add (i) (1)) ?_
  refine am_sld hC hS (j := i + 1) rfl (by omega) dL_law_1172 ?_
  refine am_aload_n hC dL_law_1173 rfl ?_
  refine am_callSX hC [.ref (3), .int (xs (i + 1)), .ref (40)] mf_L_canChange tw_543 (c_L_canChange _ _ (am_tr hC) h n np nq hI.1 hI.2.2 (xs (i + 1))) rfl ⟨rfl, Nat.le_of_ble_eq_true rfl⟩ ⟨by decide, by decide⟩ (by omega) (by omega) dL_law_1174 rfl (fun _ _ q _ => False.elim q) (fun v h1 hp hlc => ?_)
  obtain ⟨rfl, p1, p2⟩ := hp
  obtain ⟨mA, oA, leA⟩ := PO_A hI p1 p2 (fun x h' q => by rw [q.2]; exact am_eq_rf _ _)
  have hk14 := FM_14 mA.1.1
  refine am_istore hC dL_law_1177 (by decide) ?_
  change am_W _ _ _ _ [.ref (41), .ref (3), .ref (14), .ref (40), .int (nI i), .int (nI (k3 (IX n (xs (i + 1))) true true)), .null] _ _
  refine am_aload_n hC dL_law_1179 rfl ?_
  refine am_aload_n hC dL_law_1180 rfl ?_
  refine am_iload hC dL_law_1181 rfl ?_
  refine am_iconst (v := nI 1) hC dL_law_1183 (by decide) ?_
  refine am_iaddE (z := nI (i + 1)) hC dL_law_1184 (nI_add (i) (1)) ?_
  refine am_sld hC hS (j := i + 1) rfl (by omega) dL_law_1185 ?_
  refine am_callV hC (ci := 7) (N := 20) [.int (xs (i + 1))] rfl hk14 rfl mf_X6_canChange tw_820 (c_X6_canChange _ _ (am_tr hC) h1 mA.1.1 n mA.1.2.1 mA.1.2.2.1 (xs (i + 1))) rfl ⟨rfl, Nat.le_of_ble_eq_true rfl⟩ ⟨by decide, by decide⟩ (by omega) (by omega) dL_law_1186 rfl (fun _ _ q _ => False.elim q) (fun v h2 hp hlc => ?_)
  obtain ⟨V, rfl, hm⟩ := hp
  have hr := st_canChange hI p1 p2 hm
  have hk14 := FM_14 hr.1
  have hO : OA h2 := hr.2.2.2.1
  refine am_istore hC dL_law_1189 (by decide) ?_
  change am_W _ _ _ _ [.ref (41), .ref (3), .ref (14), .ref (40), .int (nI i), .int (nI (k3 (IX n (xs (i + 1))) true true)), .int (V)] _ _
  refine am_aload_n hC dL_law_1191 rfl ?_
  refine am_callV hC (ci := 7) (N := 20) [] rfl hk14 rfl mf_X6_thrown tw_709 (c_X6_thrown _ _ (am_tr hC) h2 hr.1) rfl ⟨rfl, Nat.le_of_ble_eq_true rfl⟩ ⟨by decide, by decide⟩ (by omega) (by omega) dL_law_1192 rfl (fun _ _ q _ => False.elim q) (fun v h3 hp hlc => ?_)
  obtain ⟨e3, rfl⟩ := hp
  rw [e3]
  refine am_iload hC dL_law_1195 rfl ?_
  refine am_icmp_eq (tgt := 1202) hC dL_law_1197 (by decide) (fun c_1197 => ?_) (fun c_1197 => absurd hr.2.1 c_1197)
  refine am_iload hC dL_law_1202 rfl ?_
  refine am_if_ne (tgt := 1219) hC dL_law_1204 (by decide) (fun c_1204 => ?_) (fun c_1204 => ?_)
  · refine am_goto (tgt := 1529) hC dL_law_1219 (by decide) ?_
    obtain ⟨n2, np2, nq2, hI2⟩ := hr.2.2.2.2
    refine am_more (kc' := kc + 10) (ks' := ks + 200) (by omega) (by omega) ?_
    exact am_fgt (ls' := [.ref (41), .ref (3), .ref (14), .ref (40), .int (nI i), .null, .null]) ⟨Or.inl rfl, ⟨Or.inl rfl, ⟨Or.inl rfl, ⟨Or.inl rfl, ⟨Or.inl rfl, ⟨Or.inr rfl, ⟨Or.inr rfl, trivial⟩⟩⟩⟩⟩⟩⟩ (hend _ _ _ _ hI2)
  · have hK0 := nI_k3 c_1204
    refine am_aload_n hC dL_law_1207 rfl ?_
    refine am_iconst (v := nI 0) hC dL_law_1208 (by decide) ?_
    refine am_lald hC (j := 0) (N := 1) hO.1 hO.2 rfl (by decide) (by decide) dL_law_1209 ?_
    refine am_iload hC dL_law_1210 rfl ?_
    refine am_i2l hC dL_law_1212 ?_
    refine am_lcmp hC dL_law_1213 ?_
    refine am_if_eq (tgt := 1219) hC dL_law_1214 (by decide) (fun c_1214 => ?_) (fun c_1214 => absurd (lg_eq (hr.2.2.1 hK0)) c_1214)
    refine am_goto (tgt := 1529) hC dL_law_1219 (by decide) ?_
    obtain ⟨n2, np2, nq2, hI2⟩ := hr.2.2.2.2
    refine am_more (kc' := kc + 10) (ks' := ks + 200) (by omega) (by omega) ?_
    exact am_fgt (ls' := [.ref (41), .ref (3), .ref (14), .ref (40), .int (nI i), .null, .null]) ⟨Or.inl rfl, ⟨Or.inl rfl, ⟨Or.inl rfl, ⟨Or.inl rfl, ⟨Or.inl rfl, ⟨Or.inr rfl, ⟨Or.inr rfl, trivial⟩⟩⟩⟩⟩⟩⟩ (hend _ _ _ _ hI2)
set_option maxRecDepth 100000 in
set_option maxHeartbeats 4000000 in
theorem lc_grant {Z : am_Z} {L : Nat} {xs : Nat → Int32} (hC : am_OK Z "HousePlansLaw" cL_law 7 20 601024 7293033) (hS : SCR Z L xs) (hL : L ≤ 2560) {h : am_H} {n np nq kc ks i : Nat} (hI : INV h n np nq) (hi : i + 5 ≤ L) (hkc : kc + 10 ≤ 601024) (hks : ks + 200 ≤ 7293033) (hend : ∀ (h' : am_H) (n' np' nq' : Nat), INV h' n' np' nq' → am_W Z (kc + 10) (ks + 200) 1529 [.ref (41), .ref (3), .ref (14), .ref (40), .int (nI i), .null, .null] [] h') : am_W Z kc ks 1222 [.ref (41), .ref (3), .ref (14), .ref (40), .int (nI i), .null, .null] [] h := by
  refine am_aload_n hC dL_law_1222 rfl ?_
  refine am_aload_n hC dL_law_1223 rfl ?_
  refine am_iload hC dL_law_1224 rfl ?_
  refine am_iconst (v := nI 1) hC dL_law_1226 (by decide) ?_
  refine am_iaddE (z := nI (i + 1)) hC dL_law_1227 (nI_add (i) (1)) ?_
  refine am_sld hC hS (j := i + 1) rfl (by omega) dL_law_1228 ?_
  refine am_aload_n hC dL_law_1229 rfl ?_
  obtain ⟨R, hVR⟩ := VW_ex (sdH h (dn (xs (i + 1)))) (exH h (dn (xs (i + 1))))
  refine am_callSX hC [.ref (3), .int (xs (i + 1)), .ref (40)] mf_L_grant tw_550 (c_L_grant _ _ (am_tr hC) h n np nq hI.1 hI.2.2 (xs (i + 1)) R hVR) rfl ⟨rfl, Nat.le_of_ble_eq_true rfl⟩ ⟨by decide, by decide⟩ (by omega) (by omega) dL_law_1230 rfl (fun _ _ q _ => False.elim q) (fun v h1 hp hlc => ?_)
  obtain ⟨rfl, p1, p2⟩ := hp
  obtain ⟨mA, oA, leA⟩ := PO_A hI p1 p2 (fun x h' q => am_eq_mono (fun r hr => by unfold SG SL FS at hr; unfold SC; omega) q.2.1)
  have hk14 := FM_14 mA.1.1
  refine am_istore hC dL_law_1233 (by decide) ?_
  change am_W _ _ _ _ [.ref (41), .ref (3), .ref (14), .ref (40), .int (nI i), .int (nI (k3 (IX n (xs (i + 1))) (decide (np < 20) && R) true)), .null] _ _
  refine am_aload_n hC dL_law_1235 rfl ?_
  refine am_aload_n hC dL_law_1236 rfl ?_
  refine am_iload hC dL_law_1237 rfl ?_
  refine am_iconst (v := nI 1) hC dL_law_1239 (by decide) ?_
  refine am_iaddE (z := nI (i + 1)) hC dL_law_1240 (nI_add (i) (1)) ?_
  refine am_sld hC hS (j := i + 1) rfl (by omega) dL_law_1241 ?_
  refine am_callV hC (ci := 7) (N := 20) [.int (xs (i + 1))] rfl hk14 rfl mf_X6_grant tw_824 (c_X6_grant _ _ (am_tr hC) h1 n (tC h) (xX h) (rX h) mA.1 np hI.1.2.1.2.1 mA.2.1.1 (xs (i + 1))) rfl ⟨rfl, Nat.le_of_ble_eq_true rfl⟩ ⟨by decide, by decide⟩ (by omega) (by omega) dL_law_1242 rfl (fun _ _ q _ => False.elim q) (fun v h2 hp hlc => ?_)
  obtain ⟨l2, V, rfl, R2, hm⟩ := hp
  have hr := st_grant hVR hI p1 p2 ⟨l2, hm⟩
  have hk14 := FM_14 hr.1
  have hO : OA h2 := hr.2.2.2.1
  refine am_istore hC dL_law_1245 (by decide) ?_
  change am_W _ _ _ _ [.ref (41), .ref (3), .ref (14), .ref (40), .int (nI i), .int (nI (k3 (IX n (xs (i + 1))) (decide (np < 20) && R) true)), .int (V)] _ _
  refine am_aload_n hC dL_law_1247 rfl ?_
  refine am_callV hC (ci := 7) (N := 20) [] rfl hk14 rfl mf_X6_thrown tw_709 (c_X6_thrown _ _ (am_tr hC) h2 hr.1) rfl ⟨rfl, Nat.le_of_ble_eq_true rfl⟩ ⟨by decide, by decide⟩ (by omega) (by omega) dL_law_1248 rfl (fun _ _ q _ => False.elim q) (fun v h3 hp hlc => ?_)
  obtain ⟨e3, rfl⟩ := hp
  rw [e3]
  refine am_iload hC dL_law_1251 rfl ?_
  refine am_icmp_eq (tgt := 1258) hC dL_law_1253 (by decide) (fun c_1253 => ?_) (fun c_1253 => absurd hr.2.1 c_1253)
  refine am_iload hC dL_law_1258 rfl ?_
  refine am_if_ne (tgt := 1275) hC dL_law_1260 (by decide) (fun c_1260 => ?_) (fun c_1260 => ?_)
  · refine am_goto (tgt := 1529) hC dL_law_1275 (by decide) ?_
    obtain ⟨n2, np2, nq2, hI2⟩ := hr.2.2.2.2
    refine am_more (kc' := kc + 10) (ks' := ks + 200) (by omega) (by omega) ?_
    exact am_fgt (ls' := [.ref (41), .ref (3), .ref (14), .ref (40), .int (nI i), .null, .null]) ⟨Or.inl rfl, ⟨Or.inl rfl, ⟨Or.inl rfl, ⟨Or.inl rfl, ⟨Or.inl rfl, ⟨Or.inr rfl, ⟨Or.inr rfl, trivial⟩⟩⟩⟩⟩⟩⟩ (hend _ _ _ _ hI2)
  · have hK0 := nI_k3 c_1260
    refine am_aload_n hC dL_law_1263 rfl ?_
    refine am_iconst (v := nI 0) hC dL_law_1264 (by decide) ?_
    refine am_lald hC (j := 0) (N := 1) hO.1 hO.2 rfl (by decide) (by decide) dL_law_1265 ?_
    refine am_iload hC dL_law_1266 rfl ?_
    refine am_i2l hC dL_law_1268 ?_
    refine am_lcmp hC dL_law_1269 ?_
    refine am_if_eq (tgt := 1275) hC dL_law_1270 (by decide) (fun c_1270 => ?_) (fun c_1270 => absurd (lg_eq (hr.2.2.1 hK0)) c_1270)
    refine am_goto (tgt := 1529) hC dL_law_1275 (by decide) ?_
    obtain ⟨n2, np2, nq2, hI2⟩ := hr.2.2.2.2
    refine am_more (kc' := kc + 10) (ks' := ks + 200) (by omega) (by omega) ?_
    exact am_fgt (ls' := [.ref (41), .ref (3), .ref (14), .ref (40), .int (nI i), .null, .null]) ⟨Or.inl rfl, ⟨Or.inl rfl, ⟨Or.inl rfl, ⟨Or.inl rfl, ⟨Or.inl rfl, ⟨Or.inr rfl, ⟨Or.inr rfl, trivial⟩⟩⟩⟩⟩⟩⟩ (hend _ _ _ _ hI2)
set_option maxRecDepth 100000 in
set_option maxHeartbeats 4000000 in
theorem lc_holds {Z : am_Z} {L : Nat} {xs : Nat → Int32} (hC : am_OK Z "HousePlansLaw" cL_law 7 20 601024 7293033) (hS : SCR Z L xs) (hL : L ≤ 2560) {h : am_H} {n np nq kc ks i : Nat} (hI : INV h n np nq) (hi : i + 5 ≤ L) (hkc : kc + 10 ≤ 601024) (hks : ks + 200 ≤ 7293033) (hend : ∀ (h' : am_H) (n' np' nq' : Nat), INV h' n' np' nq' → am_W Z (kc + 10) (ks + 200) 1529 [.ref (41), .ref (3), .ref (14), .ref (40), .int (nI i), .null, .null] [] h') : am_W Z kc ks 1278 [.ref (41), .ref (3), .ref (14), .ref (40), .int (nI i), .null, .null] [] h := by
  refine am_aload_n hC dL_law_1278 rfl ?_
  refine am_aload_n hC dL_law_1279 rfl ?_
  refine am_iload hC dL_law_1280 rfl ?_
  refine am_iconst (v := nI 1) hC dL_law_1282 (by decide) ?_
  refine am_iaddE (z := nI (i + 1)) hC dL_law_1283 (nI_add (i) (1)) ?_
  refine am_sld hC hS (j := i + 1) rfl (by omega) dL_law_1284 ?_
  refine am_aload_n hC dL_law_1285 rfl ?_
  refine am_callSX hC [.ref (3), .int (xs (i + 1)), .ref (40)] mf_L_holds tw_580 (c_L_holds _ _ (am_tr hC) h n np nq hI.1 hI.2.2 (xs (i + 1))) rfl ⟨rfl, Nat.le_of_ble_eq_true rfl⟩ ⟨by decide, by decide⟩ (by omega) (by omega) dL_law_1286 rfl (fun _ _ q _ => False.elim q) (fun v h1 hp hlc => ?_)
  obtain ⟨rfl, p1, p2⟩ := hp
  obtain ⟨mA, oA, leA⟩ := PO_A hI p1 p2 (fun x h' q => by obtain ⟨R, -, -, e⟩ := q; rw [e]; exact am_eq_rf _ _)
  have hk14 := FM_14 mA.1.1
  refine am_istore hC dL_law_1289 (by decide) ?_
  change am_W _ _ _ _ [.ref (41), .ref (3), .ref (14), .ref (40), .int (nI i), .int (nI (k3 (IX np (xs (i + 1))) true true)), .null] _ _
  refine am_aload_n hC dL_law_1291 rfl ?_
  refine am_aload_n hC dL_law_1292 rfl ?_
  refine am_iload hC dL_law_1293 rfl ?_
  refine am_iconst (v := nI 1) hC dL_law_1295 (by decide) ?_
  refine am_iaddE (z := nI (i + 1)) hC dL_law_1296 (nI_add (i) (1)) ?_
  refine am_sld hC hS (j := i + 1) rfl (by omega) dL_law_1297 ?_
  refine am_callV hC (ci := 7) (N := 20) [.int (xs (i + 1))] rfl hk14 rfl mf_X6_holds tw_828 (c_X6_holds _ _ (am_tr hC) h1 n (tC h) (xX h) (rX h) mA.1 np hI.1.2.1.2.1 mA.2.1.1 (pdH h) (hpd_ hI mA) (xs (i + 1))) rfl ⟨rfl, Nat.le_of_ble_eq_true rfl⟩ ⟨by decide, by decide⟩ (by omega) (by omega) dL_law_1298 rfl (fun _ _ q _ => False.elim q) (fun v h2 hp hlc => ?_)
  obtain ⟨V, rfl, hm⟩ := hp
  have ⟨hr, hB⟩ := st_holds hI p1 p2 hm
  have hk14 := FM_14 hr.1
  have hO : OA h2 := hr.2.2.2.1
  refine am_istore hC dL_law_1301 (by decide) ?_
  change am_W _ _ _ _ [.ref (41), .ref (3), .ref (14), .ref (40), .int (nI i), .int (nI (k3 (IX np (xs (i + 1))) true true)), .int (V)] _ _
  refine am_aload_n hC dL_law_1303 rfl ?_
  refine am_callV hC (ci := 7) (N := 20) [] rfl hk14 rfl mf_X6_thrown tw_709 (c_X6_thrown _ _ (am_tr hC) h2 hr.1) rfl ⟨rfl, Nat.le_of_ble_eq_true rfl⟩ ⟨by decide, by decide⟩ (by omega) (by omega) dL_law_1304 rfl (fun _ _ q _ => False.elim q) (fun v h3 hp hlc => ?_)
  obtain ⟨e3, rfl⟩ := hp
  rw [e3]
  refine am_iload hC dL_law_1307 rfl ?_
  refine am_icmp_eq (tgt := 1314) hC dL_law_1309 (by decide) (fun c_1309 => ?_) (fun c_1309 => absurd hr.2.1 c_1309)
  refine am_iload hC dL_law_1314 rfl ?_
  refine am_if_ne (tgt := 1338) hC dL_law_1316 (by decide) (fun c_1316 => ?_) (fun c_1316 => ?_)
  · refine am_goto (tgt := 1529) hC dL_law_1338 (by decide) ?_
    obtain ⟨n2, np2, nq2, hI2⟩ := hr.2.2.2.2
    refine am_more (kc' := kc + 10) (ks' := ks + 200) (by omega) (by omega) ?_
    exact am_fgt (ls' := [.ref (41), .ref (3), .ref (14), .ref (40), .int (nI i), .null, .null]) ⟨Or.inl rfl, ⟨Or.inl rfl, ⟨Or.inl rfl, ⟨Or.inl rfl, ⟨Or.inl rfl, ⟨Or.inr rfl, ⟨Or.inr rfl, trivial⟩⟩⟩⟩⟩⟩⟩ (hend _ _ _ _ hI2)
  · have hK0 := nI_k3 c_1316
    refine am_aload_n hC dL_law_1319 rfl ?_
    refine am_iconst (v := nI 0) hC dL_law_1320 (by decide) ?_
    refine am_lald hC (j := 0) (N := 1) hO.1 hO.2 rfl (by decide) (by decide) dL_law_1321 ?_
    refine am_iload hC dL_law_1322 rfl ?_
    refine am_if_eq (tgt := 1331) hC dL_law_1324 (by decide) (fun c_1324 => ?_) (fun c_1324 => ?_)
    · refine am_lconst (v := 0) hC dL_law_1331 (by decide) ?_
      refine am_lcmp hC dL_law_1332 ?_
      refine am_if_eq (tgt := 1338) hC dL_law_1333 (by decide) (fun c_1333 => ?_) (fun c_1333 => absurd (lg_eq (lv_0 c_1324 (hr.2.2.1 hK0))) c_1333)
      refine am_goto (tgt := 1529) hC dL_law_1338 (by decide) ?_
      obtain ⟨n2, np2, nq2, hI2⟩ := hr.2.2.2.2
      refine am_more (kc' := kc + 10) (ks' := ks + 200) (by omega) (by omega) ?_
      exact am_fgt (ls' := [.ref (41), .ref (3), .ref (14), .ref (40), .int (nI i), .null, .null]) ⟨Or.inl rfl, ⟨Or.inl rfl, ⟨Or.inl rfl, ⟨Or.inl rfl, ⟨Or.inl rfl, ⟨Or.inr rfl, ⟨Or.inr rfl, trivial⟩⟩⟩⟩⟩⟩⟩ (hend _ _ _ _ hI2)
    · refine am_lconst (v := 1) hC dL_law_1327 (by decide) ?_
      refine am_goto (tgt := 1332) hC dL_law_1328 (by decide) ?_
      refine am_lcmp hC dL_law_1332 ?_
      refine am_if_eq (tgt := 1338) hC dL_law_1333 (by decide) (fun c_1333 => ?_) (fun c_1333 => absurd (lg_eq (lv_1 c_1324 (hB hK0) (hr.2.2.1 hK0))) c_1333)
      refine am_goto (tgt := 1529) hC dL_law_1338 (by decide) ?_
      obtain ⟨n2, np2, nq2, hI2⟩ := hr.2.2.2.2
      refine am_more (kc' := kc + 10) (ks' := ks + 200) (by omega) (by omega) ?_
      exact am_fgt (ls' := [.ref (41), .ref (3), .ref (14), .ref (40), .int (nI i), .null, .null]) ⟨Or.inl rfl, ⟨Or.inl rfl, ⟨Or.inl rfl, ⟨Or.inl rfl, ⟨Or.inl rfl, ⟨Or.inr rfl, ⟨Or.inr rfl, trivial⟩⟩⟩⟩⟩⟩⟩ (hend _ _ _ _ hI2)
set_option maxRecDepth 100000 in
set_option maxHeartbeats 4000000 in
theorem lc_print {Z : am_Z} {L : Nat} {xs : Nat → Int32} (hC : am_OK Z "HousePlansLaw" cL_law 7 20 601024 7293033) (hS : SCR Z L xs) (hL : L ≤ 2560) {h : am_H} {n np nq kc ks i : Nat} (hI : INV h n np nq) (hi : i + 5 ≤ L) (hkc : kc + 10 ≤ 601024) (hks : ks + 200 ≤ 7293033) (hend : ∀ (h' : am_H) (n' np' nq' : Nat), INV h' n' np' nq' → am_W Z (kc + 10) (ks + 200) 1529 [.ref (41), .ref (3), .ref (14), .ref (40), .int (nI i), .null, .null] [] h') : am_W Z kc ks 1341 [.ref (41), .ref (3), .ref (14), .ref (40), .int (nI i), .null, .null] [] h := by
  refine am_aload_n hC dL_law_1341 rfl ?_
  refine am_aload_n hC dL_law_1342 rfl ?_
  refine am_iload hC dL_law_1343 rfl ?_
  refine am_iconst (v := nI 1) hC dL_law_1345 (by decide) ?_
  refine am_iaddE (z := nI (i + 1)) hC dL_law_1346 (nI_add (i) (1)) ?_
  refine am_sld hC hS (j := i + 1) rfl (by omega) dL_law_1347 ?_
  refine am_aload_n hC dL_law_1348 rfl ?_
  refine am_callSX hC [.ref (3), .int (xs (i + 1)), .ref (40)] mf_L_print tw_593 (c_L_print _ _ (am_tr hC) h n np nq hI.1 hI.2.2 (xs (i + 1))) rfl ⟨rfl, Nat.le_of_ble_eq_true rfl⟩ ⟨by decide, by decide⟩ (by omega) (by omega) dL_law_1349 rfl (fun _ _ q _ => False.elim q) (fun v h1 hp hlc => ?_)
  obtain ⟨rfl, p1, p2⟩ := hp
  obtain ⟨mA, oA, leA⟩ := PO_A hI p1 p2 (fun x h' q => am_eq_mono (fun r hr => by unfold SP SL at hr; unfold SC; omega) q.2.1)
  have hk14 := FM_14 mA.1.1
  refine am_istore hC dL_law_1352 (by decide) ?_
  change am_W _ _ _ _ [.ref (41), .ref (3), .ref (14), .ref (40), .int (nI i), .int (nI (k3 (IX n (xs (i + 1))) (decide (nq < 30)) true)), .null] _ _
  refine am_aload_n hC dL_law_1354 rfl ?_
  refine am_aload_n hC dL_law_1355 rfl ?_
  refine am_iload hC dL_law_1356 rfl ?_
  refine am_iconst (v := nI 1) hC dL_law_1358 (by decide) ?_
  refine am_iaddE (z := nI (i + 1)) hC dL_law_1359 (nI_add (i) (1)) ?_
  refine am_sld hC hS (j := i + 1) rfl (by omega) dL_law_1360 ?_
  refine am_callV hC (ci := 7) (N := 20) [.int (xs (i + 1))] rfl hk14 rfl mf_X6_print tw_836 (c_X6_print _ _ (am_tr hC) h1 n (tC h) (xX h) (rX h) mA.1 np nq hI.1.2.1.2.1 hI.1.2.1.2.2 mA.2.1.1 mA.2.1.2 (pdH h) (hpd_ hI mA) (xs (i + 1))) rfl ⟨rfl, Nat.le_of_ble_eq_true rfl⟩ ⟨by decide, by decide⟩ (by omega) (by omega) dL_law_1361 rfl (fun _ _ q _ => False.elim q) (fun v h2 hp hlc => ?_)
  obtain ⟨l2, V, rfl, hm⟩ := hp
  have hr := st_print hI p1 p2 ⟨l2, hm⟩
  have hk14 := FM_14 hr.1
  have hO : OA h2 := hr.2.2.2.1
  refine am_istore hC dL_law_1364 (by decide) ?_
  change am_W _ _ _ _ [.ref (41), .ref (3), .ref (14), .ref (40), .int (nI i), .int (nI (k3 (IX n (xs (i + 1))) (decide (nq < 30)) true)), .int (V)] _ _
  refine am_aload_n hC dL_law_1366 rfl ?_
  refine am_callV hC (ci := 7) (N := 20) [] rfl hk14 rfl mf_X6_thrown tw_709 (c_X6_thrown _ _ (am_tr hC) h2 hr.1) rfl ⟨rfl, Nat.le_of_ble_eq_true rfl⟩ ⟨by decide, by decide⟩ (by omega) (by omega) dL_law_1367 rfl (fun _ _ q _ => False.elim q) (fun v h3 hp hlc => ?_)
  obtain ⟨e3, rfl⟩ := hp
  rw [e3]
  refine am_iload hC dL_law_1370 rfl ?_
  refine am_icmp_eq (tgt := 1377) hC dL_law_1372 (by decide) (fun c_1372 => ?_) (fun c_1372 => absurd hr.2.1 c_1372)
  refine am_iload hC dL_law_1377 rfl ?_
  refine am_if_ne (tgt := 1394) hC dL_law_1379 (by decide) (fun c_1379 => ?_) (fun c_1379 => ?_)
  · refine am_goto (tgt := 1529) hC dL_law_1394 (by decide) ?_
    obtain ⟨n2, np2, nq2, hI2⟩ := hr.2.2.2.2
    refine am_more (kc' := kc + 10) (ks' := ks + 200) (by omega) (by omega) ?_
    exact am_fgt (ls' := [.ref (41), .ref (3), .ref (14), .ref (40), .int (nI i), .null, .null]) ⟨Or.inl rfl, ⟨Or.inl rfl, ⟨Or.inl rfl, ⟨Or.inl rfl, ⟨Or.inl rfl, ⟨Or.inr rfl, ⟨Or.inr rfl, trivial⟩⟩⟩⟩⟩⟩⟩ (hend _ _ _ _ hI2)
  · have hK0 := nI_k3 c_1379
    refine am_aload_n hC dL_law_1382 rfl ?_
    refine am_iconst (v := nI 0) hC dL_law_1383 (by decide) ?_
    refine am_lald hC (j := 0) (N := 1) hO.1 hO.2 rfl (by decide) (by decide) dL_law_1384 ?_
    refine am_iload hC dL_law_1385 rfl ?_
    refine am_i2l hC dL_law_1387 ?_
    refine am_lcmp hC dL_law_1388 ?_
    refine am_if_eq (tgt := 1394) hC dL_law_1389 (by decide) (fun c_1389 => ?_) (fun c_1389 => absurd (lg_eq (hr.2.2.1 hK0)) c_1389)
    refine am_goto (tgt := 1529) hC dL_law_1394 (by decide) ?_
    obtain ⟨n2, np2, nq2, hI2⟩ := hr.2.2.2.2
    refine am_more (kc' := kc + 10) (ks' := ks + 200) (by omega) (by omega) ?_
    exact am_fgt (ls' := [.ref (41), .ref (3), .ref (14), .ref (40), .int (nI i), .null, .null]) ⟨Or.inl rfl, ⟨Or.inl rfl, ⟨Or.inl rfl, ⟨Or.inl rfl, ⟨Or.inl rfl, ⟨Or.inr rfl, ⟨Or.inr rfl, trivial⟩⟩⟩⟩⟩⟩⟩ (hend _ _ _ _ hI2)
set_option maxRecDepth 100000 in
set_option maxHeartbeats 4000000 in
theorem lc_permitOf {Z : am_Z} {L : Nat} {xs : Nat → Int32} (hC : am_OK Z "HousePlansLaw" cL_law 7 20 601024 7293033) (hS : SCR Z L xs) (hL : L ≤ 2560) {h : am_H} {n np nq kc ks i : Nat} (hI : INV h n np nq) (hi : i + 5 ≤ L) (hkc : kc + 10 ≤ 601024) (hks : ks + 200 ≤ 7293033) (hend : ∀ (h' : am_H) (n' np' nq' : Nat), INV h' n' np' nq' → am_W Z (kc + 10) (ks + 200) 1529 [.ref (41), .ref (3), .ref (14), .ref (40), .int (nI i), .null, .null] [] h') : am_W Z kc ks 1397 [.ref (41), .ref (3), .ref (14), .ref (40), .int (nI i), .null, .null] [] h := by
  refine am_aload_n hC dL_law_1397 rfl ?_
  refine am_aload_n hC dL_law_1398 rfl ?_
  refine am_iload hC dL_law_1399 rfl ?_
  refine am_iconst (v := nI 1) hC dL_law_1401 (by decide) ?_
  refine am_iaddE (z := nI (i + 1)) hC dL_law_1402 (nI_add (i) (1)) ?_
  refine am_sld hC hS (j := i + 1) rfl (by omega) dL_law_1403 ?_
  refine am_aload_n hC dL_law_1404 rfl ?_
  refine am_callSX hC [.ref (3), .int (xs (i + 1)), .ref (40)] mf_L_permitOf tw_623 (c_L_permitOf _ _ (am_tr hC) h n np nq hI.1 hI.2.2 (xs (i + 1))) rfl ⟨rfl, Nat.le_of_ble_eq_true rfl⟩ ⟨by decide, by decide⟩ (by omega) (by omega) dL_law_1405 rfl (fun _ _ q _ => False.elim q) (fun v h1 hp hlc => ?_)
  obtain ⟨rfl, p1, p2⟩ := hp
  obtain ⟨mA, oA, leA⟩ := PO_A hI p1 p2 (fun x h' q => by rw [q.2]; exact am_eq_rf _ _)
  have hk14 := FM_14 mA.1.1
  refine am_istore hC dL_law_1408 (by decide) ?_
  change am_W _ _ _ _ [.ref (41), .ref (3), .ref (14), .ref (40), .int (nI i), .int (nI (k3 (IX nq (xs (i + 1))) true true)), .null] _ _
  refine am_aload_n hC dL_law_1410 rfl ?_
  refine am_aload_n hC dL_law_1411 rfl ?_
  refine am_iload hC dL_law_1412 rfl ?_
  refine am_iconst (v := nI 1) hC dL_law_1414 (by decide) ?_
  refine am_iaddE (z := nI (i + 1)) hC dL_law_1415 (nI_add (i) (1)) ?_
  refine am_sld hC hS (j := i + 1) rfl (by omega) dL_law_1416 ?_
  refine am_callV hC (ci := 7) (N := 20) [.int (xs (i + 1))] rfl hk14 rfl mf_X6_permitOf tw_840 (c_X6_permitOf _ _ (am_tr hC) h1 n (tC h) (xX h) (rX h) mA.1 nq hI.1.2.1.2.2 mA.2.1.2 (qdH h) (hqd_ hI mA) (xs (i + 1))) rfl ⟨rfl, Nat.le_of_ble_eq_true rfl⟩ ⟨by decide, by decide⟩ (by omega) (by omega) dL_law_1417 rfl (fun _ _ q _ => False.elim q) (fun v h2 hp hlc => ?_)
  obtain ⟨V, rfl, hm⟩ := hp
  have hr := st_permitOf hI p1 p2 hm
  have hk14 := FM_14 hr.1
  have hO : OA h2 := hr.2.2.2.1
  refine am_istore hC dL_law_1420 (by decide) ?_
  change am_W _ _ _ _ [.ref (41), .ref (3), .ref (14), .ref (40), .int (nI i), .int (nI (k3 (IX nq (xs (i + 1))) true true)), .int (V)] _ _
  refine am_aload_n hC dL_law_1422 rfl ?_
  refine am_callV hC (ci := 7) (N := 20) [] rfl hk14 rfl mf_X6_thrown tw_709 (c_X6_thrown _ _ (am_tr hC) h2 hr.1) rfl ⟨rfl, Nat.le_of_ble_eq_true rfl⟩ ⟨by decide, by decide⟩ (by omega) (by omega) dL_law_1423 rfl (fun _ _ q _ => False.elim q) (fun v h3 hp hlc => ?_)
  obtain ⟨e3, rfl⟩ := hp
  rw [e3]
  refine am_iload hC dL_law_1426 rfl ?_
  refine am_icmp_eq (tgt := 1433) hC dL_law_1428 (by decide) (fun c_1428 => ?_) (fun c_1428 => absurd hr.2.1 c_1428)
  refine am_iload hC dL_law_1433 rfl ?_
  refine am_if_ne (tgt := 1450) hC dL_law_1435 (by decide) (fun c_1435 => ?_) (fun c_1435 => ?_)
  · refine am_goto (tgt := 1529) hC dL_law_1450 (by decide) ?_
    obtain ⟨n2, np2, nq2, hI2⟩ := hr.2.2.2.2
    refine am_more (kc' := kc + 10) (ks' := ks + 200) (by omega) (by omega) ?_
    exact am_fgt (ls' := [.ref (41), .ref (3), .ref (14), .ref (40), .int (nI i), .null, .null]) ⟨Or.inl rfl, ⟨Or.inl rfl, ⟨Or.inl rfl, ⟨Or.inl rfl, ⟨Or.inl rfl, ⟨Or.inr rfl, ⟨Or.inr rfl, trivial⟩⟩⟩⟩⟩⟩⟩ (hend _ _ _ _ hI2)
  · have hK0 := nI_k3 c_1435
    refine am_aload_n hC dL_law_1438 rfl ?_
    refine am_iconst (v := nI 0) hC dL_law_1439 (by decide) ?_
    refine am_lald hC (j := 0) (N := 1) hO.1 hO.2 rfl (by decide) (by decide) dL_law_1440 ?_
    refine am_iload hC dL_law_1441 rfl ?_
    refine am_i2l hC dL_law_1443 ?_
    refine am_lcmp hC dL_law_1444 ?_
    refine am_if_eq (tgt := 1450) hC dL_law_1445 (by decide) (fun c_1445 => ?_) (fun c_1445 => absurd (lg_eq (hr.2.2.1 hK0)) c_1445)
    refine am_goto (tgt := 1529) hC dL_law_1450 (by decide) ?_
    obtain ⟨n2, np2, nq2, hI2⟩ := hr.2.2.2.2
    refine am_more (kc' := kc + 10) (ks' := ks + 200) (by omega) (by omega) ?_
    exact am_fgt (ls' := [.ref (41), .ref (3), .ref (14), .ref (40), .int (nI i), .null, .null]) ⟨Or.inl rfl, ⟨Or.inl rfl, ⟨Or.inl rfl, ⟨Or.inl rfl, ⟨Or.inl rfl, ⟨Or.inr rfl, ⟨Or.inr rfl, trivial⟩⟩⟩⟩⟩⟩⟩ (hend _ _ _ _ hI2)
set_option maxRecDepth 100000 in
set_option maxHeartbeats 4000000 in
theorem lc_isGood {Z : am_Z} {L : Nat} {xs : Nat → Int32} (hC : am_OK Z "HousePlansLaw" cL_law 7 20 601024 7293033) (hS : SCR Z L xs) (hL : L ≤ 2560) {h : am_H} {n np nq kc ks i : Nat} (hI : INV h n np nq) (hi : i + 5 ≤ L) (hkc : kc + 10 ≤ 601024) (hks : ks + 200 ≤ 7293033) (hend : ∀ (h' : am_H) (n' np' nq' : Nat), INV h' n' np' nq' → am_W Z (kc + 10) (ks + 200) 1529 [.ref (41), .ref (3), .ref (14), .ref (40), .int (nI i), .null, .null] [] h') : am_W Z kc ks 1453 [.ref (41), .ref (3), .ref (14), .ref (40), .int (nI i), .null, .null] [] h := by
  refine am_aload_n hC dL_law_1453 rfl ?_
  refine am_aload_n hC dL_law_1454 rfl ?_
  refine am_iload hC dL_law_1455 rfl ?_
  refine am_iconst (v := nI 1) hC dL_law_1457 (by decide) ?_
  refine am_iaddE (z := nI (i + 1)) hC dL_law_1458 (nI_add (i) (1)) ?_
  refine am_sld hC hS (j := i + 1) rfl (by omega) dL_law_1459 ?_
  refine am_aload_n hC dL_law_1460 rfl ?_
  refine am_callSX hC [.ref (3), .int (xs (i + 1)), .ref (40)] mf_L_isGood tw_635 (c_L_isGood _ _ (am_tr hC) h n np nq hI.1 hI.2.2 (xs (i + 1))) rfl ⟨rfl, Nat.le_of_ble_eq_true rfl⟩ ⟨by decide, by decide⟩ (by omega) (by omega) dL_law_1461 rfl (fun _ _ q _ => False.elim q) (fun v h1 hp hlc => ?_)
  obtain ⟨rfl, p1, p2⟩ := hp
  obtain ⟨mA, oA, leA⟩ := PO_A hI p1 p2 (fun x h' q => by obtain ⟨R, -, -, e⟩ := q; rw [e]; exact am_eq_rf _ _)
  have hk14 := FM_14 mA.1.1
  refine am_istore hC dL_law_1464 (by decide) ?_
  change am_W _ _ _ _ [.ref (41), .ref (3), .ref (14), .ref (40), .int (nI i), .int (nI (k3 (IX nq (xs (i + 1))) true true)), .null] _ _
  refine am_aload_n hC dL_law_1466 rfl ?_
  refine am_aload_n hC dL_law_1467 rfl ?_
  refine am_iload hC dL_law_1468 rfl ?_
  refine am_iconst (v := nI 1) hC dL_law_1470 (by decide) ?_
  refine am_iaddE (z := nI (i + 1)) hC dL_law_1471 (nI_add (i) (1)) ?_
  refine am_sld hC hS (j := i + 1) rfl (by omega) dL_law_1472 ?_
  refine am_callV hC (ci := 7) (N := 20) [.int (xs (i + 1))] rfl hk14 rfl mf_X6_isGood tw_848 (c_X6_isGood _ _ (am_tr hC) h1 n (tC h) (xX h) (rX h) mA.1 nq hI.1.2.1.2.2 mA.2.1.2 (qdH h) (hqd_ hI mA) (xs (i + 1))) rfl ⟨rfl, Nat.le_of_ble_eq_true rfl⟩ ⟨by decide, by decide⟩ (by omega) (by omega) dL_law_1473 rfl (fun _ _ q _ => False.elim q) (fun v h2 hp hlc => ?_)
  obtain ⟨V, rfl, hm⟩ := hp
  have ⟨hr, hB⟩ := st_isGood hI p1 p2 hm
  have hk14 := FM_14 hr.1
  have hO : OA h2 := hr.2.2.2.1
  refine am_istore hC dL_law_1476 (by decide) ?_
  change am_W _ _ _ _ [.ref (41), .ref (3), .ref (14), .ref (40), .int (nI i), .int (nI (k3 (IX nq (xs (i + 1))) true true)), .int (V)] _ _
  refine am_aload_n hC dL_law_1478 rfl ?_
  refine am_callV hC (ci := 7) (N := 20) [] rfl hk14 rfl mf_X6_thrown tw_709 (c_X6_thrown _ _ (am_tr hC) h2 hr.1) rfl ⟨rfl, Nat.le_of_ble_eq_true rfl⟩ ⟨by decide, by decide⟩ (by omega) (by omega) dL_law_1479 rfl (fun _ _ q _ => False.elim q) (fun v h3 hp hlc => ?_)
  obtain ⟨e3, rfl⟩ := hp
  rw [e3]
  refine am_iload hC dL_law_1482 rfl ?_
  refine am_icmp_eq (tgt := 1489) hC dL_law_1484 (by decide) (fun c_1484 => ?_) (fun c_1484 => absurd hr.2.1 c_1484)
  refine am_iload hC dL_law_1489 rfl ?_
  refine am_if_ne (tgt := 1513) hC dL_law_1491 (by decide) (fun c_1491 => ?_) (fun c_1491 => ?_)
  · refine am_goto (tgt := 1529) hC dL_law_1513 (by decide) ?_
    obtain ⟨n2, np2, nq2, hI2⟩ := hr.2.2.2.2
    refine am_more (kc' := kc + 10) (ks' := ks + 200) (by omega) (by omega) ?_
    exact am_fgt (ls' := [.ref (41), .ref (3), .ref (14), .ref (40), .int (nI i), .null, .null]) ⟨Or.inl rfl, ⟨Or.inl rfl, ⟨Or.inl rfl, ⟨Or.inl rfl, ⟨Or.inl rfl, ⟨Or.inr rfl, ⟨Or.inr rfl, trivial⟩⟩⟩⟩⟩⟩⟩ (hend _ _ _ _ hI2)
  · have hK0 := nI_k3 c_1491
    refine am_aload_n hC dL_law_1494 rfl ?_
    refine am_iconst (v := nI 0) hC dL_law_1495 (by decide) ?_
    refine am_lald hC (j := 0) (N := 1) hO.1 hO.2 rfl (by decide) (by decide) dL_law_1496 ?_
    refine am_iload hC dL_law_1497 rfl ?_
    refine am_if_eq (tgt := 1506) hC dL_law_1499 (by decide) (fun c_1499 => ?_) (fun c_1499 => ?_)
    · refine am_lconst (v := 0) hC dL_law_1506 (by decide) ?_
      refine am_lcmp hC dL_law_1507 ?_
      refine am_if_eq (tgt := 1513) hC dL_law_1508 (by decide) (fun c_1508 => ?_) (fun c_1508 => absurd (lg_eq (lv_0 c_1499 (hr.2.2.1 hK0))) c_1508)
      refine am_goto (tgt := 1529) hC dL_law_1513 (by decide) ?_
      obtain ⟨n2, np2, nq2, hI2⟩ := hr.2.2.2.2
      refine am_more (kc' := kc + 10) (ks' := ks + 200) (by omega) (by omega) ?_
      exact am_fgt (ls' := [.ref (41), .ref (3), .ref (14), .ref (40), .int (nI i), .null, .null]) ⟨Or.inl rfl, ⟨Or.inl rfl, ⟨Or.inl rfl, ⟨Or.inl rfl, ⟨Or.inl rfl, ⟨Or.inr rfl, ⟨Or.inr rfl, trivial⟩⟩⟩⟩⟩⟩⟩ (hend _ _ _ _ hI2)
    · refine am_lconst (v := 1) hC dL_law_1502 (by decide) ?_
      refine am_goto (tgt := 1507) hC dL_law_1503 (by decide) ?_
      refine am_lcmp hC dL_law_1507 ?_
      refine am_if_eq (tgt := 1513) hC dL_law_1508 (by decide) (fun c_1508 => ?_) (fun c_1508 => absurd (lg_eq (lv_1 c_1499 (hB hK0) (hr.2.2.1 hK0))) c_1508)
      refine am_goto (tgt := 1529) hC dL_law_1513 (by decide) ?_
      obtain ⟨n2, np2, nq2, hI2⟩ := hr.2.2.2.2
      refine am_more (kc' := kc + 10) (ks' := ks + 200) (by omega) (by omega) ?_
      exact am_fgt (ls' := [.ref (41), .ref (3), .ref (14), .ref (40), .int (nI i), .null, .null]) ⟨Or.inl rfl, ⟨Or.inl rfl, ⟨Or.inl rfl, ⟨Or.inl rfl, ⟨Or.inl rfl, ⟨Or.inr rfl, ⟨Or.inr rfl, trivial⟩⟩⟩⟩⟩⟩⟩ (hend _ _ _ _ hI2)
set_option maxRecDepth 100000 in
set_option maxHeartbeats 4000000 in
theorem lc_old {Z : am_Z} {L : Nat} {xs : Nat → Int32} (hC : am_OK Z "HousePlansLaw" cL_law 7 20 601024 7293033) (hS : SCR Z L xs) (hL : L ≤ 2560) {h : am_H} {n np nq kc ks i : Nat} (hI : INV h n np nq) (hi : i + 5 ≤ L) (hkc : kc + 10 ≤ 601024) (hks : ks + 200 ≤ 7293033) (hend : ∀ (h' : am_H) (n' np' nq' : Nat), INV h' n' np' nq' → am_W Z (kc + 10) (ks + 200) 1529 [.ref (41), .ref (3), .ref (14), .ref (40), .int (nI i), .null, .null] [] h') : am_W Z kc ks 1516 [.ref (41), .ref (3), .ref (14), .ref (40), .int (nI i), .null, .null] [] h := by
  refine am_aload_n hC dL_law_1516 rfl ?_
  refine am_callV hC (ci := 6) (N := 4) [] rfl (FC_3 hI.1) rfl mf_X5_old tw_116 (c_X5_old _ _ (am_tr hC) h n np nq hI.1) rfl ⟨rfl, Nat.le_of_ble_eq_true rfl⟩ ⟨by decide, by decide⟩ (by omega) (by omega) dL_law_1517 rfl (fun _ _ q _ => False.elim q) (fun v h' hp hlc => ?_)
  obtain ⟨rfl, p, hp1, rfl⟩ := hp
  refine am_aload_n hC dL_law_1520 rfl ?_
  have hk14 := FM_14 hI.2.1.1.1
  refine am_callV hC (ci := 7) (N := 20) [] rfl hk14 rfl mf_X6_old tw_856 (c_X6_old _ _ (am_tr hC) h' n (tC h') (xX h') (rX h') hI.2.1.1 nq hI.1.2.1.2.2 hI.2.1.2.1.2 (qdH h') (hqd_ hI hI.2.1)) rfl ⟨rfl, Nat.le_of_ble_eq_true rfl⟩ ⟨by decide, by decide⟩ (by omega) (by omega) dL_law_1521 rfl (fun _ _ q _ => False.elim q) (fun v h2 hp hlc => ?_)
  obtain ⟨e2, l2, q, hq1, rfl⟩ := hp
  have hI2 : INV h2 n np nq := INV_eq (S := S4) (fun r hr => by unfold S4 at hr; omega) e2 l2 (INV_th hI)
  have hpq : cnt p nq = cnt q nq := cnt_cg (fun i hi => b_iff (hp1 i hi) (hq1 i hi) (not_congr (MK_Q hI hI.2.1 hi).symm))
  refine am_icmp_eq (tgt := 1529) hC dL_law_1524 (by decide) (fun c_1524 => ?_) (fun c_1524 => absurd (by rw [hpq]) c_1524)
  exact am_more (by omega) (by omega) (hend _ _ _ _ hI2)
