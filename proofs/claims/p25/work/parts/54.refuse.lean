/-! ===== the law's refuses ===== -/
theorem am_ineg {Z : am_Z} {own : String} {cc : ByteArray} {n L mc ms : Nat} (hC : am_OK Z own cc n L mc ms) {kc ks pc : Nat} {ls st : List Value} {h : am_H} {x v : Int32} (hd : decode cc pc = .ok (.ineg, 1)) (hv : -x = v) (k : am_W Z kc ks (pc + 1) ls (.int v :: st) h) : am_W Z kc ks pc ls (.int x :: st) h := by
  obtain ⟨G, p, l, e, R, s, m, args, below, meth, c, h0, ad0, n', Q⟩ := Z
  obtain ⟨rfl, ⟨hx, hb, hml, hown, hts⟩, hlk, hE, htr, hR1, hR2, hR3, hR4⟩ := hC
  subst hv
  refine fun ad H locs lc hA hS hX hl hvl hvs => ?_
  exact lv_ineg hx hb hd (k ad H locs lc hA hS hX hl hvl (am_Vc trivial (am_Vt hvs)))
theorem z_bad {K c : Nat} {x y : Int32} {h : am_H} {σ σ' : z_Sg} {v : Option Value} (hK : K = c) (hc : c ≠ 0) (e : z_an c 0 = y) (hp : v = some (.int (z_an K x)) ∧ SZ h (z_as K σ σ')) : v = some (.int y) ∧ SZ h σ := by
  subst hK; subst e
  unfold z_an z_as at hp
  unfold z_an
  rw [if_neg hc, if_neg hc] at hp
  rw [if_neg hc]
  exact hp
theorem z_badx {K c : Nat} {y : Int32} {h : am_H} {σ : z_Sg} {v : Option Value} (hK : K = c) (hc : c ≠ 0) (e : z_an c 0 = y) (hp : ∃ x, v = some (.int (z_an K x)) ∧ SZ h σ) : v = some (.int y) ∧ SZ h σ := by
  obtain ⟨x, h1, h2⟩ := hp
  subst hK; subst e
  refine ⟨?_, h2⟩
  rw [h1]
  unfold z_an
  rw [if_neg hc, if_neg hc]
theorem k3_1 {a b c : Bool} (h : a = false) : k3 a b c = 1 := if_pos h
theorem k3_2 {a b c : Bool} (h : a = true) (h2 : b = false) : k3 a b c = 2 := by subst h; subst h2; rfl
theorem k2_1 {a b : Bool} (h : a = false) : k2 a b = 1 := if_pos h
theorem IX_top {m : Nat} (hm : m < 2 ^ 31) : IX m (nI m) = false := IX_n hm (fun ⟨j, hj, e⟩ => by have := (nI_eq hm (by omega)).mp e; omega)
theorem IX_neg {m : Nat} {p : Int32} (h : p < 0) : IX m p = false := by
  unfold IX
  rw [decide_eq_false (fun q => absurd h (Int32.not_lt.mpr q))]
  rfl
theorem IX_max {m : Nat} (hm : m ≤ 40) : IX m 2147483647 = false := by
  unfold IX
  rw [decide_eq_false (p := (2147483647 : Int32) < nI m) (fun q => ?_)]
  · exact Bool.and_false _
  · have a : nI m ≤ nI 40 := (nI_leI (by omega) (by omega)).mpr hm
    exact absurd (Int32.lt_of_lt_of_le q a) (by decide)
/-- a drawing that there is not -/
theorem b_actD (G : am_G) (l : Launch) (htr : l.stackTraces = false) (h : am_H) {σ : z_Sg} (hS : SZ h σ) (w : Nat) (h1 : 4 ≤ w) (h2 : w < 11) (A B C E : Int32) (hA : IX (z_n σ) A = false) : am_Met G l yL_act (.codeWith yL_act cL_act 7 (some .int) [((0 : Nat), (317 : Nat), (318 : Nat), (13 : Nat)), ((0 : Nat), (317 : Nat), (323 : Nat), (15 : Nat)), ((0 : Nat), (317 : Nat), (328 : Nat), (17 : Nat))]) 13 10 190 [.ref (3), .int (nI w), .int A, .int B, .int C, .int E] h (fun v h' => v = some (.int (-71)) ∧ SZ h' σ) am_no := by
  rcases (by omega : w = 4 ∨ w = 5 ∨ w = 6 ∨ w = 7 ∨ w = 8 ∨ w = 9 ∨ w = 10) with rfl | rfl | rfl | rfl | rfl | rfl | rfl
  · exact am_mono (c_act4 G l htr h hS A B C E) (fun v h' _ hp => z_bad (c := 1) (k3_1 hA) (by decide) rfl hp) (fun _ _ _ q => q)
  · exact am_mono (c_act5 G l htr h hS A B C E) (fun v h' _ hp => z_bad (c := 1) (k3_1 hA) (by decide) rfl hp) (fun _ _ _ q => q)
  · exact am_mono (c_act6 G l htr h hS A B C E) (fun v h' _ hp => z_badx (c := 1) (k3_1 hA) (by decide) rfl hp) (fun _ _ _ q => q)
  · exact am_mono (c_act7 G l htr h hS A B C E) (fun v h' _ hp => z_badx (c := 1) (k3_1 hA) (by decide) rfl hp) (fun _ _ _ q => q)
  · exact am_mono (c_act8 G l htr h hS A B C E) (fun v h' _ hp => z_badx (c := 1) (k3_1 hA) (by decide) rfl hp) (fun _ _ _ q => q)
  · exact am_mono (c_act9 G l htr h hS A B C E) (fun v h' _ hp => z_badx (c := 1) (k3_1 hA) (by decide) rfl hp) (fun _ _ _ q => q)
  · exact am_mono (c_act10 G l htr h hS A B C E) (fun v h' _ hp => z_badx (c := 1) (k3_1 hA) (by decide) rfl hp) (fun _ _ _ q => q)
/-- a side, a cell that there is not -/
theorem b_actC (G : am_G) (l : Launch) (htr : l.stackTraces = false) (h : am_H) {σ : z_Sg} (hS : SZ h σ) (w : Nat) (h1 : 4 ≤ w) (h2 : w < 11) (h6 : w ≠ 6) (A B C E : Int32) (hA : IX (z_n σ) A = true) (hB : w = 4 → IX 40 B = false) (hB2 : w ≠ 4 → IX 25 B = false) : am_Met G l yL_act (.codeWith yL_act cL_act 7 (some .int) [((0 : Nat), (317 : Nat), (318 : Nat), (13 : Nat)), ((0 : Nat), (317 : Nat), (323 : Nat), (15 : Nat)), ((0 : Nat), (317 : Nat), (328 : Nat), (17 : Nat))]) 13 10 190 [.ref (3), .int (nI w), .int A, .int B, .int C, .int E] h (fun v h' => v = some (.int (-72)) ∧ SZ h' σ) am_no := by
  rcases (by omega : w = 4 ∨ w = 5 ∨ w = 7 ∨ w = 8 ∨ w = 9 ∨ w = 10) with rfl | rfl | rfl | rfl | rfl | rfl
  · exact am_mono (c_act4 G l htr h hS A B C E) (fun v h' _ hp => z_bad (c := 2) (k3_2 hA (hB rfl)) (by decide) rfl hp) (fun _ _ _ q => q)
  · exact am_mono (c_act5 G l htr h hS A B C E) (fun v h' _ hp => z_bad (c := 2) (k3_2 hA (hB2 (by decide))) (by decide) rfl hp) (fun _ _ _ q => q)
  · exact am_mono (c_act7 G l htr h hS A B C E) (fun v h' _ hp => z_badx (c := 2) (k3_2 hA (hB2 (by decide))) (by decide) rfl hp) (fun _ _ _ q => q)
  · exact am_mono (c_act8 G l htr h hS A B C E) (fun v h' _ hp => z_badx (c := 2) (k3_2 hA (hB2 (by decide))) (by decide) rfl hp) (fun _ _ _ q => q)
  · exact am_mono (c_act9 G l htr h hS A B C E) (fun v h' _ hp => z_badx (c := 2) (k3_2 hA (hB2 (by decide))) (by decide) rfl hp) (fun _ _ _ q => q)
  · exact am_mono (c_act10 G l htr h hS A B C E) (fun v h' _ hp => z_badx (c := 2) (k3_2 hA (hB2 (by decide))) (by decide) rfl hp) (fun _ _ _ q => q)
/-- a drawing, a permit, a print that there is not -/
theorem b_actI (G : am_G) (l : Launch) (htr : l.stackTraces = false) (h : am_H) {σ : z_Sg} (hS : SZ h σ) (w : Nat) (h1 : 12 ≤ w) (h2 : w < 18) (A B C E : Int32) (hA : w ≠ 14 → w ≤ 15 → IX (z_n σ) A = false) (hB : w = 14 → IX (z_np σ) A = false) (hC : 15 < w → IX (z_nq σ) A = false) : am_Met G l yL_act (.codeWith yL_act cL_act 7 (some .int) [((0 : Nat), (317 : Nat), (318 : Nat), (13 : Nat)), ((0 : Nat), (317 : Nat), (323 : Nat), (15 : Nat)), ((0 : Nat), (317 : Nat), (328 : Nat), (17 : Nat))]) 13 10 190 [.ref (3), .int (nI w), .int A, .int B, .int C, .int E] h (fun v h' => v = some (.int (-71)) ∧ SZ h' σ) am_no := by
  rcases (by omega : w = 12 ∨ w = 13 ∨ w = 14 ∨ w = 15 ∨ w = 16 ∨ w = 17) with rfl | rfl | rfl | rfl | rfl | rfl
  · exact am_mono (c_act12 G l htr h hS A B C E) (fun v h' _ hp => z_bad (c := 1) (k3_1 (hA (by decide) (by decide))) (by decide) rfl hp) (fun _ _ _ q => q)
  · exact am_mono (c_act13 G l htr h hS A B C E true (fun q => absurd q (by rw [hA (by decide) (by decide)]; decide))) (fun v h' _ hp => z_bad (c := 1) (k2_1 (hA (by decide) (by decide))) (by decide) rfl hp) (fun _ _ _ q => q)
  · exact am_mono (c_act14 G l htr h hS A B C E) (fun v h' _ hp => z_bad (c := 1) (k3_1 (hB rfl)) (by decide) rfl hp) (fun _ _ _ q => q)
  · exact am_mono (c_act15 G l htr h hS A B C E) (fun v h' _ hp => z_bad (c := 1) (k2_1 (hA (by decide) (by decide))) (by decide) rfl hp) (fun _ _ _ q => q)
  · exact am_mono (c_act16 G l htr h hS A B C E) (fun v h' _ hp => z_bad (c := 1) (k3_1 (hC (by decide))) (by decide) rfl hp) (fun _ _ _ q => q)
  · exact am_mono (c_act17 G l htr h hS A B C E) (fun v h' _ hp => z_bad (c := 1) (k3_1 (hC (by decide))) (by decide) rfl hp) (fun _ _ _ q => q)
/-- numbers that name nothing -/
def z_RF (σ : z_Sg) (kk : Nat) (no le dr pe ce si : Int32) : Prop := kk < 4 ∧ IX (z_n σ) dr = false ∧ IX 6 pe = false ∧ IX 25 ce = false ∧ IX 40 si = false ∧ (kk ≠ 1 → (∀ m, m ≤ 40 → IX m no = false) ∧ IW le = false ∧ (decide (le = -1) || IX 6 le) = false)
set_option maxRecDepth 100000 in
set_option maxHeartbeats 4000000 in
theorem rf_l1 {Z : am_Z} {σ : z_Sg} (hC : am_OK Z "HousePlansLaw" cL_refuses 16 14 1800 34000) {x0 mo no le dr pe ce si : Int32} {kk : Nat} (hF : z_RF σ kk no le dr pe ce si) {kc1 ks1 : Nat} (hb : kc1 ≤ 1800 ∧ ks1 ≤ 34000) (hk : ∀ h, SZ h σ → am_W Z kc1 ks1 298 [.ref (3), .int (nI (z_np σ)), .int (nI (z_nq σ)), .int (nI (z_n σ)), .int (x0), .int (mo), .int (nI kk), .int (no), .int (le), .int (dr), .int (pe), .int (ce), .int (si), .int (nI 1), .int (nI 11), .null] [] h) : ∀ (q w kc ks : Nat) (h : am_H), w + q = 11 → 4 ≤ w → kc + 20 * q ≤ kc1 → ks + 380 * q ≤ ks1 → SZ h σ → am_W Z kc ks 219 [.ref (3), .int (nI (z_np σ)), .int (nI (z_nq σ)), .int (nI (z_n σ)), .int (x0), .int (mo), .int (nI kk), .int (no), .int (le), .int (dr), .int (pe), .int (ce), .int (si), .int (nI 1), .int (nI w), .null] [] h := by
  obtain ⟨k4, fD, fP, fC, fS, fK⟩ := hF
  intro q
  induction q with
  | zero =>
    intro w kc ks h hw h4 hkc hks hS
    obtain rfl : w = 11 := by omega
    refine am_iload hC dL_refuses_219 rfl ?_
    refine am_bipush (v := nI 11) hC dL_refuses_221 (by decide) ?_
    refine am_icmp_ge (tgt := 298) hC dL_refuses_223 (by decide) (fun c_223 => ?_) (fun c_223 => absurd (by decide) c_223)
    exact am_more (by omega) (by omega) (hk h hS)
  | succ q ih =>
    intro w kc ks h hw h4 hkc hks hS
    have n6 := (SZ_6 hS).1
    refine am_iload hC dL_refuses_219 rfl ?_
    refine am_bipush (v := nI 11) hC dL_refuses_221 (by decide) ?_
    refine am_icmp_ge (tgt := 298) hC dL_refuses_223 (by decide) (fun c_223 => absurd c_223 (by rw [Int32.not_le]; exact nI_lt (by omega) (by omega))) (fun c_223 => ?_)
    refine am_iload hC dL_refuses_226 rfl ?_
    refine am_if_eq (tgt := 289) hC dL_refuses_228 (by decide) (fun c_228 => absurd c_228 (by decide)) (fun c_228 => ?_)
    refine am_aload_n hC dL_refuses_231 rfl ?_
    refine am_iload hC dL_refuses_232 rfl ?_
    refine am_iload hC dL_refuses_234 rfl ?_
    refine am_iconst (v := -1) hC dL_refuses_236 (by decide) ?_
    refine am_iconst (v := nI 0) hC dL_refuses_237 (by decide) ?_
    refine am_iconst (v := nI 0) hC dL_refuses_238 (by decide) ?_
    refine am_callSX hC [.ref (3), .int (nI w), .int (dr), .int (-1), .int (nI 0), .int (nI 0)] mf_L_act tw_447 (b_actD _ _ (am_tr hC) h hS w (by omega) (by omega) dr _ _ _ fD) rfl ⟨rfl, Nat.le_of_ble_eq_true rfl⟩ ⟨by decide, by decide⟩ (by omega) (by omega) dL_refuses_239 rfl (fun _ _ q _ => False.elim q) (fun v h hp hlc => ?_)
    obtain ⟨rfl, hS⟩ := hp
    refine am_bipush (v := -71) hC dL_refuses_242 (by decide) ?_
    refine am_icmp_ne (tgt := 289) hC dL_refuses_244 (by decide) (fun c_244 => absurd rfl c_244) (fun c_244 => ?_)
    refine am_iload_n hC dL_refuses_247 rfl ?_
    refine am_if_eq (tgt := 285) hC dL_refuses_248 (by decide) (fun c_248 => ?_) (fun c_248 => ?_)
    · replace c_248 : (z_n σ) = 0 := (nI_eq (a := (z_n σ)) (b := 0) (by omega) (by omega)).mp c_248
      refine am_iconst (v := nI 1) hC dL_refuses_285 (by decide) ?_
      refine am_goto (tgt := 290) hC dL_refuses_286 (by decide) ?_
      refine am_istore hC dL_refuses_290 (by decide) ?_
      change am_W _ _ _ _ [.ref (3), .int (nI (z_np σ)), .int (nI (z_nq σ)), .int (nI (z_n σ)), .int (x0), .int (mo), .int (nI kk), .int (no), .int (le), .int (dr), .int (pe), .int (ce), .int (si), .int (nI 1), .int (nI w), .null] _ _
      refine am_iinc (v := nI (w + 1)) hC dL_refuses_292 rfl (nI_1 (w)) (by decide) ?_
      change am_W _ _ _ _ [.ref (3), .int (nI (z_np σ)), .int (nI (z_nq σ)), .int (nI (z_n σ)), .int (x0), .int (mo), .int (nI kk), .int (no), .int (le), .int (dr), .int (pe), .int (ce), .int (si), .int (nI 1), .int (nI (w + 1)), .null] _ _
      refine am_goto (tgt := 219) hC dL_refuses_295 (by decide) ?_
      exact ih (w + 1) _ _ h (by omega) (by omega) (by omega) (by omega) hS
    · replace c_248 : ¬ (z_n σ) = 0 := fun q9 => c_248 ((nI_eq (a := (z_n σ)) (b := 0) (by omega) (by omega)).mpr q9)
      refine am_iload hC dL_refuses_251 rfl ?_
      refine am_bipush (v := nI 6) hC dL_refuses_253 (by decide) ?_
      refine am_icmp_eq (tgt := 285) hC dL_refuses_255 (by decide) (fun c_255 => ?_) (fun c_255 => ?_)
      · replace c_255 : w = 6 := (nI_eq (a := w) (b := 6) (by omega) (by omega)).mp c_255
        refine am_iconst (v := nI 1) hC dL_refuses_285 (by decide) ?_
        refine am_goto (tgt := 290) hC dL_refuses_286 (by decide) ?_
        refine am_istore hC dL_refuses_290 (by decide) ?_
        change am_W _ _ _ _ [.ref (3), .int (nI (z_np σ)), .int (nI (z_nq σ)), .int (nI (z_n σ)), .int (x0), .int (mo), .int (nI kk), .int (no), .int (le), .int (dr), .int (pe), .int (ce), .int (si), .int (nI 1), .int (nI w), .null] _ _
        refine am_iinc (v := nI (w + 1)) hC dL_refuses_292 rfl (nI_1 (w)) (by decide) ?_
        change am_W _ _ _ _ [.ref (3), .int (nI (z_np σ)), .int (nI (z_nq σ)), .int (nI (z_n σ)), .int (x0), .int (mo), .int (nI kk), .int (no), .int (le), .int (dr), .int (pe), .int (ce), .int (si), .int (nI 1), .int (nI (w + 1)), .null] _ _
        refine am_goto (tgt := 219) hC dL_refuses_295 (by decide) ?_
        exact ih (w + 1) _ _ h (by omega) (by omega) (by omega) (by omega) hS
      · replace c_255 : ¬ w = 6 := fun q9 => c_255 ((nI_eq (a := w) (b := 6) (by omega) (by omega)).mpr q9)
        refine am_aload_n hC dL_refuses_258 rfl ?_
        refine am_iload hC dL_refuses_259 rfl ?_
        refine am_iconst (v := nI 0) hC dL_refuses_261 (by decide) ?_
        refine am_iload hC dL_refuses_262 rfl ?_
        refine am_iconst (v := nI 4) hC dL_refuses_264 (by decide) ?_
        refine am_icmp_ne (tgt := 273) hC dL_refuses_265 (by decide) (fun c_265 => ?_) (fun c_265 => ?_)
        · replace c_265 : ¬ w = 4 := fun q9 => c_265 ((nI_eq (a := w) (b := 4) (by omega) (by omega)).mpr q9)
          refine am_iload hC dL_refuses_273 rfl ?_
          refine am_iconst (v := nI 0) hC dL_refuses_275 (by decide) ?_
          refine am_iconst (v := nI 0) hC dL_refuses_276 (by decide) ?_
          refine am_callSX hC [.ref (3), .int (nI w), .int (nI 0), .int (ce), .int (nI 0), .int (nI 0)] mf_L_act tw_447 (b_actC _ _ (am_tr hC) h hS w (by omega) (by omega) (by omega) _ _ _ _ (IX_y (by omega) (show 0 < z_n σ by omega) rfl) (fun z => by omega) (fun _ => fC)) rfl ⟨rfl, Nat.le_of_ble_eq_true rfl⟩ ⟨by decide, by decide⟩ (by omega) (by omega) dL_refuses_277 rfl (fun _ _ q _ => False.elim q) (fun v h hp hlc => ?_)
          obtain ⟨rfl, hS⟩ := hp
          refine am_bipush (v := -72) hC dL_refuses_280 (by decide) ?_
          refine am_icmp_ne (tgt := 289) hC dL_refuses_282 (by decide) (fun c_282 => absurd rfl c_282) (fun c_282 => ?_)
          refine am_iconst (v := nI 1) hC dL_refuses_285 (by decide) ?_
          refine am_goto (tgt := 290) hC dL_refuses_286 (by decide) ?_
          refine am_istore hC dL_refuses_290 (by decide) ?_
          change am_W _ _ _ _ [.ref (3), .int (nI (z_np σ)), .int (nI (z_nq σ)), .int (nI (z_n σ)), .int (x0), .int (mo), .int (nI kk), .int (no), .int (le), .int (dr), .int (pe), .int (ce), .int (si), .int (nI 1), .int (nI w), .null] _ _
          refine am_iinc (v := nI (w + 1)) hC dL_refuses_292 rfl (nI_1 (w)) (by decide) ?_
          change am_W _ _ _ _ [.ref (3), .int (nI (z_np σ)), .int (nI (z_nq σ)), .int (nI (z_n σ)), .int (x0), .int (mo), .int (nI kk), .int (no), .int (le), .int (dr), .int (pe), .int (ce), .int (si), .int (nI 1), .int (nI (w + 1)), .null] _ _
          refine am_goto (tgt := 219) hC dL_refuses_295 (by decide) ?_
          exact ih (w + 1) _ _ h (by omega) (by omega) (by omega) (by omega) hS
        · replace c_265 : w = 4 := (nI_eq (a := w) (b := 4) (by omega) (by omega)).mp c_265
          refine am_iload hC dL_refuses_268 rfl ?_
          refine am_goto (tgt := 275) hC dL_refuses_270 (by decide) ?_
          refine am_iconst (v := nI 0) hC dL_refuses_275 (by decide) ?_
          refine am_iconst (v := nI 0) hC dL_refuses_276 (by decide) ?_
          refine am_callSX hC [.ref (3), .int (nI w), .int (nI 0), .int (si), .int (nI 0), .int (nI 0)] mf_L_act tw_447 (b_actC _ _ (am_tr hC) h hS w (by omega) (by omega) (by omega) _ _ _ _ (IX_y (by omega) (show 0 < z_n σ by omega) rfl) (fun _ => fS) (fun z => by omega)) rfl ⟨rfl, Nat.le_of_ble_eq_true rfl⟩ ⟨by decide, by decide⟩ (by omega) (by omega) dL_refuses_277 rfl (fun _ _ q _ => False.elim q) (fun v h hp hlc => ?_)
          obtain ⟨rfl, hS⟩ := hp
          refine am_bipush (v := -72) hC dL_refuses_280 (by decide) ?_
          refine am_icmp_ne (tgt := 289) hC dL_refuses_282 (by decide) (fun c_282 => absurd rfl c_282) (fun c_282 => ?_)
          refine am_iconst (v := nI 1) hC dL_refuses_285 (by decide) ?_
          refine am_goto (tgt := 290) hC dL_refuses_286 (by decide) ?_
          refine am_istore hC dL_refuses_290 (by decide) ?_
          change am_W _ _ _ _ [.ref (3), .int (nI (z_np σ)), .int (nI (z_nq σ)), .int (nI (z_n σ)), .int (x0), .int (mo), .int (nI kk), .int (no), .int (le), .int (dr), .int (pe), .int (ce), .int (si), .int (nI 1), .int (nI w), .null] _ _
          refine am_iinc (v := nI (w + 1)) hC dL_refuses_292 rfl (nI_1 (w)) (by decide) ?_
          change am_W _ _ _ _ [.ref (3), .int (nI (z_np σ)), .int (nI (z_nq σ)), .int (nI (z_n σ)), .int (x0), .int (mo), .int (nI kk), .int (no), .int (le), .int (dr), .int (pe), .int (ce), .int (si), .int (nI 1), .int (nI (w + 1)), .null] _ _
          refine am_goto (tgt := 219) hC dL_refuses_295 (by decide) ?_
          exact ih (w + 1) _ _ h (by omega) (by omega) (by omega) (by omega) hS
set_option maxRecDepth 100000 in
set_option maxHeartbeats 4000000 in
theorem rf_l2 {Z : am_Z} {σ : z_Sg} (hC : am_OK Z "HousePlansLaw" cL_refuses 16 14 1800 34000) {x0 mo no le dr pe ce si : Int32} {kk : Nat} (hF : z_RF σ kk no le dr pe ce si) {kc1 ks1 : Nat} (hb : kc1 ≤ 1800 ∧ ks1 ≤ 34000) (hk : ∀ h, SZ h σ → am_W Z kc1 ks1 379 [.ref (3), .int (nI (z_np σ)), .int (nI (z_nq σ)), .int (nI (z_n σ)), .int (x0), .int (mo), .int (nI kk), .int (no), .int (le), .int (dr), .int (pe), .int (ce), .int (si), .int (nI 1), .int (nI 18), .null] [] h) : ∀ (q w kc ks : Nat) (h : am_H), w + q = 18 → 12 ≤ w → kc + 20 * q ≤ kc1 → ks + 380 * q ≤ ks1 → SZ h σ → am_W Z kc ks 302 [.ref (3), .int (nI (z_np σ)), .int (nI (z_nq σ)), .int (nI (z_n σ)), .int (x0), .int (mo), .int (nI kk), .int (no), .int (le), .int (dr), .int (pe), .int (ce), .int (si), .int (nI 1), .int (nI w), .null] [] h := by
  obtain ⟨k4, fD, fP, fC, fS, fK⟩ := hF
  intro q
  induction q with
  | zero =>
    intro w kc ks h hw h4 hkc hks hS
    obtain rfl : w = 18 := by omega
    refine am_iload hC dL_refuses_302 rfl ?_
    refine am_bipush (v := nI 18) hC dL_refuses_304 (by decide) ?_
    refine am_icmp_ge (tgt := 379) hC dL_refuses_306 (by decide) (fun c_306 => ?_) (fun c_306 => absurd (by decide) c_306)
    exact am_more (by omega) (by omega) (hk h hS)
  | succ q ih =>
    intro w kc ks h hw h4 hkc hks hS
    obtain ⟨n6, n20, n30⟩ := SZ_6 hS
    refine am_iload hC dL_refuses_302 rfl ?_
    refine am_bipush (v := nI 18) hC dL_refuses_304 (by decide) ?_
    refine am_icmp_ge (tgt := 379) hC dL_refuses_306 (by decide) (fun c_306 => absurd c_306 (by rw [Int32.not_le]; exact nI_lt (by omega) (by omega))) (fun c_306 => ?_)
    refine am_iload hC dL_refuses_309 rfl ?_
    refine am_bipush (v := nI 14) hC dL_refuses_311 (by decide) ?_
    refine am_icmp_ne (tgt := 320) hC dL_refuses_313 (by decide) (fun c_313 => ?_) (fun c_313 => ?_)
    · replace c_313 : ¬ w = 14 := fun q9 => c_313 ((nI_eq (a := w) (b := 14) (by omega) (by omega)).mpr q9)
      refine am_iload hC dL_refuses_320 rfl ?_
      refine am_bipush (v := nI 15) hC dL_refuses_322 (by decide) ?_
      refine am_icmp_le (tgt := 331) hC dL_refuses_324 (by decide) (fun c_324 => ?_) (fun c_324 => ?_)
      · replace c_324 : w ≤ 15 := (nI_leI (a := w) (b := 15) (by omega) (by omega)).mp c_324
        refine am_iload_n hC dL_refuses_331 rfl ?_
        refine am_istore hC dL_refuses_332 (by decide) ?_
        change am_W _ _ _ _ [.ref (3), .int (nI (z_np σ)), .int (nI (z_nq σ)), .int (nI (z_n σ)), .int (x0), .int (mo), .int (nI kk), .int (no), .int (le), .int (dr), .int (pe), .int (ce), .int (si), .int (nI 1), .int (nI w), .int (nI (z_n σ))] _ _
        refine am_iload hC dL_refuses_334 rfl ?_
        refine am_if_eq (tgt := 370) hC dL_refuses_336 (by decide) (fun c_336 => absurd c_336 (by decide)) (fun c_336 => ?_)
        refine am_aload_n hC dL_refuses_339 rfl ?_
        refine am_iload hC dL_refuses_340 rfl ?_
        refine am_iload hC dL_refuses_342 rfl ?_
        refine am_iconst (v := nI 1) hC dL_refuses_344 (by decide) ?_
        refine am_icmp_ne (tgt := 353) hC dL_refuses_345 (by decide) (fun c_345 => ?_) (fun c_345 => ?_)
        · replace c_345 : ¬ kk = 1 := fun q9 => c_345 ((nI_eq (a := kk) (b := 1) (by omega) (by omega)).mpr q9)
          refine am_iload hC dL_refuses_353 rfl ?_
          refine am_iconst (v := nI 0) hC dL_refuses_355 (by decide) ?_
          refine am_iconst (v := nI 0) hC dL_refuses_356 (by decide) ?_
          refine am_iconst (v := nI 0) hC dL_refuses_357 (by decide) ?_
          refine am_callSX hC [.ref (3), .int (nI w), .int (no), .int (nI 0), .int (nI 0), .int (nI 0)] mf_L_act tw_447 (b_actI _ _ (am_tr hC) h hS w (by omega) (by omega) _ _ _ _ (fun _ _ => (fK (by omega)).1 _ (by omega)) (fun _ => (fK (by omega)).1 _ (by omega)) (fun _ => (fK (by omega)).1 _ (by omega))) rfl ⟨rfl, Nat.le_of_ble_eq_true rfl⟩ ⟨by decide, by decide⟩ (by omega) (by omega) dL_refuses_358 rfl (fun _ _ q _ => False.elim q) (fun v h hp hlc => ?_)
          obtain ⟨rfl, hS⟩ := hp
          refine am_bipush (v := -71) hC dL_refuses_361 (by decide) ?_
          refine am_icmp_ne (tgt := 370) hC dL_refuses_363 (by decide) (fun c_363 => absurd rfl c_363) (fun c_363 => ?_)
          refine am_iconst (v := nI 1) hC dL_refuses_366 (by decide) ?_
          refine am_goto (tgt := 371) hC dL_refuses_367 (by decide) ?_
          refine am_istore hC dL_refuses_371 (by decide) ?_
          change am_W _ _ _ _ [.ref (3), .int (nI (z_np σ)), .int (nI (z_nq σ)), .int (nI (z_n σ)), .int (x0), .int (mo), .int (nI kk), .int (no), .int (le), .int (dr), .int (pe), .int (ce), .int (si), .int (nI 1), .int (nI w), .int (nI (z_n σ))] _ _
          refine am_iinc (v := nI (w + 1)) hC dL_refuses_373 rfl (nI_1 (w)) (by decide) ?_
          change am_W _ _ _ _ [.ref (3), .int (nI (z_np σ)), .int (nI (z_nq σ)), .int (nI (z_n σ)), .int (x0), .int (mo), .int (nI kk), .int (no), .int (le), .int (dr), .int (pe), .int (ce), .int (si), .int (nI 1), .int (nI (w + 1)), .int (nI (z_n σ))] _ _
          refine am_goto (tgt := 302) hC dL_refuses_376 (by decide) ?_
          exact am_fgt (ls' := [.ref (3), .int (nI (z_np σ)), .int (nI (z_nq σ)), .int (nI (z_n σ)), .int (x0), .int (mo), .int (nI kk), .int (no), .int (le), .int (dr), .int (pe), .int (ce), .int (si), .int (nI 1), .int (nI (w + 1)), .null]) ⟨Or.inl rfl, ⟨Or.inl rfl, ⟨Or.inl rfl, ⟨Or.inl rfl, ⟨Or.inl rfl, ⟨Or.inl rfl, ⟨Or.inl rfl, ⟨Or.inl rfl, ⟨Or.inl rfl, ⟨Or.inl rfl, ⟨Or.inl rfl, ⟨Or.inl rfl, ⟨Or.inl rfl, ⟨Or.inl rfl, ⟨Or.inl rfl, ⟨Or.inr rfl, trivial⟩⟩⟩⟩⟩⟩⟩⟩⟩⟩⟩⟩⟩⟩⟩⟩ (ih (w + 1) _ _ h (by omega) (by omega) (by omega) (by omega) hS)
        · replace c_345 : kk = 1 := (nI_eq (a := kk) (b := 1) (by omega) (by omega)).mp c_345
          refine am_iload hC dL_refuses_348 rfl ?_
          refine am_goto (tgt := 355) hC dL_refuses_350 (by decide) ?_
          refine am_iconst (v := nI 0) hC dL_refuses_355 (by decide) ?_
          refine am_iconst (v := nI 0) hC dL_refuses_356 (by decide) ?_
          refine am_iconst (v := nI 0) hC dL_refuses_357 (by decide) ?_
          refine am_callSX hC [.ref (3), .int (nI w), .int (nI (z_n σ)), .int (nI 0), .int (nI 0), .int (nI 0)] mf_L_act tw_447 (b_actI _ _ (am_tr hC) h hS w (by omega) (by omega) _ _ _ _ (fun _ _ => IX_top (by omega)) (fun z => absurd z (by omega)) (fun z => absurd z (by omega))) rfl ⟨rfl, Nat.le_of_ble_eq_true rfl⟩ ⟨by decide, by decide⟩ (by omega) (by omega) dL_refuses_358 rfl (fun _ _ q _ => False.elim q) (fun v h hp hlc => ?_)
          obtain ⟨rfl, hS⟩ := hp
          refine am_bipush (v := -71) hC dL_refuses_361 (by decide) ?_
          refine am_icmp_ne (tgt := 370) hC dL_refuses_363 (by decide) (fun c_363 => absurd rfl c_363) (fun c_363 => ?_)
          refine am_iconst (v := nI 1) hC dL_refuses_366 (by decide) ?_
          refine am_goto (tgt := 371) hC dL_refuses_367 (by decide) ?_
          refine am_istore hC dL_refuses_371 (by decide) ?_
          change am_W _ _ _ _ [.ref (3), .int (nI (z_np σ)), .int (nI (z_nq σ)), .int (nI (z_n σ)), .int (x0), .int (mo), .int (nI kk), .int (no), .int (le), .int (dr), .int (pe), .int (ce), .int (si), .int (nI 1), .int (nI w), .int (nI (z_n σ))] _ _
          refine am_iinc (v := nI (w + 1)) hC dL_refuses_373 rfl (nI_1 (w)) (by decide) ?_
          change am_W _ _ _ _ [.ref (3), .int (nI (z_np σ)), .int (nI (z_nq σ)), .int (nI (z_n σ)), .int (x0), .int (mo), .int (nI kk), .int (no), .int (le), .int (dr), .int (pe), .int (ce), .int (si), .int (nI 1), .int (nI (w + 1)), .int (nI (z_n σ))] _ _
          refine am_goto (tgt := 302) hC dL_refuses_376 (by decide) ?_
          exact am_fgt (ls' := [.ref (3), .int (nI (z_np σ)), .int (nI (z_nq σ)), .int (nI (z_n σ)), .int (x0), .int (mo), .int (nI kk), .int (no), .int (le), .int (dr), .int (pe), .int (ce), .int (si), .int (nI 1), .int (nI (w + 1)), .null]) ⟨Or.inl rfl, ⟨Or.inl rfl, ⟨Or.inl rfl, ⟨Or.inl rfl, ⟨Or.inl rfl, ⟨Or.inl rfl, ⟨Or.inl rfl, ⟨Or.inl rfl, ⟨Or.inl rfl, ⟨Or.inl rfl, ⟨Or.inl rfl, ⟨Or.inl rfl, ⟨Or.inl rfl, ⟨Or.inl rfl, ⟨Or.inl rfl, ⟨Or.inr rfl, trivial⟩⟩⟩⟩⟩⟩⟩⟩⟩⟩⟩⟩⟩⟩⟩⟩ (ih (w + 1) _ _ h (by omega) (by omega) (by omega) (by omega) hS)
      · replace c_324 : ¬ w ≤ 15 := fun q9 => c_324 ((nI_leI (a := w) (b := 15) (by omega) (by omega)).mpr q9)
        refine am_iload_n hC dL_refuses_327 rfl ?_
        refine am_goto (tgt := 332) hC dL_refuses_328 (by decide) ?_
        refine am_istore hC dL_refuses_332 (by decide) ?_
        change am_W _ _ _ _ [.ref (3), .int (nI (z_np σ)), .int (nI (z_nq σ)), .int (nI (z_n σ)), .int (x0), .int (mo), .int (nI kk), .int (no), .int (le), .int (dr), .int (pe), .int (ce), .int (si), .int (nI 1), .int (nI w), .int (nI (z_nq σ))] _ _
        refine am_iload hC dL_refuses_334 rfl ?_
        refine am_if_eq (tgt := 370) hC dL_refuses_336 (by decide) (fun c_336 => absurd c_336 (by decide)) (fun c_336 => ?_)
        refine am_aload_n hC dL_refuses_339 rfl ?_
        refine am_iload hC dL_refuses_340 rfl ?_
        refine am_iload hC dL_refuses_342 rfl ?_
        refine am_iconst (v := nI 1) hC dL_refuses_344 (by decide) ?_
        refine am_icmp_ne (tgt := 353) hC dL_refuses_345 (by decide) (fun c_345 => ?_) (fun c_345 => ?_)
        · replace c_345 : ¬ kk = 1 := fun q9 => c_345 ((nI_eq (a := kk) (b := 1) (by omega) (by omega)).mpr q9)
          refine am_iload hC dL_refuses_353 rfl ?_
          refine am_iconst (v := nI 0) hC dL_refuses_355 (by decide) ?_
          refine am_iconst (v := nI 0) hC dL_refuses_356 (by decide) ?_
          refine am_iconst (v := nI 0) hC dL_refuses_357 (by decide) ?_
          refine am_callSX hC [.ref (3), .int (nI w), .int (no), .int (nI 0), .int (nI 0), .int (nI 0)] mf_L_act tw_447 (b_actI _ _ (am_tr hC) h hS w (by omega) (by omega) _ _ _ _ (fun _ _ => (fK (by omega)).1 _ (by omega)) (fun _ => (fK (by omega)).1 _ (by omega)) (fun _ => (fK (by omega)).1 _ (by omega))) rfl ⟨rfl, Nat.le_of_ble_eq_true rfl⟩ ⟨by decide, by decide⟩ (by omega) (by omega) dL_refuses_358 rfl (fun _ _ q _ => False.elim q) (fun v h hp hlc => ?_)
          obtain ⟨rfl, hS⟩ := hp
          refine am_bipush (v := -71) hC dL_refuses_361 (by decide) ?_
          refine am_icmp_ne (tgt := 370) hC dL_refuses_363 (by decide) (fun c_363 => absurd rfl c_363) (fun c_363 => ?_)
          refine am_iconst (v := nI 1) hC dL_refuses_366 (by decide) ?_
          refine am_goto (tgt := 371) hC dL_refuses_367 (by decide) ?_
          refine am_istore hC dL_refuses_371 (by decide) ?_
          change am_W _ _ _ _ [.ref (3), .int (nI (z_np σ)), .int (nI (z_nq σ)), .int (nI (z_n σ)), .int (x0), .int (mo), .int (nI kk), .int (no), .int (le), .int (dr), .int (pe), .int (ce), .int (si), .int (nI 1), .int (nI w), .int (nI (z_nq σ))] _ _
          refine am_iinc (v := nI (w + 1)) hC dL_refuses_373 rfl (nI_1 (w)) (by decide) ?_
          change am_W _ _ _ _ [.ref (3), .int (nI (z_np σ)), .int (nI (z_nq σ)), .int (nI (z_n σ)), .int (x0), .int (mo), .int (nI kk), .int (no), .int (le), .int (dr), .int (pe), .int (ce), .int (si), .int (nI 1), .int (nI (w + 1)), .int (nI (z_nq σ))] _ _
          refine am_goto (tgt := 302) hC dL_refuses_376 (by decide) ?_
          exact am_fgt (ls' := [.ref (3), .int (nI (z_np σ)), .int (nI (z_nq σ)), .int (nI (z_n σ)), .int (x0), .int (mo), .int (nI kk), .int (no), .int (le), .int (dr), .int (pe), .int (ce), .int (si), .int (nI 1), .int (nI (w + 1)), .null]) ⟨Or.inl rfl, ⟨Or.inl rfl, ⟨Or.inl rfl, ⟨Or.inl rfl, ⟨Or.inl rfl, ⟨Or.inl rfl, ⟨Or.inl rfl, ⟨Or.inl rfl, ⟨Or.inl rfl, ⟨Or.inl rfl, ⟨Or.inl rfl, ⟨Or.inl rfl, ⟨Or.inl rfl, ⟨Or.inl rfl, ⟨Or.inl rfl, ⟨Or.inr rfl, trivial⟩⟩⟩⟩⟩⟩⟩⟩⟩⟩⟩⟩⟩⟩⟩⟩ (ih (w + 1) _ _ h (by omega) (by omega) (by omega) (by omega) hS)
        · replace c_345 : kk = 1 := (nI_eq (a := kk) (b := 1) (by omega) (by omega)).mp c_345
          refine am_iload hC dL_refuses_348 rfl ?_
          refine am_goto (tgt := 355) hC dL_refuses_350 (by decide) ?_
          refine am_iconst (v := nI 0) hC dL_refuses_355 (by decide) ?_
          refine am_iconst (v := nI 0) hC dL_refuses_356 (by decide) ?_
          refine am_iconst (v := nI 0) hC dL_refuses_357 (by decide) ?_
          refine am_callSX hC [.ref (3), .int (nI w), .int (nI (z_nq σ)), .int (nI 0), .int (nI 0), .int (nI 0)] mf_L_act tw_447 (b_actI _ _ (am_tr hC) h hS w (by omega) (by omega) _ _ _ _ (fun _ z => absurd z (by omega)) (fun z => absurd z (by omega)) (fun _ => IX_top (by omega))) rfl ⟨rfl, Nat.le_of_ble_eq_true rfl⟩ ⟨by decide, by decide⟩ (by omega) (by omega) dL_refuses_358 rfl (fun _ _ q _ => False.elim q) (fun v h hp hlc => ?_)
          obtain ⟨rfl, hS⟩ := hp
          refine am_bipush (v := -71) hC dL_refuses_361 (by decide) ?_
          refine am_icmp_ne (tgt := 370) hC dL_refuses_363 (by decide) (fun c_363 => absurd rfl c_363) (fun c_363 => ?_)
          refine am_iconst (v := nI 1) hC dL_refuses_366 (by decide) ?_
          refine am_goto (tgt := 371) hC dL_refuses_367 (by decide) ?_
          refine am_istore hC dL_refuses_371 (by decide) ?_
          change am_W _ _ _ _ [.ref (3), .int (nI (z_np σ)), .int (nI (z_nq σ)), .int (nI (z_n σ)), .int (x0), .int (mo), .int (nI kk), .int (no), .int (le), .int (dr), .int (pe), .int (ce), .int (si), .int (nI 1), .int (nI w), .int (nI (z_nq σ))] _ _
          refine am_iinc (v := nI (w + 1)) hC dL_refuses_373 rfl (nI_1 (w)) (by decide) ?_
          change am_W _ _ _ _ [.ref (3), .int (nI (z_np σ)), .int (nI (z_nq σ)), .int (nI (z_n σ)), .int (x0), .int (mo), .int (nI kk), .int (no), .int (le), .int (dr), .int (pe), .int (ce), .int (si), .int (nI 1), .int (nI (w + 1)), .int (nI (z_nq σ))] _ _
          refine am_goto (tgt := 302) hC dL_refuses_376 (by decide) ?_
          exact am_fgt (ls' := [.ref (3), .int (nI (z_np σ)), .int (nI (z_nq σ)), .int (nI (z_n σ)), .int (x0), .int (mo), .int (nI kk), .int (no), .int (le), .int (dr), .int (pe), .int (ce), .int (si), .int (nI 1), .int (nI (w + 1)), .null]) ⟨Or.inl rfl, ⟨Or.inl rfl, ⟨Or.inl rfl, ⟨Or.inl rfl, ⟨Or.inl rfl, ⟨Or.inl rfl, ⟨Or.inl rfl, ⟨Or.inl rfl, ⟨Or.inl rfl, ⟨Or.inl rfl, ⟨Or.inl rfl, ⟨Or.inl rfl, ⟨Or.inl rfl, ⟨Or.inl rfl, ⟨Or.inl rfl, ⟨Or.inr rfl, trivial⟩⟩⟩⟩⟩⟩⟩⟩⟩⟩⟩⟩⟩⟩⟩⟩ (ih (w + 1) _ _ h (by omega) (by omega) (by omega) (by omega) hS)
    · replace c_313 : w = 14 := (nI_eq (a := w) (b := 14) (by omega) (by omega)).mp c_313
      refine am_iload_n hC dL_refuses_316 rfl ?_
      refine am_goto (tgt := 332) hC dL_refuses_317 (by decide) ?_
      refine am_istore hC dL_refuses_332 (by decide) ?_
      change am_W _ _ _ _ [.ref (3), .int (nI (z_np σ)), .int (nI (z_nq σ)), .int (nI (z_n σ)), .int (x0), .int (mo), .int (nI kk), .int (no), .int (le), .int (dr), .int (pe), .int (ce), .int (si), .int (nI 1), .int (nI w), .int (nI (z_np σ))] _ _
      refine am_iload hC dL_refuses_334 rfl ?_
      refine am_if_eq (tgt := 370) hC dL_refuses_336 (by decide) (fun c_336 => absurd c_336 (by decide)) (fun c_336 => ?_)
      refine am_aload_n hC dL_refuses_339 rfl ?_
      refine am_iload hC dL_refuses_340 rfl ?_
      refine am_iload hC dL_refuses_342 rfl ?_
      refine am_iconst (v := nI 1) hC dL_refuses_344 (by decide) ?_
      refine am_icmp_ne (tgt := 353) hC dL_refuses_345 (by decide) (fun c_345 => ?_) (fun c_345 => ?_)
      · replace c_345 : ¬ kk = 1 := fun q9 => c_345 ((nI_eq (a := kk) (b := 1) (by omega) (by omega)).mpr q9)
        refine am_iload hC dL_refuses_353 rfl ?_
        refine am_iconst (v := nI 0) hC dL_refuses_355 (by decide) ?_
        refine am_iconst (v := nI 0) hC dL_refuses_356 (by decide) ?_
        refine am_iconst (v := nI 0) hC dL_refuses_357 (by decide) ?_
        refine am_callSX hC [.ref (3), .int (nI w), .int (no), .int (nI 0), .int (nI 0), .int (nI 0)] mf_L_act tw_447 (b_actI _ _ (am_tr hC) h hS w (by omega) (by omega) _ _ _ _ (fun _ _ => (fK (by omega)).1 _ (by omega)) (fun _ => (fK (by omega)).1 _ (by omega)) (fun _ => (fK (by omega)).1 _ (by omega))) rfl ⟨rfl, Nat.le_of_ble_eq_true rfl⟩ ⟨by decide, by decide⟩ (by omega) (by omega) dL_refuses_358 rfl (fun _ _ q _ => False.elim q) (fun v h hp hlc => ?_)
        obtain ⟨rfl, hS⟩ := hp
        refine am_bipush (v := -71) hC dL_refuses_361 (by decide) ?_
        refine am_icmp_ne (tgt := 370) hC dL_refuses_363 (by decide) (fun c_363 => absurd rfl c_363) (fun c_363 => ?_)
        refine am_iconst (v := nI 1) hC dL_refuses_366 (by decide) ?_
        refine am_goto (tgt := 371) hC dL_refuses_367 (by decide) ?_
        refine am_istore hC dL_refuses_371 (by decide) ?_
        change am_W _ _ _ _ [.ref (3), .int (nI (z_np σ)), .int (nI (z_nq σ)), .int (nI (z_n σ)), .int (x0), .int (mo), .int (nI kk), .int (no), .int (le), .int (dr), .int (pe), .int (ce), .int (si), .int (nI 1), .int (nI w), .int (nI (z_np σ))] _ _
        refine am_iinc (v := nI (w + 1)) hC dL_refuses_373 rfl (nI_1 (w)) (by decide) ?_
        change am_W _ _ _ _ [.ref (3), .int (nI (z_np σ)), .int (nI (z_nq σ)), .int (nI (z_n σ)), .int (x0), .int (mo), .int (nI kk), .int (no), .int (le), .int (dr), .int (pe), .int (ce), .int (si), .int (nI 1), .int (nI (w + 1)), .int (nI (z_np σ))] _ _
        refine am_goto (tgt := 302) hC dL_refuses_376 (by decide) ?_
        exact am_fgt (ls' := [.ref (3), .int (nI (z_np σ)), .int (nI (z_nq σ)), .int (nI (z_n σ)), .int (x0), .int (mo), .int (nI kk), .int (no), .int (le), .int (dr), .int (pe), .int (ce), .int (si), .int (nI 1), .int (nI (w + 1)), .null]) ⟨Or.inl rfl, ⟨Or.inl rfl, ⟨Or.inl rfl, ⟨Or.inl rfl, ⟨Or.inl rfl, ⟨Or.inl rfl, ⟨Or.inl rfl, ⟨Or.inl rfl, ⟨Or.inl rfl, ⟨Or.inl rfl, ⟨Or.inl rfl, ⟨Or.inl rfl, ⟨Or.inl rfl, ⟨Or.inl rfl, ⟨Or.inl rfl, ⟨Or.inr rfl, trivial⟩⟩⟩⟩⟩⟩⟩⟩⟩⟩⟩⟩⟩⟩⟩⟩ (ih (w + 1) _ _ h (by omega) (by omega) (by omega) (by omega) hS)
      · replace c_345 : kk = 1 := (nI_eq (a := kk) (b := 1) (by omega) (by omega)).mp c_345
        refine am_iload hC dL_refuses_348 rfl ?_
        refine am_goto (tgt := 355) hC dL_refuses_350 (by decide) ?_
        refine am_iconst (v := nI 0) hC dL_refuses_355 (by decide) ?_
        refine am_iconst (v := nI 0) hC dL_refuses_356 (by decide) ?_
        refine am_iconst (v := nI 0) hC dL_refuses_357 (by decide) ?_
        refine am_callSX hC [.ref (3), .int (nI w), .int (nI (z_np σ)), .int (nI 0), .int (nI 0), .int (nI 0)] mf_L_act tw_447 (b_actI _ _ (am_tr hC) h hS w (by omega) (by omega) _ _ _ _ (fun z _ => absurd z (by omega)) (fun _ => IX_top (by omega)) (fun z => absurd z (by omega))) rfl ⟨rfl, Nat.le_of_ble_eq_true rfl⟩ ⟨by decide, by decide⟩ (by omega) (by omega) dL_refuses_358 rfl (fun _ _ q _ => False.elim q) (fun v h hp hlc => ?_)
        obtain ⟨rfl, hS⟩ := hp
        refine am_bipush (v := -71) hC dL_refuses_361 (by decide) ?_
        refine am_icmp_ne (tgt := 370) hC dL_refuses_363 (by decide) (fun c_363 => absurd rfl c_363) (fun c_363 => ?_)
        refine am_iconst (v := nI 1) hC dL_refuses_366 (by decide) ?_
        refine am_goto (tgt := 371) hC dL_refuses_367 (by decide) ?_
        refine am_istore hC dL_refuses_371 (by decide) ?_
        change am_W _ _ _ _ [.ref (3), .int (nI (z_np σ)), .int (nI (z_nq σ)), .int (nI (z_n σ)), .int (x0), .int (mo), .int (nI kk), .int (no), .int (le), .int (dr), .int (pe), .int (ce), .int (si), .int (nI 1), .int (nI w), .int (nI (z_np σ))] _ _
        refine am_iinc (v := nI (w + 1)) hC dL_refuses_373 rfl (nI_1 (w)) (by decide) ?_
        change am_W _ _ _ _ [.ref (3), .int (nI (z_np σ)), .int (nI (z_nq σ)), .int (nI (z_n σ)), .int (x0), .int (mo), .int (nI kk), .int (no), .int (le), .int (dr), .int (pe), .int (ce), .int (si), .int (nI 1), .int (nI (w + 1)), .int (nI (z_np σ))] _ _
        refine am_goto (tgt := 302) hC dL_refuses_376 (by decide) ?_
        exact am_fgt (ls' := [.ref (3), .int (nI (z_np σ)), .int (nI (z_nq σ)), .int (nI (z_n σ)), .int (x0), .int (mo), .int (nI kk), .int (no), .int (le), .int (dr), .int (pe), .int (ce), .int (si), .int (nI 1), .int (nI (w + 1)), .null]) ⟨Or.inl rfl, ⟨Or.inl rfl, ⟨Or.inl rfl, ⟨Or.inl rfl, ⟨Or.inl rfl, ⟨Or.inl rfl, ⟨Or.inl rfl, ⟨Or.inl rfl, ⟨Or.inl rfl, ⟨Or.inl rfl, ⟨Or.inl rfl, ⟨Or.inl rfl, ⟨Or.inl rfl, ⟨Or.inl rfl, ⟨Or.inl rfl, ⟨Or.inr rfl, trivial⟩⟩⟩⟩⟩⟩⟩⟩⟩⟩⟩⟩⟩⟩⟩⟩ (ih (w + 1) _ _ h (by omega) (by omega) (by omega) (by omega) hS)
set_option maxRecDepth 100000 in
set_option maxHeartbeats 4000000 in
theorem rf_t3 {Z : am_Z} {σ : z_Sg} (hC : am_OK Z "HousePlansLaw" cL_refuses 16 14 1800 34000) {x0 mo no le dr pe ce si : Int32} {kk : Nat} (hF : z_RF σ kk no le dr pe ce si) {kc ks : Nat} (hb : kc + 120 ≤ 1800 ∧ ks + 2280 ≤ 34000) (hk : ∀ h, SZ h σ → am_W Z (kc + 120) (ks + 2280) 18 [.ref (3), .int (nI (z_np σ)), .int (nI (z_nq σ)), .int (nI (z_n σ)), .int (x0), .int (mo), .int (nI (kk + 1)), .null, .null, .null, .null, .null, .null, .null, .null, .null] [] h) (h : am_H) (hS : SZ h σ) : am_W Z kc ks 379 [.ref (3), .int (nI (z_np σ)), .int (nI (z_nq σ)), .int (nI (z_n σ)), .int (x0), .int (mo), .int (nI kk), .int (no), .int (le), .int (dr), .int (pe), .int (ce), .int (si), .int (nI 1), .int (nI 18), .null] [] h := by
  obtain ⟨k4, fD, fP, fC, fS, fK⟩ := hF
  have n6 := (SZ_6 hS).1
  by_cases c9 : kk = 1
  · refine am_iload_n hC dL_refuses_379 rfl ?_
    refine am_if_le (tgt := 606) hC dL_refuses_380 (by decide) (fun c_380 => ?_) (fun c_380 => ?_)
    · replace c_380 : (z_n σ) ≤ 0 := (nI_leI (a := (z_n σ)) (b := 0) (by omega) (by omega)).mp c_380
      refine am_iload hC dL_refuses_606 rfl ?_
      refine am_if_ne (tgt := 613) hC dL_refuses_608 (by decide) (fun c_608 => ?_) (fun c_608 => absurd c_608 (by decide))
      refine am_iinc (v := nI (kk + 1)) hC dL_refuses_613 rfl (nI_1 (kk)) (by decide) ?_
      change am_W _ _ _ _ [.ref (3), .int (nI (z_np σ)), .int (nI (z_nq σ)), .int (nI (z_n σ)), .int (x0), .int (mo), .int (nI (kk + 1)), .int (no), .int (le), .int (dr), .int (pe), .int (ce), .int (si), .int (nI 1), .int (nI 18), .null] _ _
      refine am_goto (tgt := 18) hC dL_refuses_616 (by decide) ?_
      exact am_fgt (ls' := [.ref (3), .int (nI (z_np σ)), .int (nI (z_nq σ)), .int (nI (z_n σ)), .int (x0), .int (mo), .int (nI (kk + 1)), .null, .null, .null, .null, .null, .null, .null, .null, .null]) ⟨Or.inl rfl, ⟨Or.inl rfl, ⟨Or.inl rfl, ⟨Or.inl rfl, ⟨Or.inl rfl, ⟨Or.inl rfl, ⟨Or.inl rfl, ⟨Or.inr rfl, ⟨Or.inr rfl, ⟨Or.inr rfl, ⟨Or.inr rfl, ⟨Or.inr rfl, ⟨Or.inr rfl, ⟨Or.inr rfl, ⟨Or.inr rfl, ⟨Or.inr rfl, trivial⟩⟩⟩⟩⟩⟩⟩⟩⟩⟩⟩⟩⟩⟩⟩⟩ (am_more (by omega) (by omega) (hk h hS))
    · replace c_380 : ¬ (z_n σ) ≤ 0 := fun q9 => c_380 ((nI_leI (a := (z_n σ)) (b := 0) (by omega) (by omega)).mpr q9)
      refine am_iload hC dL_refuses_383 rfl ?_
      refine am_if_eq (tgt := 507) hC dL_refuses_385 (by decide) (fun c_385 => absurd c_385 (by decide)) (fun c_385 => ?_)
      refine am_aload_n hC dL_refuses_388 rfl ?_
      refine am_iconst (v := nI 1) hC dL_refuses_389 (by decide) ?_
      refine am_iconst (v := nI 0) hC dL_refuses_390 (by decide) ?_
      refine am_iload hC dL_refuses_391 rfl ?_
      refine am_iconst (v := nI 0) hC dL_refuses_393 (by decide) ?_
      refine am_iconst (v := nI 0) hC dL_refuses_394 (by decide) ?_
      refine am_callSX hC [.ref (3), .int (nI 1), .int (nI 0), .int (pe), .int (nI 0), .int (nI 0)] mf_L_act tw_447 (c_act1 _ _ (am_tr hC) h hS _ _ _ _) rfl ⟨rfl, Nat.le_of_ble_eq_true rfl⟩ ⟨by decide, by decide⟩ (by omega) (by omega) dL_refuses_395 rfl (fun _ _ q _ => False.elim q) (fun v h hp hlc => ?_)
      obtain ⟨rfl, hS⟩ := z_bad (c := 2) (k3_2 (IX_y (by omega) (show 0 < z_n σ by omega) rfl) (and_fl (and_fl fP))) (by decide) rfl hp
      refine am_bipush (v := -72) hC dL_refuses_398 (by decide) ?_
      refine am_icmp_ne (tgt := 507) hC dL_refuses_400 (by decide) (fun c_400 => absurd rfl c_400) (fun c_400 => ?_)
      refine am_aload_n hC dL_refuses_403 rfl ?_
      refine am_iconst (v := nI 1) hC dL_refuses_404 (by decide) ?_
      refine am_iconst (v := nI 0) hC dL_refuses_405 (by decide) ?_
      refine am_iconst (v := nI 0) hC dL_refuses_406 (by decide) ?_
      refine am_iload hC dL_refuses_407 rfl ?_
      refine am_iconst (v := nI 0) hC dL_refuses_409 (by decide) ?_
      refine am_callSX hC [.ref (3), .int (nI 1), .int (nI 0), .int (nI 0), .int (si), .int (nI 0)] mf_L_act tw_447 (c_act1 _ _ (am_tr hC) h hS _ _ _ _) rfl ⟨rfl, Nat.le_of_ble_eq_true rfl⟩ ⟨by decide, by decide⟩ (by omega) (by omega) dL_refuses_410 rfl (fun _ _ q _ => False.elim q) (fun v h hp hlc => ?_)
      obtain ⟨rfl, hS⟩ := z_bad (c := 2) (k3_2 (IX_y (by omega) (show 0 < z_n σ by omega) rfl) (and_fl (and_ff fS))) (by decide) rfl hp
      refine am_bipush (v := -72) hC dL_refuses_413 (by decide) ?_
      refine am_icmp_ne (tgt := 507) hC dL_refuses_415 (by decide) (fun c_415 => absurd rfl c_415) (fun c_415 => ?_)
      refine am_aload_n hC dL_refuses_418 rfl ?_
      refine am_iconst (v := nI 1) hC dL_refuses_419 (by decide) ?_
      refine am_iconst (v := nI 0) hC dL_refuses_420 (by decide) ?_
      refine am_iconst (v := nI 0) hC dL_refuses_421 (by decide) ?_
      refine am_iconst (v := nI 0) hC dL_refuses_422 (by decide) ?_
      refine am_iload hC dL_refuses_423 rfl ?_
      refine am_iconst (v := nI 1) hC dL_refuses_425 (by decide) ?_
      refine am_icmp_ne (tgt := 433) hC dL_refuses_426 (by decide) (fun c_426 => absurd (by rw [c9]) c_426) (fun c_426 => ?_)
      refine am_iconst (v := nI 3) hC dL_refuses_429 (by decide) ?_
      refine am_goto (tgt := 435) hC dL_refuses_430 (by decide) ?_
      refine am_callSX hC [.ref (3), .int (nI 1), .int (nI 0), .int (nI 0), .int (nI 0), .int (nI 3)] mf_L_act tw_447 (c_act1 _ _ (am_tr hC) h hS _ _ _ _) rfl ⟨rfl, Nat.le_of_ble_eq_true rfl⟩ ⟨by decide, by decide⟩ (by omega) (by omega) dL_refuses_435 rfl (fun _ _ q _ => False.elim q) (fun v h hp hlc => ?_)
      obtain ⟨rfl, hS⟩ := z_bad (c := 2) (k3_2 (IX_y (by omega) (show 0 < z_n σ by omega) rfl) (and_ff (by decide))) (by decide) rfl hp
      refine am_bipush (v := -72) hC dL_refuses_438 (by decide) ?_
      refine am_icmp_ne (tgt := 507) hC dL_refuses_440 (by decide) (fun c_440 => absurd rfl c_440) (fun c_440 => ?_)
      refine am_aload_n hC dL_refuses_443 rfl ?_
      refine am_iconst (v := nI 2) hC dL_refuses_444 (by decide) ?_
      refine am_iconst (v := nI 0) hC dL_refuses_445 (by decide) ?_
      refine am_iload hC dL_refuses_446 rfl ?_
      refine am_iconst (v := nI 0) hC dL_refuses_448 (by decide) ?_
      refine am_iconst (v := nI 1) hC dL_refuses_449 (by decide) ?_
      refine am_callSX hC [.ref (3), .int (nI 2), .int (nI 0), .int (pe), .int (nI 0), .int (nI 1)] mf_L_act tw_447 (c_act2 _ _ (am_tr hC) h hS _ _ _ _) rfl ⟨rfl, Nat.le_of_ble_eq_true rfl⟩ ⟨by decide, by decide⟩ (by omega) (by omega) dL_refuses_450 rfl (fun _ _ q _ => False.elim q) (fun v h hp hlc => ?_)
      obtain ⟨rfl, hS⟩ := z_bad (c := 2) (k3_2 (IX_y (by omega) (show 0 < z_n σ by omega) rfl) (and_fl fP)) (by decide) rfl hp
      refine am_bipush (v := -72) hC dL_refuses_453 (by decide) ?_
      refine am_icmp_ne (tgt := 507) hC dL_refuses_455 (by decide) (fun c_455 => absurd rfl c_455) (fun c_455 => ?_)
      refine am_aload_n hC dL_refuses_458 rfl ?_
      refine am_iconst (v := nI 2) hC dL_refuses_459 (by decide) ?_
      refine am_iconst (v := nI 0) hC dL_refuses_460 (by decide) ?_
      refine am_iconst (v := nI 0) hC dL_refuses_461 (by decide) ?_
      refine am_iload hC dL_refuses_462 rfl ?_
      refine am_iconst (v := nI 1) hC dL_refuses_464 (by decide) ?_
      refine am_callSX hC [.ref (3), .int (nI 2), .int (nI 0), .int (nI 0), .int (ce), .int (nI 1)] mf_L_act tw_447 (c_act2 _ _ (am_tr hC) h hS _ _ _ _) rfl ⟨rfl, Nat.le_of_ble_eq_true rfl⟩ ⟨by decide, by decide⟩ (by omega) (by omega) dL_refuses_465 rfl (fun _ _ q _ => False.elim q) (fun v h hp hlc => ?_)
      obtain ⟨rfl, hS⟩ := z_bad (c := 2) (k3_2 (IX_y (by omega) (show 0 < z_n σ by omega) rfl) (and_ff fC)) (by decide) rfl hp
      refine am_bipush (v := -72) hC dL_refuses_468 (by decide) ?_
      refine am_icmp_ne (tgt := 507) hC dL_refuses_470 (by decide) (fun c_470 => absurd rfl c_470) (fun c_470 => ?_)
      refine am_aload_n hC dL_refuses_473 rfl ?_
      refine am_iconst (v := nI 3) hC dL_refuses_474 (by decide) ?_
      refine am_iconst (v := nI 0) hC dL_refuses_475 (by decide) ?_
      refine am_iconst (v := nI 0) hC dL_refuses_476 (by decide) ?_
      refine am_iload hC dL_refuses_477 rfl ?_
      refine am_iconst (v := nI 1) hC dL_refuses_479 (by decide) ?_
      refine am_callSX hC [.ref (3), .int (nI 3), .int (nI 0), .int (nI 0), .int (dr), .int (nI 1)] mf_L_act tw_447 (c_act3 _ _ (am_tr hC) h hS _ _ _ _) rfl ⟨rfl, Nat.le_of_ble_eq_true rfl⟩ ⟨by decide, by decide⟩ (by omega) (by omega) dL_refuses_480 rfl (fun _ _ q _ => False.elim q) (fun v h hp hlc => ?_)
      obtain ⟨rfl, hS⟩ := z_bad (c := 1) (k3_1 (and_ff fD)) (by decide) rfl hp
      refine am_bipush (v := -71) hC dL_refuses_483 (by decide) ?_
      refine am_icmp_ne (tgt := 507) hC dL_refuses_485 (by decide) (fun c_485 => absurd rfl c_485) (fun c_485 => ?_)
      refine am_aload_n hC dL_refuses_488 rfl ?_
      refine am_iconst (v := nI 3) hC dL_refuses_489 (by decide) ?_
      refine am_iconst (v := nI 0) hC dL_refuses_490 (by decide) ?_
      refine am_iload hC dL_refuses_491 rfl ?_
      refine am_iconst (v := nI 0) hC dL_refuses_493 (by decide) ?_
      refine am_iconst (v := nI 1) hC dL_refuses_494 (by decide) ?_
      refine am_callSX hC [.ref (3), .int (nI 3), .int (nI 0), .int (pe), .int (nI 0), .int (nI 1)] mf_L_act tw_447 (c_act3 _ _ (am_tr hC) h hS _ _ _ _) rfl ⟨rfl, Nat.le_of_ble_eq_true rfl⟩ ⟨by decide, by decide⟩ (by omega) (by omega) dL_refuses_495 rfl (fun _ _ q _ => False.elim q) (fun v h hp hlc => ?_)
      obtain ⟨rfl, hS⟩ := z_bad (c := 2) (k3_2 (and_tt (IX_y (by omega) (show 0 < z_n σ by omega) rfl) (IX_y (by omega) (show 0 < z_n σ by omega) rfl)) fP) (by decide) rfl hp
      refine am_bipush (v := -72) hC dL_refuses_498 (by decide) ?_
      refine am_icmp_ne (tgt := 507) hC dL_refuses_500 (by decide) (fun c_500 => absurd rfl c_500) (fun c_500 => ?_)
      refine am_iconst (v := nI 1) hC dL_refuses_503 (by decide) ?_
      refine am_goto (tgt := 508) hC dL_refuses_504 (by decide) ?_
      refine am_istore hC dL_refuses_508 (by decide) ?_
      change am_W _ _ _ _ [.ref (3), .int (nI (z_np σ)), .int (nI (z_nq σ)), .int (nI (z_n σ)), .int (x0), .int (mo), .int (nI kk), .int (no), .int (le), .int (dr), .int (pe), .int (ce), .int (si), .int (nI 1), .int (nI 18), .null] _ _
      refine am_iload hC dL_refuses_510 rfl ?_
      refine am_if_eq (tgt := 603) hC dL_refuses_512 (by decide) (fun c_512 => absurd c_512 (by decide)) (fun c_512 => ?_)
      refine am_aload_n hC dL_refuses_515 rfl ?_
      refine am_iconst (v := nI 0) hC dL_refuses_516 (by decide) ?_
      refine am_iload hC dL_refuses_517 rfl ?_
      refine am_callSX hC [.ref (3), .int (nI 0), .int (pe)] mf_L_lock tw_436 (c_lock _ _ (am_tr hC) h hS _ _) rfl ⟨rfl, Nat.le_of_ble_eq_true rfl⟩ ⟨by decide, by decide⟩ (by omega) (by omega) dL_refuses_519 rfl (fun _ _ q _ => False.elim q) (fun v h hp hlc => ?_)
      obtain ⟨rfl, hS⟩ := z_bad (c := 2) (k3_2 (IX_y (by omega) (show 0 < z_n σ by omega) rfl) fP) (by decide) rfl hp
      refine am_bipush (v := -72) hC dL_refuses_522 (by decide) ?_
      refine am_icmp_ne (tgt := 603) hC dL_refuses_524 (by decide) (fun c_524 => absurd rfl c_524) (fun c_524 => ?_)
      refine am_aload_n hC dL_refuses_527 rfl ?_
      refine am_iconst (v := nI 0) hC dL_refuses_528 (by decide) ?_
      refine am_iload hC dL_refuses_529 rfl ?_
      refine am_callSX hC [.ref (3), .int (nI 0), .int (pe)] mf_L_unlock tw_585 (c_unlock _ _ (am_tr hC) h hS _ _) rfl ⟨rfl, Nat.le_of_ble_eq_true rfl⟩ ⟨by decide, by decide⟩ (by omega) (by omega) dL_refuses_531 rfl (fun _ _ q _ => False.elim q) (fun v h hp hlc => ?_)
      obtain ⟨rfl, hS⟩ := z_bad (c := 2) (k3_2 (IX_y (by omega) (show 0 < z_n σ by omega) rfl) fP) (by decide) rfl hp
      refine am_bipush (v := -72) hC dL_refuses_534 (by decide) ?_
      refine am_icmp_ne (tgt := 603) hC dL_refuses_536 (by decide) (fun c_536 => absurd rfl c_536) (fun c_536 => ?_)
      refine am_aload_n hC dL_refuses_539 rfl ?_
      refine am_bipush (v := nI 11) hC dL_refuses_540 (by decide) ?_
      refine am_iconst (v := nI 0) hC dL_refuses_542 (by decide) ?_
      refine am_iload hC dL_refuses_543 rfl ?_
      refine am_iconst (v := -1) hC dL_refuses_545 (by decide) ?_
      refine am_iconst (v := nI 0) hC dL_refuses_546 (by decide) ?_
      refine am_callSX hC [.ref (3), .int (nI 11), .int (nI 0), .int (pe), .int (-1), .int (nI 0)] mf_L_act tw_447 (c_act11 _ _ (am_tr hC) h hS _ _ _ _) rfl ⟨rfl, Nat.le_of_ble_eq_true rfl⟩ ⟨by decide, by decide⟩ (by omega) (by omega) dL_refuses_547 rfl (fun _ _ q _ => False.elim q) (fun v h hp hlc => ?_)
      obtain ⟨rfl, hS⟩ := z_bad (c := 2) (k3_2 (IX_y (by omega) (show 0 < z_n σ by omega) rfl) (and_fl fP)) (by decide) rfl hp
      refine am_bipush (v := -72) hC dL_refuses_550 (by decide) ?_
      refine am_icmp_ne (tgt := 603) hC dL_refuses_552 (by decide) (fun c_552 => absurd rfl c_552) (fun c_552 => ?_)
      refine am_aload_n hC dL_refuses_555 rfl ?_
      refine am_bipush (v := nI 11) hC dL_refuses_556 (by decide) ?_
      refine am_iconst (v := nI 0) hC dL_refuses_558 (by decide) ?_
      refine am_iconst (v := nI 0) hC dL_refuses_559 (by decide) ?_
      refine am_iload hC dL_refuses_560 rfl ?_
      refine am_iconst (v := nI 1) hC dL_refuses_562 (by decide) ?_
      refine am_icmp_ne (tgt := 571) hC dL_refuses_563 (by decide) (fun c_563 => absurd (by rw [c9]) c_563) (fun c_563 => ?_)
      refine am_bipush (v := nI 6) hC dL_refuses_566 (by decide) ?_
      refine am_goto (tgt := 573) hC dL_refuses_568 (by decide) ?_
      refine am_iconst (v := nI 0) hC dL_refuses_573 (by decide) ?_
      refine am_callSX hC [.ref (3), .int (nI 11), .int (nI 0), .int (nI 0), .int (nI 6), .int (nI 0)] mf_L_act tw_447 (c_act11 _ _ (am_tr hC) h hS _ _ _ _) rfl ⟨rfl, Nat.le_of_ble_eq_true rfl⟩ ⟨by decide, by decide⟩ (by omega) (by omega) dL_refuses_574 rfl (fun _ _ q _ => False.elim q) (fun v h hp hlc => ?_)
      obtain ⟨rfl, hS⟩ := z_bad (c := 2) (k3_2 (IX_y (by omega) (show 0 < z_n σ by omega) rfl) (and_ff (and_fl (by decide)))) (by decide) rfl hp
      refine am_bipush (v := -72) hC dL_refuses_577 (by decide) ?_
      refine am_icmp_ne (tgt := 603) hC dL_refuses_579 (by decide) (fun c_579 => absurd rfl c_579) (fun c_579 => ?_)
      refine am_aload_n hC dL_refuses_582 rfl ?_
      refine am_bipush (v := nI 11) hC dL_refuses_583 (by decide) ?_
      refine am_iconst (v := nI 0) hC dL_refuses_585 (by decide) ?_
      refine am_iload hC dL_refuses_586 rfl ?_
      refine am_iload hC dL_refuses_588 rfl ?_
      refine am_iconst (v := nI 0) hC dL_refuses_590 (by decide) ?_
      refine am_callSX hC [.ref (3), .int (nI 11), .int (nI 0), .int (nI kk), .int (nI kk), .int (nI 0)] mf_L_act tw_447 (c_act11 _ _ (am_tr hC) h hS _ _ _ _) rfl ⟨rfl, Nat.le_of_ble_eq_true rfl⟩ ⟨by decide, by decide⟩ (by omega) (by omega) dL_refuses_591 rfl (fun _ _ q _ => False.elim q) (fun v h hp hlc => ?_)
      obtain ⟨rfl, hS⟩ := z_bad (c := 2) (k3_2 (IX_y (by omega) (show 0 < z_n σ by omega) rfl) (and_ff (and_ff (by rw [decide_eq_true rfl]; rfl)))) (by decide) rfl hp
      refine am_bipush (v := -72) hC dL_refuses_594 (by decide) ?_
      refine am_icmp_ne (tgt := 603) hC dL_refuses_596 (by decide) (fun c_596 => absurd rfl c_596) (fun c_596 => ?_)
      refine am_iconst (v := nI 1) hC dL_refuses_599 (by decide) ?_
      refine am_goto (tgt := 604) hC dL_refuses_600 (by decide) ?_
      refine am_istore hC dL_refuses_604 (by decide) ?_
      change am_W _ _ _ _ [.ref (3), .int (nI (z_np σ)), .int (nI (z_nq σ)), .int (nI (z_n σ)), .int (x0), .int (mo), .int (nI kk), .int (no), .int (le), .int (dr), .int (pe), .int (ce), .int (si), .int (nI 1), .int (nI 18), .null] _ _
      refine am_iload hC dL_refuses_606 rfl ?_
      refine am_if_ne (tgt := 613) hC dL_refuses_608 (by decide) (fun c_608 => ?_) (fun c_608 => absurd c_608 (by decide))
      refine am_iinc (v := nI (kk + 1)) hC dL_refuses_613 rfl (nI_1 (kk)) (by decide) ?_
      change am_W _ _ _ _ [.ref (3), .int (nI (z_np σ)), .int (nI (z_nq σ)), .int (nI (z_n σ)), .int (x0), .int (mo), .int (nI (kk + 1)), .int (no), .int (le), .int (dr), .int (pe), .int (ce), .int (si), .int (nI 1), .int (nI 18), .null] _ _
      refine am_goto (tgt := 18) hC dL_refuses_616 (by decide) ?_
      exact am_fgt (ls' := [.ref (3), .int (nI (z_np σ)), .int (nI (z_nq σ)), .int (nI (z_n σ)), .int (x0), .int (mo), .int (nI (kk + 1)), .null, .null, .null, .null, .null, .null, .null, .null, .null]) ⟨Or.inl rfl, ⟨Or.inl rfl, ⟨Or.inl rfl, ⟨Or.inl rfl, ⟨Or.inl rfl, ⟨Or.inl rfl, ⟨Or.inl rfl, ⟨Or.inr rfl, ⟨Or.inr rfl, ⟨Or.inr rfl, ⟨Or.inr rfl, ⟨Or.inr rfl, ⟨Or.inr rfl, ⟨Or.inr rfl, ⟨Or.inr rfl, ⟨Or.inr rfl, trivial⟩⟩⟩⟩⟩⟩⟩⟩⟩⟩⟩⟩⟩⟩⟩⟩ (am_more (by omega) (by omega) (hk h hS))
  · refine am_iload_n hC dL_refuses_379 rfl ?_
    refine am_if_le (tgt := 606) hC dL_refuses_380 (by decide) (fun c_380 => ?_) (fun c_380 => ?_)
    · replace c_380 : (z_n σ) ≤ 0 := (nI_leI (a := (z_n σ)) (b := 0) (by omega) (by omega)).mp c_380
      refine am_iload hC dL_refuses_606 rfl ?_
      refine am_if_ne (tgt := 613) hC dL_refuses_608 (by decide) (fun c_608 => ?_) (fun c_608 => absurd c_608 (by decide))
      refine am_iinc (v := nI (kk + 1)) hC dL_refuses_613 rfl (nI_1 (kk)) (by decide) ?_
      change am_W _ _ _ _ [.ref (3), .int (nI (z_np σ)), .int (nI (z_nq σ)), .int (nI (z_n σ)), .int (x0), .int (mo), .int (nI (kk + 1)), .int (no), .int (le), .int (dr), .int (pe), .int (ce), .int (si), .int (nI 1), .int (nI 18), .null] _ _
      refine am_goto (tgt := 18) hC dL_refuses_616 (by decide) ?_
      exact am_fgt (ls' := [.ref (3), .int (nI (z_np σ)), .int (nI (z_nq σ)), .int (nI (z_n σ)), .int (x0), .int (mo), .int (nI (kk + 1)), .null, .null, .null, .null, .null, .null, .null, .null, .null]) ⟨Or.inl rfl, ⟨Or.inl rfl, ⟨Or.inl rfl, ⟨Or.inl rfl, ⟨Or.inl rfl, ⟨Or.inl rfl, ⟨Or.inl rfl, ⟨Or.inr rfl, ⟨Or.inr rfl, ⟨Or.inr rfl, ⟨Or.inr rfl, ⟨Or.inr rfl, ⟨Or.inr rfl, ⟨Or.inr rfl, ⟨Or.inr rfl, ⟨Or.inr rfl, trivial⟩⟩⟩⟩⟩⟩⟩⟩⟩⟩⟩⟩⟩⟩⟩⟩ (am_more (by omega) (by omega) (hk h hS))
    · replace c_380 : ¬ (z_n σ) ≤ 0 := fun q9 => c_380 ((nI_leI (a := (z_n σ)) (b := 0) (by omega) (by omega)).mpr q9)
      refine am_iload hC dL_refuses_383 rfl ?_
      refine am_if_eq (tgt := 507) hC dL_refuses_385 (by decide) (fun c_385 => absurd c_385 (by decide)) (fun c_385 => ?_)
      refine am_aload_n hC dL_refuses_388 rfl ?_
      refine am_iconst (v := nI 1) hC dL_refuses_389 (by decide) ?_
      refine am_iconst (v := nI 0) hC dL_refuses_390 (by decide) ?_
      refine am_iload hC dL_refuses_391 rfl ?_
      refine am_iconst (v := nI 0) hC dL_refuses_393 (by decide) ?_
      refine am_iconst (v := nI 0) hC dL_refuses_394 (by decide) ?_
      refine am_callSX hC [.ref (3), .int (nI 1), .int (nI 0), .int (pe), .int (nI 0), .int (nI 0)] mf_L_act tw_447 (c_act1 _ _ (am_tr hC) h hS _ _ _ _) rfl ⟨rfl, Nat.le_of_ble_eq_true rfl⟩ ⟨by decide, by decide⟩ (by omega) (by omega) dL_refuses_395 rfl (fun _ _ q _ => False.elim q) (fun v h hp hlc => ?_)
      obtain ⟨rfl, hS⟩ := z_bad (c := 2) (k3_2 (IX_y (by omega) (show 0 < z_n σ by omega) rfl) (and_fl (and_fl fP))) (by decide) rfl hp
      refine am_bipush (v := -72) hC dL_refuses_398 (by decide) ?_
      refine am_icmp_ne (tgt := 507) hC dL_refuses_400 (by decide) (fun c_400 => absurd rfl c_400) (fun c_400 => ?_)
      refine am_aload_n hC dL_refuses_403 rfl ?_
      refine am_iconst (v := nI 1) hC dL_refuses_404 (by decide) ?_
      refine am_iconst (v := nI 0) hC dL_refuses_405 (by decide) ?_
      refine am_iconst (v := nI 0) hC dL_refuses_406 (by decide) ?_
      refine am_iload hC dL_refuses_407 rfl ?_
      refine am_iconst (v := nI 0) hC dL_refuses_409 (by decide) ?_
      refine am_callSX hC [.ref (3), .int (nI 1), .int (nI 0), .int (nI 0), .int (si), .int (nI 0)] mf_L_act tw_447 (c_act1 _ _ (am_tr hC) h hS _ _ _ _) rfl ⟨rfl, Nat.le_of_ble_eq_true rfl⟩ ⟨by decide, by decide⟩ (by omega) (by omega) dL_refuses_410 rfl (fun _ _ q _ => False.elim q) (fun v h hp hlc => ?_)
      obtain ⟨rfl, hS⟩ := z_bad (c := 2) (k3_2 (IX_y (by omega) (show 0 < z_n σ by omega) rfl) (and_fl (and_ff fS))) (by decide) rfl hp
      refine am_bipush (v := -72) hC dL_refuses_413 (by decide) ?_
      refine am_icmp_ne (tgt := 507) hC dL_refuses_415 (by decide) (fun c_415 => absurd rfl c_415) (fun c_415 => ?_)
      refine am_aload_n hC dL_refuses_418 rfl ?_
      refine am_iconst (v := nI 1) hC dL_refuses_419 (by decide) ?_
      refine am_iconst (v := nI 0) hC dL_refuses_420 (by decide) ?_
      refine am_iconst (v := nI 0) hC dL_refuses_421 (by decide) ?_
      refine am_iconst (v := nI 0) hC dL_refuses_422 (by decide) ?_
      refine am_iload hC dL_refuses_423 rfl ?_
      refine am_iconst (v := nI 1) hC dL_refuses_425 (by decide) ?_
      refine am_icmp_ne (tgt := 433) hC dL_refuses_426 (by decide) (fun c_426 => ?_) (fun c_426 => absurd c_426 (fun z => c9 ((nI_eq (by omega) (by omega)).mp z)))
      refine am_iload hC dL_refuses_433 rfl ?_
      refine am_callSX hC [.ref (3), .int (nI 1), .int (nI 0), .int (nI 0), .int (nI 0), .int (le)] mf_L_act tw_447 (c_act1 _ _ (am_tr hC) h hS _ _ _ _) rfl ⟨rfl, Nat.le_of_ble_eq_true rfl⟩ ⟨by decide, by decide⟩ (by omega) (by omega) dL_refuses_435 rfl (fun _ _ q _ => False.elim q) (fun v h hp hlc => ?_)
      obtain ⟨rfl, hS⟩ := z_bad (c := 2) (k3_2 (IX_y (by omega) (show 0 < z_n σ by omega) rfl) (and_ff (fK c9).2.1)) (by decide) rfl hp
      refine am_bipush (v := -72) hC dL_refuses_438 (by decide) ?_
      refine am_icmp_ne (tgt := 507) hC dL_refuses_440 (by decide) (fun c_440 => absurd rfl c_440) (fun c_440 => ?_)
      refine am_aload_n hC dL_refuses_443 rfl ?_
      refine am_iconst (v := nI 2) hC dL_refuses_444 (by decide) ?_
      refine am_iconst (v := nI 0) hC dL_refuses_445 (by decide) ?_
      refine am_iload hC dL_refuses_446 rfl ?_
      refine am_iconst (v := nI 0) hC dL_refuses_448 (by decide) ?_
      refine am_iconst (v := nI 1) hC dL_refuses_449 (by decide) ?_
      refine am_callSX hC [.ref (3), .int (nI 2), .int (nI 0), .int (pe), .int (nI 0), .int (nI 1)] mf_L_act tw_447 (c_act2 _ _ (am_tr hC) h hS _ _ _ _) rfl ⟨rfl, Nat.le_of_ble_eq_true rfl⟩ ⟨by decide, by decide⟩ (by omega) (by omega) dL_refuses_450 rfl (fun _ _ q _ => False.elim q) (fun v h hp hlc => ?_)
      obtain ⟨rfl, hS⟩ := z_bad (c := 2) (k3_2 (IX_y (by omega) (show 0 < z_n σ by omega) rfl) (and_fl fP)) (by decide) rfl hp
      refine am_bipush (v := -72) hC dL_refuses_453 (by decide) ?_
      refine am_icmp_ne (tgt := 507) hC dL_refuses_455 (by decide) (fun c_455 => absurd rfl c_455) (fun c_455 => ?_)
      refine am_aload_n hC dL_refuses_458 rfl ?_
      refine am_iconst (v := nI 2) hC dL_refuses_459 (by decide) ?_
      refine am_iconst (v := nI 0) hC dL_refuses_460 (by decide) ?_
      refine am_iconst (v := nI 0) hC dL_refuses_461 (by decide) ?_
      refine am_iload hC dL_refuses_462 rfl ?_
      refine am_iconst (v := nI 1) hC dL_refuses_464 (by decide) ?_
      refine am_callSX hC [.ref (3), .int (nI 2), .int (nI 0), .int (nI 0), .int (ce), .int (nI 1)] mf_L_act tw_447 (c_act2 _ _ (am_tr hC) h hS _ _ _ _) rfl ⟨rfl, Nat.le_of_ble_eq_true rfl⟩ ⟨by decide, by decide⟩ (by omega) (by omega) dL_refuses_465 rfl (fun _ _ q _ => False.elim q) (fun v h hp hlc => ?_)
      obtain ⟨rfl, hS⟩ := z_bad (c := 2) (k3_2 (IX_y (by omega) (show 0 < z_n σ by omega) rfl) (and_ff fC)) (by decide) rfl hp
      refine am_bipush (v := -72) hC dL_refuses_468 (by decide) ?_
      refine am_icmp_ne (tgt := 507) hC dL_refuses_470 (by decide) (fun c_470 => absurd rfl c_470) (fun c_470 => ?_)
      refine am_aload_n hC dL_refuses_473 rfl ?_
      refine am_iconst (v := nI 3) hC dL_refuses_474 (by decide) ?_
      refine am_iconst (v := nI 0) hC dL_refuses_475 (by decide) ?_
      refine am_iconst (v := nI 0) hC dL_refuses_476 (by decide) ?_
      refine am_iload hC dL_refuses_477 rfl ?_
      refine am_iconst (v := nI 1) hC dL_refuses_479 (by decide) ?_
      refine am_callSX hC [.ref (3), .int (nI 3), .int (nI 0), .int (nI 0), .int (dr), .int (nI 1)] mf_L_act tw_447 (c_act3 _ _ (am_tr hC) h hS _ _ _ _) rfl ⟨rfl, Nat.le_of_ble_eq_true rfl⟩ ⟨by decide, by decide⟩ (by omega) (by omega) dL_refuses_480 rfl (fun _ _ q _ => False.elim q) (fun v h hp hlc => ?_)
      obtain ⟨rfl, hS⟩ := z_bad (c := 1) (k3_1 (and_ff fD)) (by decide) rfl hp
      refine am_bipush (v := -71) hC dL_refuses_483 (by decide) ?_
      refine am_icmp_ne (tgt := 507) hC dL_refuses_485 (by decide) (fun c_485 => absurd rfl c_485) (fun c_485 => ?_)
      refine am_aload_n hC dL_refuses_488 rfl ?_
      refine am_iconst (v := nI 3) hC dL_refuses_489 (by decide) ?_
      refine am_iconst (v := nI 0) hC dL_refuses_490 (by decide) ?_
      refine am_iload hC dL_refuses_491 rfl ?_
      refine am_iconst (v := nI 0) hC dL_refuses_493 (by decide) ?_
      refine am_iconst (v := nI 1) hC dL_refuses_494 (by decide) ?_
      refine am_callSX hC [.ref (3), .int (nI 3), .int (nI 0), .int (pe), .int (nI 0), .int (nI 1)] mf_L_act tw_447 (c_act3 _ _ (am_tr hC) h hS _ _ _ _) rfl ⟨rfl, Nat.le_of_ble_eq_true rfl⟩ ⟨by decide, by decide⟩ (by omega) (by omega) dL_refuses_495 rfl (fun _ _ q _ => False.elim q) (fun v h hp hlc => ?_)
      obtain ⟨rfl, hS⟩ := z_bad (c := 2) (k3_2 (and_tt (IX_y (by omega) (show 0 < z_n σ by omega) rfl) (IX_y (by omega) (show 0 < z_n σ by omega) rfl)) fP) (by decide) rfl hp
      refine am_bipush (v := -72) hC dL_refuses_498 (by decide) ?_
      refine am_icmp_ne (tgt := 507) hC dL_refuses_500 (by decide) (fun c_500 => absurd rfl c_500) (fun c_500 => ?_)
      refine am_iconst (v := nI 1) hC dL_refuses_503 (by decide) ?_
      refine am_goto (tgt := 508) hC dL_refuses_504 (by decide) ?_
      refine am_istore hC dL_refuses_508 (by decide) ?_
      change am_W _ _ _ _ [.ref (3), .int (nI (z_np σ)), .int (nI (z_nq σ)), .int (nI (z_n σ)), .int (x0), .int (mo), .int (nI kk), .int (no), .int (le), .int (dr), .int (pe), .int (ce), .int (si), .int (nI 1), .int (nI 18), .null] _ _
      refine am_iload hC dL_refuses_510 rfl ?_
      refine am_if_eq (tgt := 603) hC dL_refuses_512 (by decide) (fun c_512 => absurd c_512 (by decide)) (fun c_512 => ?_)
      refine am_aload_n hC dL_refuses_515 rfl ?_
      refine am_iconst (v := nI 0) hC dL_refuses_516 (by decide) ?_
      refine am_iload hC dL_refuses_517 rfl ?_
      refine am_callSX hC [.ref (3), .int (nI 0), .int (pe)] mf_L_lock tw_436 (c_lock _ _ (am_tr hC) h hS _ _) rfl ⟨rfl, Nat.le_of_ble_eq_true rfl⟩ ⟨by decide, by decide⟩ (by omega) (by omega) dL_refuses_519 rfl (fun _ _ q _ => False.elim q) (fun v h hp hlc => ?_)
      obtain ⟨rfl, hS⟩ := z_bad (c := 2) (k3_2 (IX_y (by omega) (show 0 < z_n σ by omega) rfl) fP) (by decide) rfl hp
      refine am_bipush (v := -72) hC dL_refuses_522 (by decide) ?_
      refine am_icmp_ne (tgt := 603) hC dL_refuses_524 (by decide) (fun c_524 => absurd rfl c_524) (fun c_524 => ?_)
      refine am_aload_n hC dL_refuses_527 rfl ?_
      refine am_iconst (v := nI 0) hC dL_refuses_528 (by decide) ?_
      refine am_iload hC dL_refuses_529 rfl ?_
      refine am_callSX hC [.ref (3), .int (nI 0), .int (pe)] mf_L_unlock tw_585 (c_unlock _ _ (am_tr hC) h hS _ _) rfl ⟨rfl, Nat.le_of_ble_eq_true rfl⟩ ⟨by decide, by decide⟩ (by omega) (by omega) dL_refuses_531 rfl (fun _ _ q _ => False.elim q) (fun v h hp hlc => ?_)
      obtain ⟨rfl, hS⟩ := z_bad (c := 2) (k3_2 (IX_y (by omega) (show 0 < z_n σ by omega) rfl) fP) (by decide) rfl hp
      refine am_bipush (v := -72) hC dL_refuses_534 (by decide) ?_
      refine am_icmp_ne (tgt := 603) hC dL_refuses_536 (by decide) (fun c_536 => absurd rfl c_536) (fun c_536 => ?_)
      refine am_aload_n hC dL_refuses_539 rfl ?_
      refine am_bipush (v := nI 11) hC dL_refuses_540 (by decide) ?_
      refine am_iconst (v := nI 0) hC dL_refuses_542 (by decide) ?_
      refine am_iload hC dL_refuses_543 rfl ?_
      refine am_iconst (v := -1) hC dL_refuses_545 (by decide) ?_
      refine am_iconst (v := nI 0) hC dL_refuses_546 (by decide) ?_
      refine am_callSX hC [.ref (3), .int (nI 11), .int (nI 0), .int (pe), .int (-1), .int (nI 0)] mf_L_act tw_447 (c_act11 _ _ (am_tr hC) h hS _ _ _ _) rfl ⟨rfl, Nat.le_of_ble_eq_true rfl⟩ ⟨by decide, by decide⟩ (by omega) (by omega) dL_refuses_547 rfl (fun _ _ q _ => False.elim q) (fun v h hp hlc => ?_)
      obtain ⟨rfl, hS⟩ := z_bad (c := 2) (k3_2 (IX_y (by omega) (show 0 < z_n σ by omega) rfl) (and_fl fP)) (by decide) rfl hp
      refine am_bipush (v := -72) hC dL_refuses_550 (by decide) ?_
      refine am_icmp_ne (tgt := 603) hC dL_refuses_552 (by decide) (fun c_552 => absurd rfl c_552) (fun c_552 => ?_)
      refine am_aload_n hC dL_refuses_555 rfl ?_
      refine am_bipush (v := nI 11) hC dL_refuses_556 (by decide) ?_
      refine am_iconst (v := nI 0) hC dL_refuses_558 (by decide) ?_
      refine am_iconst (v := nI 0) hC dL_refuses_559 (by decide) ?_
      refine am_iload hC dL_refuses_560 rfl ?_
      refine am_iconst (v := nI 1) hC dL_refuses_562 (by decide) ?_
      refine am_icmp_ne (tgt := 571) hC dL_refuses_563 (by decide) (fun c_563 => ?_) (fun c_563 => absurd c_563 (fun z => c9 ((nI_eq (by omega) (by omega)).mp z)))
      refine am_iload hC dL_refuses_571 rfl ?_
      refine am_iconst (v := nI 0) hC dL_refuses_573 (by decide) ?_
      refine am_callSX hC [.ref (3), .int (nI 11), .int (nI 0), .int (nI 0), .int (le), .int (nI 0)] mf_L_act tw_447 (c_act11 _ _ (am_tr hC) h hS _ _ _ _) rfl ⟨rfl, Nat.le_of_ble_eq_true rfl⟩ ⟨by decide, by decide⟩ (by omega) (by omega) dL_refuses_574 rfl (fun _ _ q _ => False.elim q) (fun v h hp hlc => ?_)
      obtain ⟨rfl, hS⟩ := z_bad (c := 2) (k3_2 (IX_y (by omega) (show 0 < z_n σ by omega) rfl) (and_ff (and_fl (fK c9).2.2))) (by decide) rfl hp
      refine am_bipush (v := -72) hC dL_refuses_577 (by decide) ?_
      refine am_icmp_ne (tgt := 603) hC dL_refuses_579 (by decide) (fun c_579 => absurd rfl c_579) (fun c_579 => ?_)
      refine am_aload_n hC dL_refuses_582 rfl ?_
      refine am_bipush (v := nI 11) hC dL_refuses_583 (by decide) ?_
      refine am_iconst (v := nI 0) hC dL_refuses_585 (by decide) ?_
      refine am_iload hC dL_refuses_586 rfl ?_
      refine am_iload hC dL_refuses_588 rfl ?_
      refine am_iconst (v := nI 0) hC dL_refuses_590 (by decide) ?_
      refine am_callSX hC [.ref (3), .int (nI 11), .int (nI 0), .int (nI kk), .int (nI kk), .int (nI 0)] mf_L_act tw_447 (c_act11 _ _ (am_tr hC) h hS _ _ _ _) rfl ⟨rfl, Nat.le_of_ble_eq_true rfl⟩ ⟨by decide, by decide⟩ (by omega) (by omega) dL_refuses_591 rfl (fun _ _ q _ => False.elim q) (fun v h hp hlc => ?_)
      obtain ⟨rfl, hS⟩ := z_bad (c := 2) (k3_2 (IX_y (by omega) (show 0 < z_n σ by omega) rfl) (and_ff (and_ff (by rw [decide_eq_true rfl]; rfl)))) (by decide) rfl hp
      refine am_bipush (v := -72) hC dL_refuses_594 (by decide) ?_
      refine am_icmp_ne (tgt := 603) hC dL_refuses_596 (by decide) (fun c_596 => absurd rfl c_596) (fun c_596 => ?_)
      refine am_iconst (v := nI 1) hC dL_refuses_599 (by decide) ?_
      refine am_goto (tgt := 604) hC dL_refuses_600 (by decide) ?_
      refine am_istore hC dL_refuses_604 (by decide) ?_
      change am_W _ _ _ _ [.ref (3), .int (nI (z_np σ)), .int (nI (z_nq σ)), .int (nI (z_n σ)), .int (x0), .int (mo), .int (nI kk), .int (no), .int (le), .int (dr), .int (pe), .int (ce), .int (si), .int (nI 1), .int (nI 18), .null] _ _
      refine am_iload hC dL_refuses_606 rfl ?_
      refine am_if_ne (tgt := 613) hC dL_refuses_608 (by decide) (fun c_608 => ?_) (fun c_608 => absurd c_608 (by decide))
      refine am_iinc (v := nI (kk + 1)) hC dL_refuses_613 rfl (nI_1 (kk)) (by decide) ?_
      change am_W _ _ _ _ [.ref (3), .int (nI (z_np σ)), .int (nI (z_nq σ)), .int (nI (z_n σ)), .int (x0), .int (mo), .int (nI (kk + 1)), .int (no), .int (le), .int (dr), .int (pe), .int (ce), .int (si), .int (nI 1), .int (nI 18), .null] _ _
      refine am_goto (tgt := 18) hC dL_refuses_616 (by decide) ?_
      exact am_fgt (ls' := [.ref (3), .int (nI (z_np σ)), .int (nI (z_nq σ)), .int (nI (z_n σ)), .int (x0), .int (mo), .int (nI (kk + 1)), .null, .null, .null, .null, .null, .null, .null, .null, .null]) ⟨Or.inl rfl, ⟨Or.inl rfl, ⟨Or.inl rfl, ⟨Or.inl rfl, ⟨Or.inl rfl, ⟨Or.inl rfl, ⟨Or.inl rfl, ⟨Or.inr rfl, ⟨Or.inr rfl, ⟨Or.inr rfl, ⟨Or.inr rfl, ⟨Or.inr rfl, ⟨Or.inr rfl, ⟨Or.inr rfl, ⟨Or.inr rfl, ⟨Or.inr rfl, trivial⟩⟩⟩⟩⟩⟩⟩⟩⟩⟩⟩⟩⟩⟩⟩⟩ (am_more (by omega) (by omega) (hk h hS))
set_option maxRecDepth 100000 in
set_option maxHeartbeats 4000000 in
theorem rf_mid {Z : am_Z} {σ : z_Sg} (hC : am_OK Z "HousePlansLaw" cL_refuses 16 14 1800 34000) {x0 mo no le dr pe ce si : Int32} {kk : Nat} (hF : z_RF σ kk no le dr pe ce si) {kc ks : Nat} (hb : kc + 440 ≤ 1800 ∧ ks + 8360 ≤ 34000) (hk : ∀ h, SZ h σ → am_W Z (kc + 440) (ks + 8360) 18 [.ref (3), .int (nI (z_np σ)), .int (nI (z_nq σ)), .int (nI (z_n σ)), .int (x0), .int (mo), .int (nI (kk + 1)), .null, .null, .null, .null, .null, .null, .null, .null, .null] [] h) (h : am_H) (hS : SZ h σ) : am_W Z kc ks 124 [.ref (3), .int (nI (z_np σ)), .int (nI (z_nq σ)), .int (nI (z_n σ)), .int (x0), .int (mo), .int (nI kk), .int (no), .int (le), .int (dr), .int (pe), .int (ce), .int (si), .null, .null, .null] [] h := by
  obtain ⟨k4, fD, fP, fC, fS, fK⟩ := id hF
  refine am_aload_n hC dL_refuses_124 rfl ?_
  refine am_iconst (v := nI 1) hC dL_refuses_125 (by decide) ?_
  refine am_iload hC dL_refuses_126 rfl ?_
  refine am_iconst (v := -1) hC dL_refuses_128 (by decide) ?_
  refine am_iconst (v := -1) hC dL_refuses_129 (by decide) ?_
  refine am_iconst (v := nI 5) hC dL_refuses_130 (by decide) ?_
  refine am_callSX hC [.ref (3), .int (nI 1), .int (dr), .int (-1), .int (-1), .int (nI 5)] mf_L_act tw_447 (c_act1 _ _ (am_tr hC) h hS _ _ _ _) rfl ⟨rfl, Nat.le_of_ble_eq_true rfl⟩ ⟨by decide, by decide⟩ (by omega) (by omega) dL_refuses_131 rfl (fun _ _ q _ => False.elim q) (fun v h hp hlc => ?_)
  obtain ⟨rfl, hS⟩ := z_bad (c := 1) (k3_1 fD) (by decide) rfl hp
  refine am_bipush (v := -71) hC dL_refuses_134 (by decide) ?_
  refine am_icmp_ne (tgt := 213) hC dL_refuses_136 (by decide) (fun c_136 => absurd rfl c_136) (fun c_136 => ?_)
  refine am_aload_n hC dL_refuses_139 rfl ?_
  refine am_iconst (v := nI 2) hC dL_refuses_140 (by decide) ?_
  refine am_iload hC dL_refuses_141 rfl ?_
  refine am_iconst (v := -1) hC dL_refuses_143 (by decide) ?_
  refine am_iconst (v := -1) hC dL_refuses_144 (by decide) ?_
  refine am_iconst (v := nI 1) hC dL_refuses_145 (by decide) ?_
  refine am_callSX hC [.ref (3), .int (nI 2), .int (dr), .int (-1), .int (-1), .int (nI 1)] mf_L_act tw_447 (c_act2 _ _ (am_tr hC) h hS _ _ _ _) rfl ⟨rfl, Nat.le_of_ble_eq_true rfl⟩ ⟨by decide, by decide⟩ (by omega) (by omega) dL_refuses_146 rfl (fun _ _ q _ => False.elim q) (fun v h hp hlc => ?_)
  obtain ⟨rfl, hS⟩ := z_bad (c := 1) (k3_1 fD) (by decide) rfl hp
  refine am_bipush (v := -71) hC dL_refuses_149 (by decide) ?_
  refine am_icmp_ne (tgt := 213) hC dL_refuses_151 (by decide) (fun c_151 => absurd rfl c_151) (fun c_151 => ?_)
  refine am_aload_n hC dL_refuses_154 rfl ?_
  refine am_iconst (v := nI 3) hC dL_refuses_155 (by decide) ?_
  refine am_iload hC dL_refuses_156 rfl ?_
  refine am_iconst (v := -1) hC dL_refuses_158 (by decide) ?_
  refine am_iconst (v := nI 0) hC dL_refuses_159 (by decide) ?_
  refine am_iconst (v := nI 1) hC dL_refuses_160 (by decide) ?_
  refine am_callSX hC [.ref (3), .int (nI 3), .int (dr), .int (-1), .int (nI 0), .int (nI 1)] mf_L_act tw_447 (c_act3 _ _ (am_tr hC) h hS _ _ _ _) rfl ⟨rfl, Nat.le_of_ble_eq_true rfl⟩ ⟨by decide, by decide⟩ (by omega) (by omega) dL_refuses_161 rfl (fun _ _ q _ => False.elim q) (fun v h hp hlc => ?_)
  obtain ⟨rfl, hS⟩ := z_bad (c := 1) (k3_1 (and_fl fD)) (by decide) rfl hp
  refine am_bipush (v := -71) hC dL_refuses_164 (by decide) ?_
  refine am_icmp_ne (tgt := 213) hC dL_refuses_166 (by decide) (fun c_166 => absurd rfl c_166) (fun c_166 => ?_)
  refine am_aload_n hC dL_refuses_169 rfl ?_
  refine am_bipush (v := nI 11) hC dL_refuses_170 (by decide) ?_
  refine am_iload hC dL_refuses_172 rfl ?_
  refine am_iconst (v := -1) hC dL_refuses_174 (by decide) ?_
  refine am_iconst (v := -1) hC dL_refuses_175 (by decide) ?_
  refine am_iconst (v := nI 0) hC dL_refuses_176 (by decide) ?_
  refine am_callSX hC [.ref (3), .int (nI 11), .int (dr), .int (-1), .int (-1), .int (nI 0)] mf_L_act tw_447 (c_act11 _ _ (am_tr hC) h hS _ _ _ _) rfl ⟨rfl, Nat.le_of_ble_eq_true rfl⟩ ⟨by decide, by decide⟩ (by omega) (by omega) dL_refuses_177 rfl (fun _ _ q _ => False.elim q) (fun v h hp hlc => ?_)
  obtain ⟨rfl, hS⟩ := z_bad (c := 1) (k3_1 fD) (by decide) rfl hp
  refine am_bipush (v := -71) hC dL_refuses_180 (by decide) ?_
  refine am_icmp_ne (tgt := 213) hC dL_refuses_182 (by decide) (fun c_182 => absurd rfl c_182) (fun c_182 => ?_)
  refine am_aload_n hC dL_refuses_185 rfl ?_
  refine am_iload hC dL_refuses_186 rfl ?_
  refine am_iconst (v := -1) hC dL_refuses_188 (by decide) ?_
  refine am_callSX hC [.ref (3), .int (dr), .int (-1)] mf_L_lock tw_436 (c_lock _ _ (am_tr hC) h hS _ _) rfl ⟨rfl, Nat.le_of_ble_eq_true rfl⟩ ⟨by decide, by decide⟩ (by omega) (by omega) dL_refuses_189 rfl (fun _ _ q _ => False.elim q) (fun v h hp hlc => ?_)
  obtain ⟨rfl, hS⟩ := z_bad (c := 1) (k3_1 fD) (by decide) rfl hp
  refine am_bipush (v := -71) hC dL_refuses_192 (by decide) ?_
  refine am_icmp_ne (tgt := 213) hC dL_refuses_194 (by decide) (fun c_194 => absurd rfl c_194) (fun c_194 => ?_)
  refine am_aload_n hC dL_refuses_197 rfl ?_
  refine am_iload hC dL_refuses_198 rfl ?_
  refine am_iconst (v := -1) hC dL_refuses_200 (by decide) ?_
  refine am_callSX hC [.ref (3), .int (dr), .int (-1)] mf_L_unlock tw_585 (c_unlock _ _ (am_tr hC) h hS _ _) rfl ⟨rfl, Nat.le_of_ble_eq_true rfl⟩ ⟨by decide, by decide⟩ (by omega) (by omega) dL_refuses_201 rfl (fun _ _ q _ => False.elim q) (fun v h hp hlc => ?_)
  obtain ⟨rfl, hS⟩ := z_bad (c := 1) (k3_1 fD) (by decide) rfl hp
  refine am_bipush (v := -71) hC dL_refuses_204 (by decide) ?_
  refine am_icmp_ne (tgt := 213) hC dL_refuses_206 (by decide) (fun c_206 => absurd rfl c_206) (fun c_206 => ?_)
  refine am_iconst (v := nI 1) hC dL_refuses_209 (by decide) ?_
  refine am_goto (tgt := 214) hC dL_refuses_210 (by decide) ?_
  refine am_istore hC dL_refuses_214 (by decide) ?_
  change am_W _ _ _ _ [.ref (3), .int (nI (z_np σ)), .int (nI (z_nq σ)), .int (nI (z_n σ)), .int (x0), .int (mo), .int (nI kk), .int (no), .int (le), .int (dr), .int (pe), .int (ce), .int (si), .int (nI 1), .null, .null] _ _
  refine am_iconst (v := nI 4) hC dL_refuses_216 (by decide) ?_
  refine am_istore hC dL_refuses_217 (by decide) ?_
  change am_W _ _ _ _ [.ref (3), .int (nI (z_np σ)), .int (nI (z_nq σ)), .int (nI (z_n σ)), .int (x0), .int (mo), .int (nI kk), .int (no), .int (le), .int (dr), .int (pe), .int (ce), .int (si), .int (nI 1), .int (nI 4), .null] _ _
  refine rf_l1 hC hF (kc1 := kc + 200) (ks1 := ks + 3800) ⟨by omega, by omega⟩ (fun h hS => ?_) 7 4 _ _ h rfl (by decide) (by omega) (by omega) hS
  refine am_bipush (v := nI 12) hC dL_refuses_298 (by decide) ?_
  refine am_istore hC dL_refuses_300 (by decide) ?_
  change am_W _ _ _ _ [.ref (3), .int (nI (z_np σ)), .int (nI (z_nq σ)), .int (nI (z_n σ)), .int (x0), .int (mo), .int (nI kk), .int (no), .int (le), .int (dr), .int (pe), .int (ce), .int (si), .int (nI 1), .int (nI 12), .null] _ _
  refine rf_l2 hC hF (kc1 := kc + 320) (ks1 := ks + 6080) ⟨by omega, by omega⟩ (fun h hS => ?_) 6 12 _ _ h rfl (by decide) (by omega) (by omega) hS
  exact rf_t3 hC hF ⟨by omega, by omega⟩ hk h hS
set_option maxRecDepth 100000 in
set_option maxHeartbeats 4000000 in
theorem c_refuses (G : am_G) (l : Launch) (htr : l.stackTraces = false) (h : am_H) {σ : z_Sg} (hS : SZ h σ) : am_Met G l yL_refuses (.code yL_refuses cL_refuses 16 (some .boolean)) 14 1800 34000 [.ref (3), .int (nI (z_np σ)), .int (nI (z_nq σ))] h (fun v h' => v = some (.int 1) ∧ SZ h' σ) am_no := by
  obtain ⟨n6, n20, n30⟩ := SZ_6 hS
  refine am_intro rfl htr rfl (Nat.le_of_ble_eq_true rfl) (fun Z hC hR hI => ?_)
  change am_W Z 0 0 0 [.ref (3), .int (nI (z_np σ)), .int (nI (z_nq σ)), .null, .null, .null, .null, .null, .null, .null, .null, .null, .null, .null, .null, .null] [] h
  refine am_aload_n hC dL_refuses_0 rfl ?_
  refine am_callV hC (ci := 6) (N := 4) [] rfl (SZ_3 hS) rfl mf_X5_drawings tw_576 (d_drawings _ _ (am_tr hC) h hS) rfl ⟨rfl, Nat.le_of_ble_eq_true rfl⟩ ⟨by decide, by decide⟩ (by decide) (by decide) dL_refuses_1 rfl (fun _ _ q _ => False.elim q) (fun v h hp hlc => ?_)
  obtain ⟨rfl, hS⟩ := hp
  refine am_istore_n hC dL_refuses_4 (by decide) ?_
  change am_W _ _ _ _ [.ref (3), .int (nI (z_np σ)), .int (nI (z_nq σ)), .int (nI (z_n σ)), .null, .null, .null, .null, .null, .null, .null, .null, .null, .null, .null, .null] _ _
  refine am_aload_n hC dL_refuses_5 rfl ?_
  refine am_callV hC (ci := 6) (N := 4) [] rfl (SZ_3 hS) rfl mf_X5_old tw_580 (d_old _ _ (am_tr hC) h hS) rfl ⟨rfl, Nat.le_of_ble_eq_true rfl⟩ ⟨by decide, by decide⟩ (by decide) (by decide) dL_refuses_6 rfl (fun _ _ q _ => False.elim q) (fun v h hp hlc => ?_)
  obtain ⟨rfl, hS⟩ := hp
  refine am_istore hC dL_refuses_9 (by decide) ?_
  change am_W _ _ _ _ [.ref (3), .int (nI (z_np σ)), .int (nI (z_nq σ)), .int (nI (z_n σ)), .int (z_old σ), .null, .null, .null, .null, .null, .null, .null, .null, .null, .null, .null] _ _
  refine am_ldcI hC tw_584 dL_refuses_11 ?_
  refine am_istore hC dL_refuses_13 (by decide) ?_
  change am_W _ _ _ _ [.ref (3), .int (nI (z_np σ)), .int (nI (z_nq σ)), .int (nI (z_n σ)), .int (z_old σ), .int (2147483647), .null, .null, .null, .null, .null, .null, .null, .null, .null, .null] _ _
  refine am_iconst (v := nI 0) hC dL_refuses_15 (by decide) ?_
  refine am_istore hC dL_refuses_16 (by decide) ?_
  change am_W _ _ _ _ [.ref (3), .int (nI (z_np σ)), .int (nI (z_nq σ)), .int (nI (z_n σ)), .int (z_old σ), .int (2147483647), .int (nI 0), .null, .null, .null, .null, .null, .null, .null, .null, .null] _ _
  refine am_more (kc' := 0) (ks' := 0) (by decide) (by decide) ?_
  refine am_iload hC dL_refuses_18 rfl ?_
  refine am_iconst (v := nI 4) hC dL_refuses_20 (by decide) ?_
  refine am_icmp_ge (tgt := 619) hC dL_refuses_21 (by decide) (fun c_21 => absurd c_21 (by decide)) (fun c_21 => ?_)
  refine am_iload hC dL_refuses_24 rfl ?_
  refine am_if_ne (tgt := 33) hC dL_refuses_26 (by decide) (fun c_26 => absurd (by decide) c_26) (fun c_26 => ?_)
  refine am_iconst (v := -1) hC dL_refuses_29 (by decide) ?_
  refine am_goto (tgt := 49) hC dL_refuses_30 (by decide) ?_
  refine am_istore hC dL_refuses_49 (by decide) ?_
  change am_W _ _ _ _ [.ref (3), .int (nI (z_np σ)), .int (nI (z_nq σ)), .int (nI (z_n σ)), .int (z_old σ), .int (2147483647), .int (nI 0), .int (-1), .null, .null, .null, .null, .null, .null, .null, .null] _ _
  refine am_iload hC dL_refuses_51 rfl ?_
  refine am_if_ne (tgt := 61) hC dL_refuses_53 (by decide) (fun c_53 => absurd (by decide) c_53) (fun c_53 => ?_)
  refine am_bipush (v := -2) hC dL_refuses_56 (by decide) ?_
  refine am_goto (tgt := 63) hC dL_refuses_58 (by decide) ?_
  refine am_istore hC dL_refuses_63 (by decide) ?_
  change am_W _ _ _ _ [.ref (3), .int (nI (z_np σ)), .int (nI (z_nq σ)), .int (nI (z_n σ)), .int (z_old σ), .int (2147483647), .int (nI 0), .int (-1), .int (-2), .null, .null, .null, .null, .null, .null, .null] _ _
  refine am_iload hC dL_refuses_65 rfl ?_
  refine am_iconst (v := nI 1) hC dL_refuses_67 (by decide) ?_
  refine am_icmp_ne (tgt := 75) hC dL_refuses_68 (by decide) (fun c_68 => ?_) (fun c_68 => absurd c_68 (by decide))
  refine am_iload hC dL_refuses_75 rfl ?_
  refine am_istore hC dL_refuses_77 (by decide) ?_
  change am_W _ _ _ _ [.ref (3), .int (nI (z_np σ)), .int (nI (z_nq σ)), .int (nI (z_n σ)), .int (z_old σ), .int (2147483647), .int (nI 0), .int (-1), .int (-2), .int (-1), .null, .null, .null, .null, .null, .null] _ _
  refine am_iload hC dL_refuses_79 rfl ?_
  refine am_iconst (v := nI 1) hC dL_refuses_81 (by decide) ?_
  refine am_icmp_ne (tgt := 90) hC dL_refuses_82 (by decide) (fun c_82 => ?_) (fun c_82 => absurd c_82 (by decide))
  refine am_iload hC dL_refuses_90 rfl ?_
  refine am_istore hC dL_refuses_92 (by decide) ?_
  change am_W _ _ _ _ [.ref (3), .int (nI (z_np σ)), .int (nI (z_nq σ)), .int (nI (z_n σ)), .int (z_old σ), .int (2147483647), .int (nI 0), .int (-1), .int (-2), .int (-1), .int (-1), .null, .null, .null, .null, .null] _ _
  refine am_iload hC dL_refuses_94 rfl ?_
  refine am_iconst (v := nI 1) hC dL_refuses_96 (by decide) ?_
  refine am_icmp_ne (tgt := 105) hC dL_refuses_97 (by decide) (fun c_97 => ?_) (fun c_97 => absurd c_97 (by decide))
  refine am_iload hC dL_refuses_105 rfl ?_
  refine am_istore hC dL_refuses_107 (by decide) ?_
  change am_W _ _ _ _ [.ref (3), .int (nI (z_np σ)), .int (nI (z_nq σ)), .int (nI (z_n σ)), .int (z_old σ), .int (2147483647), .int (nI 0), .int (-1), .int (-2), .int (-1), .int (-1), .int (-1), .null, .null, .null, .null] _ _
  refine am_iload hC dL_refuses_109 rfl ?_
  refine am_iconst (v := nI 1) hC dL_refuses_111 (by decide) ?_
  refine am_icmp_ne (tgt := 120) hC dL_refuses_112 (by decide) (fun c_112 => ?_) (fun c_112 => absurd c_112 (by decide))
  refine am_iload hC dL_refuses_120 rfl ?_
  refine am_istore hC dL_refuses_122 (by decide) ?_
  change am_W _ _ _ _ [.ref (3), .int (nI (z_np σ)), .int (nI (z_nq σ)), .int (nI (z_n σ)), .int (z_old σ), .int (2147483647), .int (nI 0), .int (-1), .int (-2), .int (-1), .int (-1), .int (-1), .int (-1), .null, .null, .null] _ _
  refine rf_mid hC (x0 := z_old σ) (mo := 2147483647) (no := (-1)) (le := (-2)) (dr := -1) (pe := -1) (ce := -1) (si := -1) (kk := 0) ⟨by decide, IX_neg (by decide), by decide, by decide, by decide, (fun _ => ⟨fun m hm => IX_neg (by decide), by decide, by decide⟩)⟩ (kc := 0) (ks := 0) ⟨by decide, by decide⟩ (fun h hS => ?_) h hS
  change am_W Z _ _ 18 [.ref (3), .int (nI (z_np σ)), .int (nI (z_nq σ)), .int (nI (z_n σ)), .int (z_old σ), .int (2147483647), .int (nI 1), .null, .null, .null, .null, .null, .null, .null, .null, .null] [] h
  refine am_more (kc' := 440) (ks' := 8360) (by decide) (by decide) ?_
  refine am_iload hC dL_refuses_18 rfl ?_
  refine am_iconst (v := nI 4) hC dL_refuses_20 (by decide) ?_
  refine am_icmp_ge (tgt := 619) hC dL_refuses_21 (by decide) (fun c_21 => absurd c_21 (by decide)) (fun c_21 => ?_)
  refine am_iload hC dL_refuses_24 rfl ?_
  refine am_if_ne (tgt := 33) hC dL_refuses_26 (by decide) (fun c_26 => ?_) (fun c_26 => absurd c_26 (by decide))
  refine am_iload hC dL_refuses_33 rfl ?_
  refine am_iconst (v := nI 2) hC dL_refuses_35 (by decide) ?_
  refine am_icmp_ne (tgt := 44) hC dL_refuses_36 (by decide) (fun c_36 => ?_) (fun c_36 => absurd c_36 (by decide))
  refine am_iload hC dL_refuses_44 rfl ?_
  refine am_ineg (v := -2147483647) hC dL_refuses_46 (by decide) ?_
  refine am_iconst (v := nI 1) hC dL_refuses_47 (by decide) ?_
  refine am_isubE (z := -2147483648) hC dL_refuses_48 (by decide) ?_
  refine am_istore hC dL_refuses_49 (by decide) ?_
  change am_W _ _ _ _ [.ref (3), .int (nI (z_np σ)), .int (nI (z_nq σ)), .int (nI (z_n σ)), .int (z_old σ), .int (2147483647), .int (nI 1), .int (-2147483648), .null, .null, .null, .null, .null, .null, .null, .null] _ _
  refine am_iload hC dL_refuses_51 rfl ?_
  refine am_if_ne (tgt := 61) hC dL_refuses_53 (by decide) (fun c_53 => ?_) (fun c_53 => absurd c_53 (by decide))
  refine am_iload hC dL_refuses_61 rfl ?_
  refine am_istore hC dL_refuses_63 (by decide) ?_
  change am_W _ _ _ _ [.ref (3), .int (nI (z_np σ)), .int (nI (z_nq σ)), .int (nI (z_n σ)), .int (z_old σ), .int (2147483647), .int (nI 1), .int (-2147483648), .int (-2147483648), .null, .null, .null, .null, .null, .null, .null] _ _
  refine am_iload hC dL_refuses_65 rfl ?_
  refine am_iconst (v := nI 1) hC dL_refuses_67 (by decide) ?_
  refine am_icmp_ne (tgt := 75) hC dL_refuses_68 (by decide) (fun c_68 => absurd (by decide) c_68) (fun c_68 => ?_)
  refine am_iload_n hC dL_refuses_71 rfl ?_
  refine am_goto (tgt := 77) hC dL_refuses_72 (by decide) ?_
  refine am_istore hC dL_refuses_77 (by decide) ?_
  change am_W _ _ _ _ [.ref (3), .int (nI (z_np σ)), .int (nI (z_nq σ)), .int (nI (z_n σ)), .int (z_old σ), .int (2147483647), .int (nI 1), .int (-2147483648), .int (-2147483648), .int (nI (z_n σ)), .null, .null, .null, .null, .null, .null] _ _
  refine am_iload hC dL_refuses_79 rfl ?_
  refine am_iconst (v := nI 1) hC dL_refuses_81 (by decide) ?_
  refine am_icmp_ne (tgt := 90) hC dL_refuses_82 (by decide) (fun c_82 => absurd (by decide) c_82) (fun c_82 => ?_)
  refine am_bipush (v := nI 6) hC dL_refuses_85 (by decide) ?_
  refine am_goto (tgt := 92) hC dL_refuses_87 (by decide) ?_
  refine am_istore hC dL_refuses_92 (by decide) ?_
  change am_W _ _ _ _ [.ref (3), .int (nI (z_np σ)), .int (nI (z_nq σ)), .int (nI (z_n σ)), .int (z_old σ), .int (2147483647), .int (nI 1), .int (-2147483648), .int (-2147483648), .int (nI (z_n σ)), .int (nI 6), .null, .null, .null, .null, .null] _ _
  refine am_iload hC dL_refuses_94 rfl ?_
  refine am_iconst (v := nI 1) hC dL_refuses_96 (by decide) ?_
  refine am_icmp_ne (tgt := 105) hC dL_refuses_97 (by decide) (fun c_97 => absurd (by decide) c_97) (fun c_97 => ?_)
  refine am_bipush (v := nI 25) hC dL_refuses_100 (by decide) ?_
  refine am_goto (tgt := 107) hC dL_refuses_102 (by decide) ?_
  refine am_istore hC dL_refuses_107 (by decide) ?_
  change am_W _ _ _ _ [.ref (3), .int (nI (z_np σ)), .int (nI (z_nq σ)), .int (nI (z_n σ)), .int (z_old σ), .int (2147483647), .int (nI 1), .int (-2147483648), .int (-2147483648), .int (nI (z_n σ)), .int (nI 6), .int (nI 25), .null, .null, .null, .null] _ _
  refine am_iload hC dL_refuses_109 rfl ?_
  refine am_iconst (v := nI 1) hC dL_refuses_111 (by decide) ?_
  refine am_icmp_ne (tgt := 120) hC dL_refuses_112 (by decide) (fun c_112 => absurd (by decide) c_112) (fun c_112 => ?_)
  refine am_bipush (v := nI 40) hC dL_refuses_115 (by decide) ?_
  refine am_goto (tgt := 122) hC dL_refuses_117 (by decide) ?_
  refine am_istore hC dL_refuses_122 (by decide) ?_
  change am_W _ _ _ _ [.ref (3), .int (nI (z_np σ)), .int (nI (z_nq σ)), .int (nI (z_n σ)), .int (z_old σ), .int (2147483647), .int (nI 1), .int (-2147483648), .int (-2147483648), .int (nI (z_n σ)), .int (nI 6), .int (nI 25), .int (nI 40), .null, .null, .null] _ _
  refine rf_mid hC (x0 := z_old σ) (mo := 2147483647) (no := (-2147483648)) (le := (-2147483648)) (dr := nI (z_n σ)) (pe := nI 6) (ce := nI 25) (si := nI 40) (kk := 1) ⟨by decide, IX_top (by omega), by decide, by decide, by decide, (fun z => absurd rfl z)⟩ (kc := 440) (ks := 8360) ⟨by decide, by decide⟩ (fun h hS => ?_) h hS
  change am_W Z _ _ 18 [.ref (3), .int (nI (z_np σ)), .int (nI (z_nq σ)), .int (nI (z_n σ)), .int (z_old σ), .int (2147483647), .int (nI 2), .null, .null, .null, .null, .null, .null, .null, .null, .null] [] h
  refine am_more (kc' := 880) (ks' := 16720) (by decide) (by decide) ?_
  refine am_iload hC dL_refuses_18 rfl ?_
  refine am_iconst (v := nI 4) hC dL_refuses_20 (by decide) ?_
  refine am_icmp_ge (tgt := 619) hC dL_refuses_21 (by decide) (fun c_21 => absurd c_21 (by decide)) (fun c_21 => ?_)
  refine am_iload hC dL_refuses_24 rfl ?_
  refine am_if_ne (tgt := 33) hC dL_refuses_26 (by decide) (fun c_26 => ?_) (fun c_26 => absurd c_26 (by decide))
  refine am_iload hC dL_refuses_33 rfl ?_
  refine am_iconst (v := nI 2) hC dL_refuses_35 (by decide) ?_
  refine am_icmp_ne (tgt := 44) hC dL_refuses_36 (by decide) (fun c_36 => absurd (by decide) c_36) (fun c_36 => ?_)
  refine am_iload hC dL_refuses_39 rfl ?_
  refine am_goto (tgt := 49) hC dL_refuses_41 (by decide) ?_
  refine am_istore hC dL_refuses_49 (by decide) ?_
  change am_W _ _ _ _ [.ref (3), .int (nI (z_np σ)), .int (nI (z_nq σ)), .int (nI (z_n σ)), .int (z_old σ), .int (2147483647), .int (nI 2), .int (2147483647), .null, .null, .null, .null, .null, .null, .null, .null] _ _
  refine am_iload hC dL_refuses_51 rfl ?_
  refine am_if_ne (tgt := 61) hC dL_refuses_53 (by decide) (fun c_53 => ?_) (fun c_53 => absurd c_53 (by decide))
  refine am_iload hC dL_refuses_61 rfl ?_
  refine am_istore hC dL_refuses_63 (by decide) ?_
  change am_W _ _ _ _ [.ref (3), .int (nI (z_np σ)), .int (nI (z_nq σ)), .int (nI (z_n σ)), .int (z_old σ), .int (2147483647), .int (nI 2), .int (2147483647), .int (2147483647), .null, .null, .null, .null, .null, .null, .null] _ _
  refine am_iload hC dL_refuses_65 rfl ?_
  refine am_iconst (v := nI 1) hC dL_refuses_67 (by decide) ?_
  refine am_icmp_ne (tgt := 75) hC dL_refuses_68 (by decide) (fun c_68 => ?_) (fun c_68 => absurd c_68 (by decide))
  refine am_iload hC dL_refuses_75 rfl ?_
  refine am_istore hC dL_refuses_77 (by decide) ?_
  change am_W _ _ _ _ [.ref (3), .int (nI (z_np σ)), .int (nI (z_nq σ)), .int (nI (z_n σ)), .int (z_old σ), .int (2147483647), .int (nI 2), .int (2147483647), .int (2147483647), .int (2147483647), .null, .null, .null, .null, .null, .null] _ _
  refine am_iload hC dL_refuses_79 rfl ?_
  refine am_iconst (v := nI 1) hC dL_refuses_81 (by decide) ?_
  refine am_icmp_ne (tgt := 90) hC dL_refuses_82 (by decide) (fun c_82 => ?_) (fun c_82 => absurd c_82 (by decide))
  refine am_iload hC dL_refuses_90 rfl ?_
  refine am_istore hC dL_refuses_92 (by decide) ?_
  change am_W _ _ _ _ [.ref (3), .int (nI (z_np σ)), .int (nI (z_nq σ)), .int (nI (z_n σ)), .int (z_old σ), .int (2147483647), .int (nI 2), .int (2147483647), .int (2147483647), .int (2147483647), .int (2147483647), .null, .null, .null, .null, .null] _ _
  refine am_iload hC dL_refuses_94 rfl ?_
  refine am_iconst (v := nI 1) hC dL_refuses_96 (by decide) ?_
  refine am_icmp_ne (tgt := 105) hC dL_refuses_97 (by decide) (fun c_97 => ?_) (fun c_97 => absurd c_97 (by decide))
  refine am_iload hC dL_refuses_105 rfl ?_
  refine am_istore hC dL_refuses_107 (by decide) ?_
  change am_W _ _ _ _ [.ref (3), .int (nI (z_np σ)), .int (nI (z_nq σ)), .int (nI (z_n σ)), .int (z_old σ), .int (2147483647), .int (nI 2), .int (2147483647), .int (2147483647), .int (2147483647), .int (2147483647), .int (2147483647), .null, .null, .null, .null] _ _
  refine am_iload hC dL_refuses_109 rfl ?_
  refine am_iconst (v := nI 1) hC dL_refuses_111 (by decide) ?_
  refine am_icmp_ne (tgt := 120) hC dL_refuses_112 (by decide) (fun c_112 => ?_) (fun c_112 => absurd c_112 (by decide))
  refine am_iload hC dL_refuses_120 rfl ?_
  refine am_istore hC dL_refuses_122 (by decide) ?_
  change am_W _ _ _ _ [.ref (3), .int (nI (z_np σ)), .int (nI (z_nq σ)), .int (nI (z_n σ)), .int (z_old σ), .int (2147483647), .int (nI 2), .int (2147483647), .int (2147483647), .int (2147483647), .int (2147483647), .int (2147483647), .int (2147483647), .null, .null, .null] _ _
  refine rf_mid hC (x0 := z_old σ) (mo := 2147483647) (no := 2147483647) (le := 2147483647) (dr := 2147483647) (pe := 2147483647) (ce := 2147483647) (si := 2147483647) (kk := 2) ⟨by decide, IX_max (by omega), by decide, by decide, by decide, (fun _ => ⟨fun m hm => IX_max hm, by decide, by decide⟩)⟩ (kc := 880) (ks := 16720) ⟨by decide, by decide⟩ (fun h hS => ?_) h hS
  change am_W Z _ _ 18 [.ref (3), .int (nI (z_np σ)), .int (nI (z_nq σ)), .int (nI (z_n σ)), .int (z_old σ), .int (2147483647), .int (nI 3), .null, .null, .null, .null, .null, .null, .null, .null, .null] [] h
  refine am_more (kc' := 1320) (ks' := 25080) (by decide) (by decide) ?_
  refine am_iload hC dL_refuses_18 rfl ?_
  refine am_iconst (v := nI 4) hC dL_refuses_20 (by decide) ?_
  refine am_icmp_ge (tgt := 619) hC dL_refuses_21 (by decide) (fun c_21 => absurd c_21 (by decide)) (fun c_21 => ?_)
  refine am_iload hC dL_refuses_24 rfl ?_
  refine am_if_ne (tgt := 33) hC dL_refuses_26 (by decide) (fun c_26 => ?_) (fun c_26 => absurd c_26 (by decide))
  refine am_iload hC dL_refuses_33 rfl ?_
  refine am_iconst (v := nI 2) hC dL_refuses_35 (by decide) ?_
  refine am_icmp_ne (tgt := 44) hC dL_refuses_36 (by decide) (fun c_36 => ?_) (fun c_36 => absurd c_36 (by decide))
  refine am_iload hC dL_refuses_44 rfl ?_
  refine am_ineg (v := -2147483647) hC dL_refuses_46 (by decide) ?_
  refine am_iconst (v := nI 1) hC dL_refuses_47 (by decide) ?_
  refine am_isubE (z := -2147483648) hC dL_refuses_48 (by decide) ?_
  refine am_istore hC dL_refuses_49 (by decide) ?_
  change am_W _ _ _ _ [.ref (3), .int (nI (z_np σ)), .int (nI (z_nq σ)), .int (nI (z_n σ)), .int (z_old σ), .int (2147483647), .int (nI 3), .int (-2147483648), .null, .null, .null, .null, .null, .null, .null, .null] _ _
  refine am_iload hC dL_refuses_51 rfl ?_
  refine am_if_ne (tgt := 61) hC dL_refuses_53 (by decide) (fun c_53 => ?_) (fun c_53 => absurd c_53 (by decide))
  refine am_iload hC dL_refuses_61 rfl ?_
  refine am_istore hC dL_refuses_63 (by decide) ?_
  change am_W _ _ _ _ [.ref (3), .int (nI (z_np σ)), .int (nI (z_nq σ)), .int (nI (z_n σ)), .int (z_old σ), .int (2147483647), .int (nI 3), .int (-2147483648), .int (-2147483648), .null, .null, .null, .null, .null, .null, .null] _ _
  refine am_iload hC dL_refuses_65 rfl ?_
  refine am_iconst (v := nI 1) hC dL_refuses_67 (by decide) ?_
  refine am_icmp_ne (tgt := 75) hC dL_refuses_68 (by decide) (fun c_68 => ?_) (fun c_68 => absurd c_68 (by decide))
  refine am_iload hC dL_refuses_75 rfl ?_
  refine am_istore hC dL_refuses_77 (by decide) ?_
  change am_W _ _ _ _ [.ref (3), .int (nI (z_np σ)), .int (nI (z_nq σ)), .int (nI (z_n σ)), .int (z_old σ), .int (2147483647), .int (nI 3), .int (-2147483648), .int (-2147483648), .int (-2147483648), .null, .null, .null, .null, .null, .null] _ _
  refine am_iload hC dL_refuses_79 rfl ?_
  refine am_iconst (v := nI 1) hC dL_refuses_81 (by decide) ?_
  refine am_icmp_ne (tgt := 90) hC dL_refuses_82 (by decide) (fun c_82 => ?_) (fun c_82 => absurd c_82 (by decide))
  refine am_iload hC dL_refuses_90 rfl ?_
  refine am_istore hC dL_refuses_92 (by decide) ?_
  change am_W _ _ _ _ [.ref (3), .int (nI (z_np σ)), .int (nI (z_nq σ)), .int (nI (z_n σ)), .int (z_old σ), .int (2147483647), .int (nI 3), .int (-2147483648), .int (-2147483648), .int (-2147483648), .int (-2147483648), .null, .null, .null, .null, .null] _ _
  refine am_iload hC dL_refuses_94 rfl ?_
  refine am_iconst (v := nI 1) hC dL_refuses_96 (by decide) ?_
  refine am_icmp_ne (tgt := 105) hC dL_refuses_97 (by decide) (fun c_97 => ?_) (fun c_97 => absurd c_97 (by decide))
  refine am_iload hC dL_refuses_105 rfl ?_
  refine am_istore hC dL_refuses_107 (by decide) ?_
  change am_W _ _ _ _ [.ref (3), .int (nI (z_np σ)), .int (nI (z_nq σ)), .int (nI (z_n σ)), .int (z_old σ), .int (2147483647), .int (nI 3), .int (-2147483648), .int (-2147483648), .int (-2147483648), .int (-2147483648), .int (-2147483648), .null, .null, .null, .null] _ _
  refine am_iload hC dL_refuses_109 rfl ?_
  refine am_iconst (v := nI 1) hC dL_refuses_111 (by decide) ?_
  refine am_icmp_ne (tgt := 120) hC dL_refuses_112 (by decide) (fun c_112 => ?_) (fun c_112 => absurd c_112 (by decide))
  refine am_iload hC dL_refuses_120 rfl ?_
  refine am_istore hC dL_refuses_122 (by decide) ?_
  change am_W _ _ _ _ [.ref (3), .int (nI (z_np σ)), .int (nI (z_nq σ)), .int (nI (z_n σ)), .int (z_old σ), .int (2147483647), .int (nI 3), .int (-2147483648), .int (-2147483648), .int (-2147483648), .int (-2147483648), .int (-2147483648), .int (-2147483648), .null, .null, .null] _ _
  refine rf_mid hC (x0 := z_old σ) (mo := 2147483647) (no := (-2147483648)) (le := (-2147483648)) (dr := -2147483648) (pe := -2147483648) (ce := -2147483648) (si := -2147483648) (kk := 3) ⟨by decide, IX_neg (by decide), by decide, by decide, by decide, (fun _ => ⟨fun m hm => IX_neg (by decide), by decide, by decide⟩)⟩ (kc := 1320) (ks := 25080) ⟨by decide, by decide⟩ (fun h hS => ?_) h hS
  change am_W Z _ _ 18 [.ref (3), .int (nI (z_np σ)), .int (nI (z_nq σ)), .int (nI (z_n σ)), .int (z_old σ), .int (2147483647), .int (nI 4), .null, .null, .null, .null, .null, .null, .null, .null, .null] [] h
  refine am_more (kc' := 1760) (ks' := 33440) (by decide) (by decide) ?_
  refine am_iload hC dL_refuses_18 rfl ?_
  refine am_iconst (v := nI 4) hC dL_refuses_20 (by decide) ?_
  refine am_icmp_ge (tgt := 619) hC dL_refuses_21 (by decide) (fun c_21 => ?_) (fun c_21 => absurd (by decide) c_21)
  refine am_aload_n hC dL_refuses_619 rfl ?_
  refine am_callV hC (ci := 6) (N := 4) [] rfl (SZ_3 hS) rfl mf_X5_drawings tw_576 (d_drawings _ _ (am_tr hC) h hS) rfl ⟨rfl, Nat.le_of_ble_eq_true rfl⟩ ⟨by decide, by decide⟩ (by decide) (by decide) dL_refuses_620 rfl (fun _ _ q _ => False.elim q) (fun v h hp hlc => ?_)
  obtain ⟨rfl, hS⟩ := hp
  refine am_iload_n hC dL_refuses_623 rfl ?_
  refine am_icmp_ne (tgt := 640) hC dL_refuses_624 (by decide) (fun c_624 => absurd rfl c_624) (fun c_624 => ?_)
  refine am_aload_n hC dL_refuses_627 rfl ?_
  refine am_callV hC (ci := 6) (N := 4) [] rfl (SZ_3 hS) rfl mf_X5_old tw_580 (d_old _ _ (am_tr hC) h hS) rfl ⟨rfl, Nat.le_of_ble_eq_true rfl⟩ ⟨by decide, by decide⟩ (by decide) (by decide) dL_refuses_628 rfl (fun _ _ q _ => False.elim q) (fun v h hp hlc => ?_)
  obtain ⟨rfl, hS⟩ := hp
  refine am_iload hC dL_refuses_631 rfl ?_
  refine am_icmp_ne (tgt := 640) hC dL_refuses_633 (by decide) (fun c_633 => absurd rfl c_633) (fun c_633 => ?_)
  refine am_iconst (v := nI 1) hC dL_refuses_636 (by decide) ?_
  refine am_goto (tgt := 641) hC dL_refuses_637 (by decide) ?_
  refine am_iret hC hR rfl (by decide) (by decide) dL_refuses_641 ?_
  exact ⟨rfl, hS⟩
