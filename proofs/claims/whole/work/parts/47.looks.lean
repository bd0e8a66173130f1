/-! ===== the model looks ===== -/
def S22 (q : Nat) : Prop := q = 22 ∨ q = 23
def S4 (q : Nat) : Prop := 20 ≤ q ∧ q ≤ 23
theorem sd_OKs {t : Nat → Nat → Int32} {r : Nat → Nat → Bool} {n s : Nat} (ht : ∀ d, d < n → OKs (t d s)) (hA : AC n r) : ∀ (f d : Nat), d < n → OKs (sdF t r f d s)
  | 0, d, hd => ht d hd
  | f + 1, d, hd => by
    show OKs (if t d s = -1 then _ else _)
    by_cases z : t d s = -1
    · rw [if_pos z]
      refine OKs_fst 6 0 (fun k _ hk => ?_)
      by_cases w : r d k = true
      · rw [if_pos w]
        obtain ⟨rk, hr⟩ := hA
        exact sd_OKs ht ⟨rk, hr⟩ f k (hr d hd k (by omega) w).1
      · rw [if_neg w]; exact Or.inl rfl
    · rw [if_neg z]; exact ht d hd
def wx (ro : Nat → Nat) (ex : Nat → Bool) : Nat → Nat → Nat
  | 0, _ => 99
  | c + 1, r => if ro c = r ∧ ex c = true then 0 else wx ro ex c r
theorem wx_0 {ro : Nat → Nat} {ex : Nat → Bool} {r : Nat} : ∀ m, (∃ c, c < m ∧ ro c = r ∧ ex c = true) → wx ro ex m r = 0
  | 0, ⟨c, h, _⟩ => absurd h (Nat.not_lt_zero c)
  | m + 1, ⟨c, h, h2⟩ => by
    show (if ro m = r ∧ ex m = true then 0 else wx ro ex m r) = 0
    by_cases z : ro m = r ∧ ex m = true
    · rw [if_pos z]
    · rw [if_neg z]
      rcases Nat.lt_or_eq_of_le (Nat.le_of_lt_succ h) with w | w
      · exact wx_0 m ⟨c, w, h2⟩
      · subst w; exact absurd h2 z
theorem wx_99 {ro : Nat → Nat} {ex : Nat → Bool} {r : Nat} : ∀ m, ¬ (∃ c, c < m ∧ ro c = r ∧ ex c = true) → wx ro ex m r = 99
  | 0, _ => rfl
  | m + 1, h => by
    show (if ro m = r ∧ ex m = true then 0 else wx ro ex m r) = 99
    rw [if_neg (fun z => h ⟨m, by omega, z⟩)]
    exact wx_99 m (fun ⟨c, h1, h2⟩ => h ⟨c, by omega, h2⟩)
theorem wx_le {ro : Nat → Nat} {ex : Nat → Bool} {r : Nat} : ∀ m, wx ro ex m r ≤ 99
  | 0 => Nat.le_refl _
  | m + 1 => by
    show (if ro m = r ∧ ex m = true then 0 else wx ro ex m r) ≤ 99
    split
    · omega
    · exact wx_le m
set_option maxRecDepth 100000 in
set_option maxHeartbeats 4000000 in
theorem c_X6_looks (G : am_G) (l : Launch) (htr : l.stackTraces = false) (h : am_H) (n : Nat) (t : Nat → Nat → Int32) (x r : Nat → Nat → Bool) (hT : MT h n t x r) (d : Nat) (hd : d < n) : am_Met G l yX6_looks (.code yX6_looks cX6_looks 6 none) 3 0 0 [.ref (14), .int (nI d)] h (fun v h' => v = none ∧ am_eq S4 h h' ∧ (∀ d, d < n → (∀ s, s < 40 → hi_ h' 20 (40 * d + s) = sdF t r 6 d s) ∧ ∀ c, c < 32 → bt (hi_ h' 21 d) c = exF x r 6 d c) ∧ ∃ ro D, RoomOK (fun s => sdF t r 6 d s) ro ∧ DistOK 25 (exR (fun c => exF x r 6 d c) ro) (adjD (fun s => sdF t r 6 d s) ro) D ∧ (∀ c, c < 25 → hi_ h' 22 c = nI (ro c)) ∧ ∀ q, q < 25 → hi_ h' 23 q = nI (w99 (D q))) (am_no) := by
  have hM := hT.1
  have hn6 := hT.2.1
  have hA := hT.2.2.2.2.2.2
  refine am_intro rfl htr rfl (Nat.le_of_ble_eq_true rfl) (fun Z hC hR hI => ?_)
  change am_W Z 0 0 0 [.ref (14), .int (nI d), .null, .null, .null, .null] [] h
  refine am_aload_n hC dX6_looks_0 rfl ?_
  refine am_callV hC (ci := 7) (N := 20) [] rfl (kM_14 hM) rfl mf_X6_finds tw_758 (c_X6_finds _ _ (am_tr hC) h n t x r hT) rfl ⟨rfl, Nat.le_of_ble_eq_true rfl⟩ ⟨by decide, by decide⟩ (by decide) (by decide) dX6_looks_1 rfl (fun _ _ q _ => False.elim q) (fun v h1 hp l1 => ?_)
  obtain ⟨rfl, e1, hf1⟩ := hp
  refine am_iconst (v := nI 0) hC dX6_looks_4 (by decide) ?_
  refine am_istore_n hC dX6_looks_5 (by decide) ?_
  change am_W _ _ _ _ [.ref (14), .int (nI d), .int (nI 0), .null, .null, .null] _ _
  have hM1 := (MT_eq (S := SF2) (fun q z => by unfold SF2 at z; omega) e1 l1 hT).1
  obtain ⟨sd, hsdd⟩ : ∃ sd, sd = fun s => sdF t r 6 d s := ⟨_, rfl⟩
  obtain ⟨ex, hexd⟩ : ∃ ex, ex = fun c => exF x r 6 d c := ⟨_, rfl⟩
  have hf1 : ∀ d1, d1 < n → (∀ s, s < 40 → hi_ h1 20 (40 * d1 + s) = sdF t r 6 d1 s) ∧ ∀ c, c < 32 → bt (hi_ h1 21 d1) c = exF x r 6 d1 c := hf1
  have hok : ∀ s, s < 40 → OKs (sd s) := fun s hs => by rw [hsdd]; exact sd_OKs (fun d hd => (hT.2.2.2.1 d hd s hs).2) hA 6 d hd
  have hsd1 : ∀ s, s < 40 → hi_ h1 20 (40 * d + s) = sd s := fun s hs => by rw [hsdd]; exact (hf1 d hd).1 s hs
  have ho1 : ∀ c, c < 25 → bt (hi_ h1 21 d) c = ex c := fun c hc => by rw [hexd]; exact (hf1 d hd).2 c (by omega)
  obtain ⟨ro, hro⟩ := PR_ex sd 40 (Nat.le_refl _)
  obtain ⟨D0, hD0⟩ := Dist_ex 25 (fun c => ro c = c) (oad sd)
  obtain ⟨D, hD⟩ := Dist_ex 25 (exR ex ro) (adjD sd ro)
  have hrl : ∀ c, c < 25 → ro c < 25 := fun c hc => Room_lt hro hc
  have rfar : ∀ (m j : Nat) (g : am_H) (w : Nat → Nat), j + m = 25 → am_eq S22 h1 g → am_le h1 g → (∀ c, c < 25 → hi_ g 22 c = nI (ro c)) → (∀ q, q < 25 → hi_ g 23 q = nI (w q)) → WB D j w → am_W Z (0 + 0) (0 + 0) 212 [.ref (14), .int (nI d), .int (nI j), .null, .null, .null] [] g := by
    intro m
    induction m with
    | zero =>
      intro j g w hj eg lg hr hw hb
      obtain rfl : j = 25 := by omega
      refine am_iload_n hC dX6_looks_212 rfl ?_
      refine am_bipush (v := nI 25) hC dX6_looks_213 (by decide) ?_
      refine am_icmp_ge (tgt := 365) hC dX6_looks_215 (by decide) (fun c_215 => ?_) (fun c_215 => absurd (nI_le (by omega) (by omega)) c_215)
      refine am_vret hC hR (by decide) (by decide) dX6_looks_365 ?_
      have e9 : am_eq S4 h g := am_eq_tr (am_eq_mono (fun q z => by unfold SF2 at z; unfold S4; omega) e1) (am_eq_mono (fun q z => by unfold S22 at z; unfold S4; omega) eg)
      refine ⟨rfl, e9, fun d1 hd1 => ⟨fun s hs => ((eg 20 (fun z => by unfold S22 at z; omega)).2.2.1 _).trans ((hf1 d1 hd1).1 s hs), fun c hc => by rw [(eg 21 (fun z => by unfold S22 at z; omega)).2.2.1]; exact (hf1 d1 hd1).2 c hc⟩, ro, D, ?_, ?_, hr, fun q hq => (hw q hq).trans (congrArg nI (WB_25 hD hb q hq))⟩
      · rw [← hsdd]; exact hro
      · rw [← hsdd, ← hexd]; exact hD
    | succ m ih =>
      intro j g w hj eg lg hr hw hb
      have il : ∀ (m s : Nat) (g : am_H) (w : Nat → Nat), s + m = 40 → am_eq S22 h1 g → am_le h1 g → (∀ c, c < 25 → hi_ g 22 c = nI (ro c)) → (∀ q, q < 25 → hi_ g 23 q = nI (w q)) → WI sd ro D j s w → am_W Z (0 + 0) (0 + 0) 220 [.ref (14), .int (nI d), .int (nI j), .int (nI s), .null, .null] [] g := by
        intro m
        induction m with
        | zero =>
          intro s g w hs eg lg hr hw hi
          obtain rfl : s = 40 := by omega
          refine am_iload_n hC dX6_looks_220 rfl ?_
          refine am_bipush (v := nI 40) hC dX6_looks_221 (by decide) ?_
          refine am_icmp_ge (tgt := 359) hC dX6_looks_223 (by decide) (fun c_223 => ?_) (fun c_223 => absurd (nI_le (by omega) (by omega)) c_223)
          refine am_iinc (v := nI (j + 1)) hC dX6_looks_359 rfl (nI_1 (j)) (by decide) ?_
          change am_W _ _ _ _ [.ref (14), .int (nI d), .int (nI (j + 1)), .int (nI 40), .null, .null] _ _
          refine am_goto (tgt := 212) hC dX6_looks_362 (by decide) ?_
          exact am_fgt (ls' := [.ref (14), .int (nI d), .int (nI (j + 1)), .null, .null, .null]) ⟨Or.inl rfl, ⟨Or.inl rfl, ⟨Or.inl rfl, ⟨Or.inr rfl, ⟨Or.inr rfl, ⟨Or.inr rfl, trivial⟩⟩⟩⟩⟩⟩ (ih (j + 1) g w (by omega) eg lg hr hw (WI_end hD hi))
        | succ m ih2 =>
          intro s g w hs eg lg hr hw hi
          have hM := FM_eq (S := S22) (fun z => by unfold S22 at z; omega) eg lg hM1
          have hsd : ∀ s, s < 40 → hi_ g 20 (40 * d + s) = sd s := fun s hs => ((eg 20 (fun z => by unfold S22 at z; omega)).2.2.1 _).trans (hsd1 s hs)
          have ho : ∀ c, c < 25 → bt (hi_ g 21 d) c = ex c := fun c hc => by rw [(eg 21 (fun z => by unfold S22 at z; omega)).2.2.1]; exact ho1 c hc
          have hfs := fc_lt (by omega : s < 40)
          have hgs := sc_lt (by omega : s < 40)
          have hra := hrl _ hfs
          have hrb := hrl _ hgs
          have hwa := (hi.1.1 _ hra).1
          have hwb := (hi.1.1 _ hrb).1
          have hxa := Wst_le w (ro (fc_ s)) (ro (sc_ s)) (ro (fc_ s))
          have hxb := Wst_le w (ro (fc_ s)) (ro (sc_ s)) (ro (sc_ s))
          refine am_iload_n hC dX6_looks_220 rfl ?_
          refine am_bipush (v := nI 40) hC dX6_looks_221 (by decide) ?_
          refine am_icmp_ge (tgt := 359) hC dX6_looks_223 (by decide) (fun c_223 => absurd c_223 (nI_ge (by omega) (by omega))) (fun c_223 => ?_)
          refine am_aload_n hC dX6_looks_226 rfl ?_
          refine am_get (v := .ref (20)) hC (ci := 7) (N := 20) (j := 6) rfl (kM_14 hM) (by decide) tw_654 (Or.inl rfl) dX6_looks_227 (am_rfe (rM_6 hM)) ?_
          refine am_bipush (v := nI 40) hC dX6_looks_230 (by decide) ?_
          refine am_iload_n hC dX6_looks_232 rfl ?_
          refine am_imulE (z := nI (40 * d)) hC dX6_looks_233 (pk_mul (40) (d)) ?_
          refine am_iload_n hC dX6_looks_234 rfl ?_
          refine am_iaddE (z := nI (40 * d + s)) hC dX6_looks_235 (nI_add (40 * d) (s)) ?_
          refine am_ialdE (v := sd s) hC (j := 40 * d + s) (N := 240) (kM_20 hM) (nM_20 hM) rfl (by omega) (by decide) dX6_looks_236 (hsd s (by omega)) ?_
          refine am_iconst (v := nI 2) hC dX6_looks_237 (by decide) ?_
          refine am_icmp_ne (tgt := 353) hC dX6_looks_238 (by decide) (fun c_238 => ?_) (fun c_238 => ?_)
          · refine am_iinc (v := nI (s + 1)) hC dX6_looks_353 rfl (nI_1 (s)) (by decide) ?_
            change am_W _ _ _ _ [.ref (14), .int (nI d), .int (nI j), .int (nI (s + 1)), .null, .null] _ _
            refine am_goto (tgt := 220) hC dX6_looks_356 (by decide) ?_
            exact am_fgt (ls' := [.ref (14), .int (nI d), .int (nI j), .int (nI (s + 1)), .null, .null]) ⟨Or.inl rfl, ⟨Or.inl rfl, ⟨Or.inl rfl, ⟨Or.inl rfl, ⟨Or.inr rfl, ⟨Or.inr rfl, trivial⟩⟩⟩⟩⟩⟩ (ih2 (s + 1) g w (by omega) eg lg hr hw (WI_skip (fun z => c_238 z) hi))
          · refine am_aload_n hC dX6_looks_241 rfl ?_
            refine am_get (v := .ref (22)) hC (ci := 7) (N := 20) (j := 8) rfl (kM_14 hM) (by decide) tw_656 (Or.inl rfl) dX6_looks_242 (am_rfe (rM_8 hM)) ?_
            refine am_iload_n hC dX6_looks_245 rfl ?_
            refine am_callS hC [.int (nI s)] mf_X6_low tw_778 (c_X6_low _ _ (am_tr hC) _ s (by omega)) rfl ⟨rfl, Nat.le_of_ble_eq_true rfl⟩ ⟨by decide, by decide⟩ (by decide) (by decide) dX6_looks_246 rfl (fun _ _ q _ => False.elim q) (fun v h' hp hlc => ?_)
            obtain ⟨rfl, q9⟩ := hp
            have q9 := q9.symm
            subst q9
            refine am_ialdE (v := nI (ro (fc_ s))) hC (j := fc_ s) (N := 25) (kM_22 hM) (nM_22 hM) rfl (by omega) (by decide) dX6_looks_249 (hr _ hfs) ?_
            refine am_istore hC dX6_looks_250 (by decide) ?_
            change am_W _ _ _ _ [.ref (14), .int (nI d), .int (nI j), .int (nI s), .int (nI (ro (fc_ s))), .null] _ _
            refine am_aload_n hC dX6_looks_252 rfl ?_
            refine am_get (v := .ref (22)) hC (ci := 7) (N := 20) (j := 8) rfl (kM_14 hM) (by decide) tw_656 (Or.inl rfl) dX6_looks_253 (am_rfe (rM_8 hM)) ?_
            refine am_iload_n hC dX6_looks_256 rfl ?_
            refine am_callS hC [.int (nI s)] mf_X6_high tw_781 (c_X6_high _ _ (am_tr hC) _ s (by omega)) rfl ⟨rfl, Nat.le_of_ble_eq_true rfl⟩ ⟨by decide, by decide⟩ (by decide) (by decide) dX6_looks_257 rfl (fun _ _ q _ => False.elim q) (fun v h' hp hlc => ?_)
            obtain ⟨rfl, q9⟩ := hp
            have q9 := q9.symm
            subst q9
            refine am_ialdE (v := nI (ro (sc_ s))) hC (j := sc_ s) (N := 25) (kM_22 hM) (nM_22 hM) rfl (by omega) (by decide) dX6_looks_260 (hr _ hgs) ?_
            refine am_istore hC dX6_looks_261 (by decide) ?_
            change am_W _ _ _ _ [.ref (14), .int (nI d), .int (nI j), .int (nI s), .int (nI (ro (fc_ s))), .int (nI (ro (sc_ s)))] _ _
            refine am_aload_n hC dX6_looks_263 rfl ?_
            refine am_get (v := .ref (23)) hC (ci := 7) (N := 20) (j := 9) rfl (kM_14 hM) (by decide) tw_657 (Or.inl rfl) dX6_looks_264 (am_rfe (rM_9 hM)) ?_
            refine am_iload hC dX6_looks_267 rfl ?_
            refine am_aload_n hC dX6_looks_269 rfl ?_
            refine am_get (v := .ref (23)) hC (ci := 7) (N := 20) (j := 9) rfl (kM_14 hM) (by decide) tw_657 (Or.inl rfl) dX6_looks_270 (am_rfe (rM_9 hM)) ?_
            refine am_iload hC dX6_looks_273 rfl ?_
            refine am_ialdE (v := nI (w (ro (sc_ s)))) hC (j := ro (sc_ s)) (N := 25) (kM_23 hM) (nM_23 hM) rfl (by omega) (by decide) dX6_looks_275 (hw _ hrb) ?_
            refine am_iconst (v := nI 1) hC dX6_looks_276 (by decide) ?_
            refine am_iaddE (z := nI (w (ro (sc_ s)) + 1)) hC dX6_looks_277 (nI_add (w (ro (sc_ s))) (1)) ?_
            refine am_aload_n hC dX6_looks_278 rfl ?_
            refine am_get (v := .ref (23)) hC (ci := 7) (N := 20) (j := 9) rfl (kM_14 hM) (by decide) tw_657 (Or.inl rfl) dX6_looks_279 (am_rfe (rM_9 hM)) ?_
            refine am_iload hC dX6_looks_282 rfl ?_
            refine am_ialdE (v := nI (w (ro (fc_ s)))) hC (j := ro (fc_ s)) (N := 25) (kM_23 hM) (nM_23 hM) rfl (by omega) (by decide) dX6_looks_284 (hw _ hra) ?_
            refine am_icmp_ge (tgt := 300) hC dX6_looks_285 (by decide) (fun c_285 => ?_) (fun c_285 => ?_)
            · replace c_285 : (w (ro (fc_ s))) ≤ (w (ro (sc_ s)) + 1) := (nI_leI (a := (w (ro (fc_ s)))) (b := (w (ro (sc_ s)) + 1)) (by omega) (by omega)).mp c_285
              refine am_aload_n hC dX6_looks_300 rfl ?_
              refine am_get (v := .ref (23)) hC (ci := 7) (N := 20) (j := 9) rfl (kM_14 hM) (by decide) tw_657 (Or.inl rfl) dX6_looks_301 (am_rfe (rM_9 hM)) ?_
              refine am_iload hC dX6_looks_304 rfl ?_
              refine am_ialdE (v := nI (w (ro (fc_ s)))) hC (j := ro (fc_ s)) (N := 25) (kM_23 hM) (nM_23 hM) rfl (by omega) (by decide) dX6_looks_306 (hw _ hra) ?_
              refine am_iast hC (j := ro (fc_ s)) (N := 25) (kM_23 hM) (nM_23 hM) rfl (by omega) (by decide) dX6_looks_307 ?_
              have hw2 : ∀ q, q < 25 → hi_ (am_sI g 23 (ro (fc_ s)) (nI (w (ro (fc_ s))))) 23 q = nI (Wst w (ro (fc_ s)) (ro (sc_ s)) q) := fun q hq => by
                rw [hi_sI]
                rw [show Wst w (ro (fc_ s)) (ro (sc_ s)) q = if q = ro (fc_ s) then (if w (ro (sc_ s)) + 1 < w (ro (fc_ s)) then w (ro (sc_ s)) + 1 else w (ro (fc_ s))) else w q from rfl]
                by_cases z : q = ro (fc_ s)
                · rw [if_pos ⟨rfl, z⟩, if_pos z]
                  first
                    | rw [if_neg (by omega)]
                    | rw [if_pos (by omega)]
                · rw [if_neg (fun y => z y.2), if_neg z]
                  exact hw q hq
              refine am_aload_n hC dX6_looks_308 rfl ?_
              refine am_get (v := .ref (23)) hC (ci := 7) (N := 20) (j := 9) rfl (kM_14 hM) (by decide) tw_657 (Or.inl rfl) dX6_looks_309 (am_rfe (rM_9 hM)) ?_
              refine am_iload hC dX6_looks_312 rfl ?_
              refine am_aload_n hC dX6_looks_314 rfl ?_
              refine am_get (v := .ref (23)) hC (ci := 7) (N := 20) (j := 9) rfl (kM_14 hM) (by decide) tw_657 (Or.inl rfl) dX6_looks_315 (am_rfe (rM_9 hM)) ?_
              refine am_iload hC dX6_looks_318 rfl ?_
              refine am_ialdE (v := nI (Wst w (ro (fc_ s)) (ro (sc_ s)) (ro (fc_ s)))) hC (j := ro (fc_ s)) (N := 25) (kM_23 hM) (nM_23 hM) rfl (by omega) (by decide) dX6_looks_320 (hw2 _ hra) ?_
              refine am_iconst (v := nI 1) hC dX6_looks_321 (by decide) ?_
              refine am_iaddE (z := nI (Wst w (ro (fc_ s)) (ro (sc_ s)) (ro (fc_ s)) + 1)) hC dX6_looks_322 (nI_add (Wst w (ro (fc_ s)) (ro (sc_ s)) (ro (fc_ s))) (1)) ?_
              refine am_aload_n hC dX6_looks_323 rfl ?_
              refine am_get (v := .ref (23)) hC (ci := 7) (N := 20) (j := 9) rfl (kM_14 hM) (by decide) tw_657 (Or.inl rfl) dX6_looks_324 (am_rfe (rM_9 hM)) ?_
              refine am_iload hC dX6_looks_327 rfl ?_
              refine am_ialdE (v := nI (Wst w (ro (fc_ s)) (ro (sc_ s)) (ro (sc_ s)))) hC (j := ro (sc_ s)) (N := 25) (kM_23 hM) (nM_23 hM) rfl (by omega) (by decide) dX6_looks_329 (hw2 _ hrb) ?_
              refine am_icmp_ge (tgt := 345) hC dX6_looks_330 (by decide) (fun c_330 => ?_) (fun c_330 => ?_)
              · replace c_330 : (Wst w (ro (fc_ s)) (ro (sc_ s)) (ro (sc_ s))) ≤ (Wst w (ro (fc_ s)) (ro (sc_ s)) (ro (fc_ s)) + 1) := (nI_leI (a := (Wst w (ro (fc_ s)) (ro (sc_ s)) (ro (sc_ s)))) (b := (Wst w (ro (fc_ s)) (ro (sc_ s)) (ro (fc_ s)) + 1)) (by omega) (by omega)).mp c_330
                refine am_aload_n hC dX6_looks_345 rfl ?_
                refine am_get (v := .ref (23)) hC (ci := 7) (N := 20) (j := 9) rfl (kM_14 hM) (by decide) tw_657 (Or.inl rfl) dX6_looks_346 (am_rfe (rM_9 hM)) ?_
                refine am_iload hC dX6_looks_349 rfl ?_
                refine am_ialdE (v := nI (Wst w (ro (fc_ s)) (ro (sc_ s)) (ro (sc_ s)))) hC (j := ro (sc_ s)) (N := 25) (kM_23 hM) (nM_23 hM) rfl (by omega) (by decide) dX6_looks_351 (hw2 _ hrb) ?_
                refine am_iast hC (j := ro (sc_ s)) (N := 25) (kM_23 hM) (nM_23 hM) rfl (by omega) (by decide) dX6_looks_352 ?_
                refine am_iinc (v := nI (s + 1)) hC dX6_looks_353 rfl (nI_1 (s)) (by decide) ?_
                change am_W _ _ _ _ [.ref (14), .int (nI d), .int (nI j), .int (nI (s + 1)), .int (nI (ro (fc_ s))), .int (nI (ro (sc_ s)))] _ _
                refine am_goto (tgt := 220) hC dX6_looks_356 (by decide) ?_
                have hw3 : ∀ q, q < 25 → hi_ (am_sI (am_sI g 23 (ro (fc_ s)) (nI (w (ro (fc_ s))))) 23 (ro (sc_ s)) (nI (Wst w (ro (fc_ s)) (ro (sc_ s)) (ro (sc_ s))))) 23 q = nI (Wst (Wst w (ro (fc_ s)) (ro (sc_ s))) (ro (sc_ s)) (ro (fc_ s)) q) := fun q hq => by
                  rw [hi_sI]
                  rw [show Wst (Wst w (ro (fc_ s)) (ro (sc_ s))) (ro (sc_ s)) (ro (fc_ s)) q = if q = ro (sc_ s) then (if Wst w (ro (fc_ s)) (ro (sc_ s)) (ro (fc_ s)) + 1 < Wst w (ro (fc_ s)) (ro (sc_ s)) (ro (sc_ s)) then Wst w (ro (fc_ s)) (ro (sc_ s)) (ro (fc_ s)) + 1 else Wst w (ro (fc_ s)) (ro (sc_ s)) (ro (sc_ s))) else Wst w (ro (fc_ s)) (ro (sc_ s)) q from rfl]
                  by_cases z : q = ro (sc_ s)
                  · rw [if_pos ⟨rfl, z⟩, if_pos z]
                    first
                      | rw [if_neg (by omega)]
                      | rw [if_pos (by omega)]
                  · rw [if_neg (fun y => z y.2), if_neg z]
                    exact hw2 q hq
                exact am_fgt (ls' := [.ref (14), .int (nI d), .int (nI j), .int (nI (s + 1)), .null, .null]) ⟨Or.inl rfl, ⟨Or.inl rfl, ⟨Or.inl rfl, ⟨Or.inl rfl, ⟨Or.inr rfl, ⟨Or.inr rfl, trivial⟩⟩⟩⟩⟩⟩ (ih2 (s + 1) _ (Wst (Wst w (ro (fc_ s)) (ro (sc_ s))) (ro (sc_ s)) (ro (fc_ s))) (by omega) (am_eq_tr eg (am_eq_tr (am_eq_sI (Or.inr rfl)) (am_eq_sI (Or.inr rfl)))) (am_le_tr lg (am_le_tr (am_le_sI _ _ _ _) (am_le_sI _ _ _ _))) (fun c hc => (hr c hc)) hw3 (WI_step hD hro (by omega) c_238 hi))
              · replace c_330 : ¬ (Wst w (ro (fc_ s)) (ro (sc_ s)) (ro (sc_ s))) ≤ (Wst w (ro (fc_ s)) (ro (sc_ s)) (ro (fc_ s)) + 1) := fun q9 => c_330 ((nI_leI (a := (Wst w (ro (fc_ s)) (ro (sc_ s)) (ro (sc_ s)))) (b := (Wst w (ro (fc_ s)) (ro (sc_ s)) (ro (fc_ s)) + 1)) (by omega) (by omega)).mpr q9)
                refine am_aload_n hC dX6_looks_333 rfl ?_
                refine am_get (v := .ref (23)) hC (ci := 7) (N := 20) (j := 9) rfl (kM_14 hM) (by decide) tw_657 (Or.inl rfl) dX6_looks_334 (am_rfe (rM_9 hM)) ?_
                refine am_iload hC dX6_looks_337 rfl ?_
                refine am_ialdE (v := nI (Wst w (ro (fc_ s)) (ro (sc_ s)) (ro (fc_ s)))) hC (j := ro (fc_ s)) (N := 25) (kM_23 hM) (nM_23 hM) rfl (by omega) (by decide) dX6_looks_339 (hw2 _ hra) ?_
                refine am_iconst (v := nI 1) hC dX6_looks_340 (by decide) ?_
                refine am_iaddE (z := nI (Wst w (ro (fc_ s)) (ro (sc_ s)) (ro (fc_ s)) + 1)) hC dX6_looks_341 (nI_add (Wst w (ro (fc_ s)) (ro (sc_ s)) (ro (fc_ s))) (1)) ?_
                refine am_goto (tgt := 352) hC dX6_looks_342 (by decide) ?_
                refine am_iast hC (j := ro (sc_ s)) (N := 25) (kM_23 hM) (nM_23 hM) rfl (by omega) (by decide) dX6_looks_352 ?_
                refine am_iinc (v := nI (s + 1)) hC dX6_looks_353 rfl (nI_1 (s)) (by decide) ?_
                change am_W _ _ _ _ [.ref (14), .int (nI d), .int (nI j), .int (nI (s + 1)), .int (nI (ro (fc_ s))), .int (nI (ro (sc_ s)))] _ _
                refine am_goto (tgt := 220) hC dX6_looks_356 (by decide) ?_
                have hw3 : ∀ q, q < 25 → hi_ (am_sI (am_sI g 23 (ro (fc_ s)) (nI (w (ro (fc_ s))))) 23 (ro (sc_ s)) (nI (Wst w (ro (fc_ s)) (ro (sc_ s)) (ro (fc_ s)) + 1))) 23 q = nI (Wst (Wst w (ro (fc_ s)) (ro (sc_ s))) (ro (sc_ s)) (ro (fc_ s)) q) := fun q hq => by
                  rw [hi_sI]
                  rw [show Wst (Wst w (ro (fc_ s)) (ro (sc_ s))) (ro (sc_ s)) (ro (fc_ s)) q = if q = ro (sc_ s) then (if Wst w (ro (fc_ s)) (ro (sc_ s)) (ro (fc_ s)) + 1 < Wst w (ro (fc_ s)) (ro (sc_ s)) (ro (sc_ s)) then Wst w (ro (fc_ s)) (ro (sc_ s)) (ro (fc_ s)) + 1 else Wst w (ro (fc_ s)) (ro (sc_ s)) (ro (sc_ s))) else Wst w (ro (fc_ s)) (ro (sc_ s)) q from rfl]
                  by_cases z : q = ro (sc_ s)
                  · rw [if_pos ⟨rfl, z⟩, if_pos z]
                    first
                      | rw [if_neg (by omega)]
                      | rw [if_pos (by omega)]
                  · rw [if_neg (fun y => z y.2), if_neg z]
                    exact hw2 q hq
                exact am_fgt (ls' := [.ref (14), .int (nI d), .int (nI j), .int (nI (s + 1)), .null, .null]) ⟨Or.inl rfl, ⟨Or.inl rfl, ⟨Or.inl rfl, ⟨Or.inl rfl, ⟨Or.inr rfl, ⟨Or.inr rfl, trivial⟩⟩⟩⟩⟩⟩ (ih2 (s + 1) _ (Wst (Wst w (ro (fc_ s)) (ro (sc_ s))) (ro (sc_ s)) (ro (fc_ s))) (by omega) (am_eq_tr eg (am_eq_tr (am_eq_sI (Or.inr rfl)) (am_eq_sI (Or.inr rfl)))) (am_le_tr lg (am_le_tr (am_le_sI _ _ _ _) (am_le_sI _ _ _ _))) (fun c hc => (hr c hc)) hw3 (WI_step hD hro (by omega) c_238 hi))
            · replace c_285 : ¬ (w (ro (fc_ s))) ≤ (w (ro (sc_ s)) + 1) := fun q9 => c_285 ((nI_leI (a := (w (ro (fc_ s)))) (b := (w (ro (sc_ s)) + 1)) (by omega) (by omega)).mpr q9)
              refine am_aload_n hC dX6_looks_288 rfl ?_
              refine am_get (v := .ref (23)) hC (ci := 7) (N := 20) (j := 9) rfl (kM_14 hM) (by decide) tw_657 (Or.inl rfl) dX6_looks_289 (am_rfe (rM_9 hM)) ?_
              refine am_iload hC dX6_looks_292 rfl ?_
              refine am_ialdE (v := nI (w (ro (sc_ s)))) hC (j := ro (sc_ s)) (N := 25) (kM_23 hM) (nM_23 hM) rfl (by omega) (by decide) dX6_looks_294 (hw _ hrb) ?_
              refine am_iconst (v := nI 1) hC dX6_looks_295 (by decide) ?_
              refine am_iaddE (z := nI (w (ro (sc_ s)) + 1)) hC dX6_looks_296 (nI_add (w (ro (sc_ s))) (1)) ?_
              refine am_goto (tgt := 307) hC dX6_looks_297 (by decide) ?_
              refine am_iast hC (j := ro (fc_ s)) (N := 25) (kM_23 hM) (nM_23 hM) rfl (by omega) (by decide) dX6_looks_307 ?_
              have hw2 : ∀ q, q < 25 → hi_ (am_sI g 23 (ro (fc_ s)) (nI (w (ro (sc_ s)) + 1))) 23 q = nI (Wst w (ro (fc_ s)) (ro (sc_ s)) q) := fun q hq => by
                rw [hi_sI]
                rw [show Wst w (ro (fc_ s)) (ro (sc_ s)) q = if q = ro (fc_ s) then (if w (ro (sc_ s)) + 1 < w (ro (fc_ s)) then w (ro (sc_ s)) + 1 else w (ro (fc_ s))) else w q from rfl]
                by_cases z : q = ro (fc_ s)
                · rw [if_pos ⟨rfl, z⟩, if_pos z]
                  first
                    | rw [if_neg (by omega)]
                    | rw [if_pos (by omega)]
                · rw [if_neg (fun y => z y.2), if_neg z]
                  exact hw q hq
              refine am_aload_n hC dX6_looks_308 rfl ?_
              refine am_get (v := .ref (23)) hC (ci := 7) (N := 20) (j := 9) rfl (kM_14 hM) (by decide) tw_657 (Or.inl rfl) dX6_looks_309 (am_rfe (rM_9 hM)) ?_
              refine am_iload hC dX6_looks_312 rfl ?_
              refine am_aload_n hC dX6_looks_314 rfl ?_
              refine am_get (v := .ref (23)) hC (ci := 7) (N := 20) (j := 9) rfl (kM_14 hM) (by decide) tw_657 (Or.inl rfl) dX6_looks_315 (am_rfe (rM_9 hM)) ?_
              refine am_iload hC dX6_looks_318 rfl ?_
              refine am_ialdE (v := nI (Wst w (ro (fc_ s)) (ro (sc_ s)) (ro (fc_ s)))) hC (j := ro (fc_ s)) (N := 25) (kM_23 hM) (nM_23 hM) rfl (by omega) (by decide) dX6_looks_320 (hw2 _ hra) ?_
              refine am_iconst (v := nI 1) hC dX6_looks_321 (by decide) ?_
              refine am_iaddE (z := nI (Wst w (ro (fc_ s)) (ro (sc_ s)) (ro (fc_ s)) + 1)) hC dX6_looks_322 (nI_add (Wst w (ro (fc_ s)) (ro (sc_ s)) (ro (fc_ s))) (1)) ?_
              refine am_aload_n hC dX6_looks_323 rfl ?_
              refine am_get (v := .ref (23)) hC (ci := 7) (N := 20) (j := 9) rfl (kM_14 hM) (by decide) tw_657 (Or.inl rfl) dX6_looks_324 (am_rfe (rM_9 hM)) ?_
              refine am_iload hC dX6_looks_327 rfl ?_
              refine am_ialdE (v := nI (Wst w (ro (fc_ s)) (ro (sc_ s)) (ro (sc_ s)))) hC (j := ro (sc_ s)) (N := 25) (kM_23 hM) (nM_23 hM) rfl (by omega) (by decide) dX6_looks_329 (hw2 _ hrb) ?_
              refine am_icmp_ge (tgt := 345) hC dX6_looks_330 (by decide) (fun c_330 => ?_) (fun c_330 => ?_)
              · replace c_330 : (Wst w (ro (fc_ s)) (ro (sc_ s)) (ro (sc_ s))) ≤ (Wst w (ro (fc_ s)) (ro (sc_ s)) (ro (fc_ s)) + 1) := (nI_leI (a := (Wst w (ro (fc_ s)) (ro (sc_ s)) (ro (sc_ s)))) (b := (Wst w (ro (fc_ s)) (ro (sc_ s)) (ro (fc_ s)) + 1)) (by omega) (by omega)).mp c_330
                refine am_aload_n hC dX6_looks_345 rfl ?_
                refine am_get (v := .ref (23)) hC (ci := 7) (N := 20) (j := 9) rfl (kM_14 hM) (by decide) tw_657 (Or.inl rfl) dX6_looks_346 (am_rfe (rM_9 hM)) ?_
                refine am_iload hC dX6_looks_349 rfl ?_
                refine am_ialdE (v := nI (Wst w (ro (fc_ s)) (ro (sc_ s)) (ro (sc_ s)))) hC (j := ro (sc_ s)) (N := 25) (kM_23 hM) (nM_23 hM) rfl (by omega) (by decide) dX6_looks_351 (hw2 _ hrb) ?_
                refine am_iast hC (j := ro (sc_ s)) (N := 25) (kM_23 hM) (nM_23 hM) rfl (by omega) (by decide) dX6_looks_352 ?_
                refine am_iinc (v := nI (s + 1)) hC dX6_looks_353 rfl (nI_1 (s)) (by decide) ?_
                change am_W _ _ _ _ [.ref (14), .int (nI d), .int (nI j), .int (nI (s + 1)), .int (nI (ro (fc_ s))), .int (nI (ro (sc_ s)))] _ _
                refine am_goto (tgt := 220) hC dX6_looks_356 (by decide) ?_
                have hw3 : ∀ q, q < 25 → hi_ (am_sI (am_sI g 23 (ro (fc_ s)) (nI (w (ro (sc_ s)) + 1))) 23 (ro (sc_ s)) (nI (Wst w (ro (fc_ s)) (ro (sc_ s)) (ro (sc_ s))))) 23 q = nI (Wst (Wst w (ro (fc_ s)) (ro (sc_ s))) (ro (sc_ s)) (ro (fc_ s)) q) := fun q hq => by
                  rw [hi_sI]
                  rw [show Wst (Wst w (ro (fc_ s)) (ro (sc_ s))) (ro (sc_ s)) (ro (fc_ s)) q = if q = ro (sc_ s) then (if Wst w (ro (fc_ s)) (ro (sc_ s)) (ro (fc_ s)) + 1 < Wst w (ro (fc_ s)) (ro (sc_ s)) (ro (sc_ s)) then Wst w (ro (fc_ s)) (ro (sc_ s)) (ro (fc_ s)) + 1 else Wst w (ro (fc_ s)) (ro (sc_ s)) (ro (sc_ s))) else Wst w (ro (fc_ s)) (ro (sc_ s)) q from rfl]
                  by_cases z : q = ro (sc_ s)
                  · rw [if_pos ⟨rfl, z⟩, if_pos z]
                    first
                      | rw [if_neg (by omega)]
                      | rw [if_pos (by omega)]
                  · rw [if_neg (fun y => z y.2), if_neg z]
                    exact hw2 q hq
                exact am_fgt (ls' := [.ref (14), .int (nI d), .int (nI j), .int (nI (s + 1)), .null, .null]) ⟨Or.inl rfl, ⟨Or.inl rfl, ⟨Or.inl rfl, ⟨Or.inl rfl, ⟨Or.inr rfl, ⟨Or.inr rfl, trivial⟩⟩⟩⟩⟩⟩ (ih2 (s + 1) _ (Wst (Wst w (ro (fc_ s)) (ro (sc_ s))) (ro (sc_ s)) (ro (fc_ s))) (by omega) (am_eq_tr eg (am_eq_tr (am_eq_sI (Or.inr rfl)) (am_eq_sI (Or.inr rfl)))) (am_le_tr lg (am_le_tr (am_le_sI _ _ _ _) (am_le_sI _ _ _ _))) (fun c hc => (hr c hc)) hw3 (WI_step hD hro (by omega) c_238 hi))
              · replace c_330 : ¬ (Wst w (ro (fc_ s)) (ro (sc_ s)) (ro (sc_ s))) ≤ (Wst w (ro (fc_ s)) (ro (sc_ s)) (ro (fc_ s)) + 1) := fun q9 => c_330 ((nI_leI (a := (Wst w (ro (fc_ s)) (ro (sc_ s)) (ro (sc_ s)))) (b := (Wst w (ro (fc_ s)) (ro (sc_ s)) (ro (fc_ s)) + 1)) (by omega) (by omega)).mpr q9)
                refine am_aload_n hC dX6_looks_333 rfl ?_
                refine am_get (v := .ref (23)) hC (ci := 7) (N := 20) (j := 9) rfl (kM_14 hM) (by decide) tw_657 (Or.inl rfl) dX6_looks_334 (am_rfe (rM_9 hM)) ?_
                refine am_iload hC dX6_looks_337 rfl ?_
                refine am_ialdE (v := nI (Wst w (ro (fc_ s)) (ro (sc_ s)) (ro (fc_ s)))) hC (j := ro (fc_ s)) (N := 25) (kM_23 hM) (nM_23 hM) rfl (by omega) (by decide) dX6_looks_339 (hw2 _ hra) ?_
                refine am_iconst (v := nI 1) hC dX6_looks_340 (by decide) ?_
                refine am_iaddE (z := nI (Wst w (ro (fc_ s)) (ro (sc_ s)) (ro (fc_ s)) + 1)) hC dX6_looks_341 (nI_add (Wst w (ro (fc_ s)) (ro (sc_ s)) (ro (fc_ s))) (1)) ?_
                refine am_goto (tgt := 352) hC dX6_looks_342 (by decide) ?_
                refine am_iast hC (j := ro (sc_ s)) (N := 25) (kM_23 hM) (nM_23 hM) rfl (by omega) (by decide) dX6_looks_352 ?_
                refine am_iinc (v := nI (s + 1)) hC dX6_looks_353 rfl (nI_1 (s)) (by decide) ?_
                change am_W _ _ _ _ [.ref (14), .int (nI d), .int (nI j), .int (nI (s + 1)), .int (nI (ro (fc_ s))), .int (nI (ro (sc_ s)))] _ _
                refine am_goto (tgt := 220) hC dX6_looks_356 (by decide) ?_
                have hw3 : ∀ q, q < 25 → hi_ (am_sI (am_sI g 23 (ro (fc_ s)) (nI (w (ro (sc_ s)) + 1))) 23 (ro (sc_ s)) (nI (Wst w (ro (fc_ s)) (ro (sc_ s)) (ro (fc_ s)) + 1))) 23 q = nI (Wst (Wst w (ro (fc_ s)) (ro (sc_ s))) (ro (sc_ s)) (ro (fc_ s)) q) := fun q hq => by
                  rw [hi_sI]
                  rw [show Wst (Wst w (ro (fc_ s)) (ro (sc_ s))) (ro (sc_ s)) (ro (fc_ s)) q = if q = ro (sc_ s) then (if Wst w (ro (fc_ s)) (ro (sc_ s)) (ro (fc_ s)) + 1 < Wst w (ro (fc_ s)) (ro (sc_ s)) (ro (sc_ s)) then Wst w (ro (fc_ s)) (ro (sc_ s)) (ro (fc_ s)) + 1 else Wst w (ro (fc_ s)) (ro (sc_ s)) (ro (sc_ s))) else Wst w (ro (fc_ s)) (ro (sc_ s)) q from rfl]
                  by_cases z : q = ro (sc_ s)
                  · rw [if_pos ⟨rfl, z⟩, if_pos z]
                    first
                      | rw [if_neg (by omega)]
                      | rw [if_pos (by omega)]
                  · rw [if_neg (fun y => z y.2), if_neg z]
                    exact hw2 q hq
                exact am_fgt (ls' := [.ref (14), .int (nI d), .int (nI j), .int (nI (s + 1)), .null, .null]) ⟨Or.inl rfl, ⟨Or.inl rfl, ⟨Or.inl rfl, ⟨Or.inl rfl, ⟨Or.inr rfl, ⟨Or.inr rfl, trivial⟩⟩⟩⟩⟩⟩ (ih2 (s + 1) _ (Wst (Wst w (ro (fc_ s)) (ro (sc_ s))) (ro (sc_ s)) (ro (fc_ s))) (by omega) (am_eq_tr eg (am_eq_tr (am_eq_sI (Or.inr rfl)) (am_eq_sI (Or.inr rfl)))) (am_le_tr lg (am_le_tr (am_le_sI _ _ _ _) (am_le_sI _ _ _ _))) (fun c hc => (hr c hc)) hw3 (WI_step hD hro (by omega) c_238 hi))
      refine am_iload_n hC dX6_looks_212 rfl ?_
      refine am_bipush (v := nI 25) hC dX6_looks_213 (by decide) ?_
      refine am_icmp_ge (tgt := 365) hC dX6_looks_215 (by decide) (fun c_215 => absurd c_215 (nI_ge (by omega) (by omega))) (fun c_215 => ?_)
      refine am_iconst (v := nI 0) hC dX6_looks_218 (by decide) ?_
      refine am_istore_n hC dX6_looks_219 (by decide) ?_
      change am_W _ _ _ _ [.ref (14), .int (nI d), .int (nI j), .int (nI 0), .null, .null] _ _
      exact am_fgt (ls' := [.ref (14), .int (nI d), .int (nI j), .int (nI 0), .null, .null]) ⟨Or.inl rfl, ⟨Or.inl rfl, ⟨Or.inl rfl, ⟨Or.inl rfl, ⟨Or.inr rfl, ⟨Or.inr rfl, trivial⟩⟩⟩⟩⟩⟩ (il 40 0 g w rfl eg lg hr hw ⟨hb, fun s1 z => absurd z (Nat.not_lt_zero s1)⟩)
  have sfar : ∀ (m c : Nat) (g : am_H), c + m = 25 → am_eq S22 h1 g → am_le h1 g → (∀ c, c < 25 → hi_ g 22 c = nI (ro c)) → (∀ q, q < 25 → hi_ g 23 q = nI (wx ro ex c q)) → am_W Z (0 + 0) (0 + 0) 158 [.ref (14), .int (nI d), .int (nI c), .null, .null, .null] [] g := by
    intro m
    induction m with
    | zero =>
      intro c g hj eg lg hr hw
      obtain rfl : c = 25 := by omega
      refine am_iload_n hC dX6_looks_158 rfl ?_
      refine am_bipush (v := nI 25) hC dX6_looks_159 (by decide) ?_
      refine am_icmp_ge (tgt := 210) hC dX6_looks_161 (by decide) (fun c_161 => ?_) (fun c_161 => absurd (nI_le (by omega) (by omega)) c_161)
      refine am_iconst (v := nI 0) hC dX6_looks_210 (by decide) ?_
      refine am_istore_n hC dX6_looks_211 (by decide) ?_
      change am_W _ _ _ _ [.ref (14), .int (nI d), .int (nI 0), .null, .null, .null] _ _
      exact am_fgt (ls' := [.ref (14), .int (nI d), .int (nI 0), .null, .null, .null]) ⟨Or.inl rfl, ⟨Or.inl rfl, ⟨Or.inl rfl, ⟨Or.inr rfl, ⟨Or.inr rfl, ⟨Or.inr rfl, trivial⟩⟩⟩⟩⟩⟩ (rfar 25 0 g (wx ro ex 25) rfl eg lg hr hw (WB_0 hD (fun q _ z => wx_0 25 z) (fun q _ z => wx_99 25 z)))
    | succ m ih =>
      intro c g hj eg lg hr hw
      have hM := FM_eq (S := S22) (fun z => by unfold S22 at z; omega) eg lg hM1
      have hsd : ∀ s, s < 40 → hi_ g 20 (40 * d + s) = sd s := fun s hs => ((eg 20 (fun z => by unfold S22 at z; omega)).2.2.1 _).trans (hsd1 s hs)
      have ho : ∀ c, c < 25 → bt (hi_ g 21 d) c = ex c := fun c hc => by rw [(eg 21 (fun z => by unfold S22 at z; omega)).2.2.1]; exact ho1 c hc
      have hrc := hrl c (by omega)
      have hle9 := wx_le (ro := ro) (ex := ex) (r := ro c) c
      refine am_iload_n hC dX6_looks_158 rfl ?_
      refine am_bipush (v := nI 25) hC dX6_looks_159 (by decide) ?_
      refine am_icmp_ge (tgt := 210) hC dX6_looks_161 (by decide) (fun c_161 => absurd c_161 (nI_ge (by omega) (by omega))) (fun c_161 => ?_)
      refine am_aload_n hC dX6_looks_164 rfl ?_
      refine am_get (v := .ref (23)) hC (ci := 7) (N := 20) (j := 9) rfl (kM_14 hM) (by decide) tw_657 (Or.inl rfl) dX6_looks_165 (am_rfe (rM_9 hM)) ?_
      refine am_aload_n hC dX6_looks_168 rfl ?_
      refine am_get (v := .ref (22)) hC (ci := 7) (N := 20) (j := 8) rfl (kM_14 hM) (by decide) tw_656 (Or.inl rfl) dX6_looks_169 (am_rfe (rM_8 hM)) ?_
      refine am_iload_n hC dX6_looks_172 rfl ?_
      refine am_ialdE (v := nI (ro c)) hC (j := c) (N := 25) (kM_22 hM) (nM_22 hM) rfl (by omega) (by decide) dX6_looks_173 (hr c (by omega)) ?_
      refine am_aload_n hC dX6_looks_174 rfl ?_
      refine am_get (v := .ref (21)) hC (ci := 7) (N := 20) (j := 7) rfl (kM_14 hM) (by decide) tw_655 (Or.inl rfl) dX6_looks_175 (am_rfe (rM_7 hM)) ?_
      refine am_iload_n hC dX6_looks_178 rfl ?_
      refine am_ialdE (v := hi_ g 21 d) hC (j := d) (N := 6) (kM_21 hM) (nM_21 hM) rfl (by omega) (by decide) dX6_looks_179 rfl ?_
      refine am_iload_n hC dX6_looks_180 rfl ?_
      refine am_ishrE (z := (hi_ g 21 d) >>> ((nI c) &&& 31)) hC dX6_looks_181 rfl ?_
      refine am_iconst (v := nI 1) hC dX6_looks_182 (by decide) ?_
      refine am_iandE (z := ((hi_ g 21 d) >>> ((nI c) &&& 31)) &&& (nI 1)) hC dX6_looks_183 rfl ?_
      refine am_iconst (v := nI 1) hC dX6_looks_184 (by decide) ?_
      refine am_icmp_ne (tgt := 192) hC dX6_looks_185 (by decide) (fun c_185 => ?_) (fun c_185 => ?_)
      · have hex0 : ex c = false := (ho c (by omega)).symm.trans (tb_n (by omega) c_185)
        refine am_aload_n hC dX6_looks_192 rfl ?_
        refine am_get (v := .ref (23)) hC (ci := 7) (N := 20) (j := 9) rfl (kM_14 hM) (by decide) tw_657 (Or.inl rfl) dX6_looks_193 (am_rfe (rM_9 hM)) ?_
        refine am_aload_n hC dX6_looks_196 rfl ?_
        refine am_get (v := .ref (22)) hC (ci := 7) (N := 20) (j := 8) rfl (kM_14 hM) (by decide) tw_656 (Or.inl rfl) dX6_looks_197 (am_rfe (rM_8 hM)) ?_
        refine am_iload_n hC dX6_looks_200 rfl ?_
        refine am_ialdE (v := nI (ro c)) hC (j := c) (N := 25) (kM_22 hM) (nM_22 hM) rfl (by omega) (by decide) dX6_looks_201 (hr c (by omega)) ?_
        refine am_ialdE (v := nI (wx ro ex c (ro c))) hC (j := ro c) (N := 25) (kM_23 hM) (nM_23 hM) rfl (by omega) (by decide) dX6_looks_202 (hw _ hrc) ?_
        refine am_iast hC (j := ro c) (N := 25) (kM_23 hM) (nM_23 hM) rfl (by omega) (by decide) dX6_looks_203 ?_
        refine am_iinc (v := nI (c + 1)) hC dX6_looks_204 rfl (nI_1 (c)) (by decide) ?_
        change am_W _ _ _ _ [.ref (14), .int (nI d), .int (nI (c + 1)), .null, .null, .null] _ _
        refine am_goto (tgt := 158) hC dX6_looks_207 (by decide) ?_
        refine am_fgt (ls' := [.ref (14), .int (nI d), .int (nI (c + 1)), .null, .null, .null]) ⟨Or.inl rfl, ⟨Or.inl rfl, ⟨Or.inl rfl, ⟨Or.inr rfl, ⟨Or.inr rfl, ⟨Or.inr rfl, trivial⟩⟩⟩⟩⟩⟩ (ih (c + 1) _ (by omega) (am_eq_tr eg (am_eq_sI (Or.inr rfl))) (am_le_tr lg (am_le_sI _ _ _ _)) (fun q hq => hr q hq) (fun q hq => ?_))
        rw [hi_sI, show wx ro ex (c + 1) q = if ro c = q ∧ ex c = true then 0 else wx ro ex c q from rfl]
        by_cases z : q = ro c
        · rw [if_pos ⟨rfl, z⟩, if_neg (fun y => by rw [hex0] at y; cases y.2), z]
        · rw [if_neg (fun y => z y.2), if_neg (fun y => z y.1.symm)]
          exact hw q hq
      · have hex1 : ex c = true := (ho c (by omega)).symm.trans ((tb_ (by omega)).mp c_185)
        refine am_iconst (v := nI 0) hC dX6_looks_188 (by decide) ?_
        refine am_goto (tgt := 203) hC dX6_looks_189 (by decide) ?_
        refine am_iast hC (j := ro c) (N := 25) (kM_23 hM) (nM_23 hM) rfl (by omega) (by decide) dX6_looks_203 ?_
        refine am_iinc (v := nI (c + 1)) hC dX6_looks_204 rfl (nI_1 (c)) (by decide) ?_
        change am_W _ _ _ _ [.ref (14), .int (nI d), .int (nI (c + 1)), .null, .null, .null] _ _
        refine am_goto (tgt := 158) hC dX6_looks_207 (by decide) ?_
        refine am_fgt (ls' := [.ref (14), .int (nI d), .int (nI (c + 1)), .null, .null, .null]) ⟨Or.inl rfl, ⟨Or.inl rfl, ⟨Or.inl rfl, ⟨Or.inr rfl, ⟨Or.inr rfl, ⟨Or.inr rfl, trivial⟩⟩⟩⟩⟩⟩ (ih (c + 1) _ (by omega) (am_eq_tr eg (am_eq_sI (Or.inr rfl))) (am_le_tr lg (am_le_sI _ _ _ _)) (fun q hq => hr q hq) (fun q hq => ?_))
        rw [hi_sI, show wx ro ex (c + 1) q = if ro c = q ∧ ex c = true then 0 else wx ro ex c q from rfl]
        by_cases z : q = ro c
        · rw [if_pos ⟨rfl, z⟩, if_pos ⟨z.symm, hex1⟩]
        · rw [if_neg (fun y => z y.2), if_neg (fun y => z y.1.symm)]
          exact hw q hq
  have ifar : ∀ (m c : Nat) (g : am_H), c + m = 25 → am_eq S22 h1 g → am_le h1 g → (∀ c, c < 25 → hi_ g 22 c = nI (ro c)) → (∀ q, q < c → hi_ g 23 q = nI 99) → am_W Z (0 + 0) (0 + 0) 136 [.ref (14), .int (nI d), .int (nI c), .null, .null, .null] [] g := by
    intro m
    induction m with
    | zero =>
      intro c g hj eg lg hr hw
      obtain rfl : c = 25 := by omega
      refine am_iload_n hC dX6_looks_136 rfl ?_
      refine am_bipush (v := nI 25) hC dX6_looks_137 (by decide) ?_
      refine am_icmp_ge (tgt := 156) hC dX6_looks_139 (by decide) (fun c_139 => ?_) (fun c_139 => absurd (nI_le (by omega) (by omega)) c_139)
      refine am_iconst (v := nI 0) hC dX6_looks_156 (by decide) ?_
      refine am_istore_n hC dX6_looks_157 (by decide) ?_
      change am_W _ _ _ _ [.ref (14), .int (nI d), .int (nI 0), .null, .null, .null] _ _
      exact am_fgt (ls' := [.ref (14), .int (nI d), .int (nI 0), .null, .null, .null]) ⟨Or.inl rfl, ⟨Or.inl rfl, ⟨Or.inl rfl, ⟨Or.inr rfl, ⟨Or.inr rfl, ⟨Or.inr rfl, trivial⟩⟩⟩⟩⟩⟩ (sfar 25 0 g rfl eg lg hr hw)
    | succ m ih =>
      intro c g hj eg lg hr hw
      have hM := FM_eq (S := S22) (fun z => by unfold S22 at z; omega) eg lg hM1
      have hsd : ∀ s, s < 40 → hi_ g 20 (40 * d + s) = sd s := fun s hs => ((eg 20 (fun z => by unfold S22 at z; omega)).2.2.1 _).trans (hsd1 s hs)
      have ho : ∀ c, c < 25 → bt (hi_ g 21 d) c = ex c := fun c hc => by rw [(eg 21 (fun z => by unfold S22 at z; omega)).2.2.1]; exact ho1 c hc
      refine am_iload_n hC dX6_looks_136 rfl ?_
      refine am_bipush (v := nI 25) hC dX6_looks_137 (by decide) ?_
      refine am_icmp_ge (tgt := 156) hC dX6_looks_139 (by decide) (fun c_139 => absurd c_139 (nI_ge (by omega) (by omega))) (fun c_139 => ?_)
      refine am_aload_n hC dX6_looks_142 rfl ?_
      refine am_get (v := .ref (23)) hC (ci := 7) (N := 20) (j := 9) rfl (kM_14 hM) (by decide) tw_657 (Or.inl rfl) dX6_looks_143 (am_rfe (rM_9 hM)) ?_
      refine am_iload_n hC dX6_looks_146 rfl ?_
      refine am_bipush (v := nI 99) hC dX6_looks_147 (by decide) ?_
      refine am_iast hC (j := c) (N := 25) (kM_23 hM) (nM_23 hM) rfl (by omega) (by decide) dX6_looks_149 ?_
      refine am_iinc (v := nI (c + 1)) hC dX6_looks_150 rfl (nI_1 (c)) (by decide) ?_
      change am_W _ _ _ _ [.ref (14), .int (nI d), .int (nI (c + 1)), .null, .null, .null] _ _
      refine am_goto (tgt := 136) hC dX6_looks_153 (by decide) ?_
      refine am_fgt (ls' := [.ref (14), .int (nI d), .int (nI (c + 1)), .null, .null, .null]) ⟨Or.inl rfl, ⟨Or.inl rfl, ⟨Or.inl rfl, ⟨Or.inr rfl, ⟨Or.inr rfl, ⟨Or.inr rfl, trivial⟩⟩⟩⟩⟩⟩ (ih (c + 1) _ (by omega) (am_eq_tr eg (am_eq_sI (Or.inr rfl))) (am_le_tr lg (am_le_sI _ _ _ _)) (fun q hq => hr q hq) (fun q hq => ?_))
      rw [hi_sI]
      by_cases z : q = c
      · rw [if_pos ⟨rfl, z⟩]
      · rw [if_neg (fun y => z y.2)]; exact hw q (by omega)
  have rr : ∀ (m j : Nat) (g : am_H) (L : Nat → Nat), j + m = 25 → am_eq S22 h1 g → am_le h1 g → (∀ c, c < 25 → hi_ g 22 c = nI (L c)) → RB ro D0 j L → am_W Z (0 + 0) (0 + 0) 27 [.ref (14), .int (nI d), .int (nI j), .null, .null, .null] [] g := by
    intro m
    induction m with
    | zero =>
      intro j g L hj eg lg hr hb
      obtain rfl : j = 25 := by omega
      refine am_iload_n hC dX6_looks_27 rfl ?_
      refine am_bipush (v := nI 25) hC dX6_looks_28 (by decide) ?_
      refine am_icmp_ge (tgt := 134) hC dX6_looks_30 (by decide) (fun c_30 => ?_) (fun c_30 => absurd (nI_le (by omega) (by omega)) c_30)
      refine am_iconst (v := nI 0) hC dX6_looks_134 (by decide) ?_
      refine am_istore_n hC dX6_looks_135 (by decide) ?_
      change am_W _ _ _ _ [.ref (14), .int (nI d), .int (nI 0), .null, .null, .null] _ _
      exact am_fgt (ls' := [.ref (14), .int (nI d), .int (nI 0), .null, .null, .null]) ⟨Or.inl rfl, ⟨Or.inl rfl, ⟨Or.inl rfl, ⟨Or.inr rfl, ⟨Or.inr rfl, ⟨Or.inr rfl, trivial⟩⟩⟩⟩⟩⟩ (ifar 25 0 g rfl eg lg (fun c hc => (hr c hc).trans (congrArg nI (RB_25 hro hD0 hb c hc))) (fun q z => absurd z (Nat.not_lt_zero q)))
    | succ m ih =>
      intro j g L hj eg lg hr hb
      have il : ∀ (m s : Nat) (g : am_H) (L : Nat → Nat), s + m = 40 → am_eq S22 h1 g → am_le h1 g → (∀ c, c < 25 → hi_ g 22 c = nI (L c)) → RI sd ro D0 j s L → am_W Z (0 + 0) (0 + 0) 35 [.ref (14), .int (nI d), .int (nI j), .int (nI s), .null, .null] [] g := by
        intro m
        induction m with
        | zero =>
          intro s g L hs eg lg hr hi
          obtain rfl : s = 40 := by omega
          refine am_iload_n hC dX6_looks_35 rfl ?_
          refine am_bipush (v := nI 40) hC dX6_looks_36 (by decide) ?_
          refine am_icmp_ge (tgt := 128) hC dX6_looks_38 (by decide) (fun c_38 => ?_) (fun c_38 => absurd (nI_le (by omega) (by omega)) c_38)
          refine am_iinc (v := nI (j + 1)) hC dX6_looks_128 rfl (nI_1 (j)) (by decide) ?_
          change am_W _ _ _ _ [.ref (14), .int (nI d), .int (nI (j + 1)), .int (nI 40), .null, .null] _ _
          refine am_goto (tgt := 27) hC dX6_looks_131 (by decide) ?_
          exact am_fgt (ls' := [.ref (14), .int (nI d), .int (nI (j + 1)), .null, .null, .null]) ⟨Or.inl rfl, ⟨Or.inl rfl, ⟨Or.inl rfl, ⟨Or.inr rfl, ⟨Or.inr rfl, ⟨Or.inr rfl, trivial⟩⟩⟩⟩⟩⟩ (ih (j + 1) g L (by omega) eg lg hr (RI_end hD0 hi))
        | succ m ih2 =>
          intro s g L hs eg lg hr hi
          have hM := FM_eq (S := S22) (fun z => by unfold S22 at z; omega) eg lg hM1
          have hsd : ∀ s, s < 40 → hi_ g 20 (40 * d + s) = sd s := fun s hs => ((eg 20 (fun z => by unfold S22 at z; omega)).2.2.1 _).trans (hsd1 s hs)
          have ho : ∀ c, c < 25 → bt (hi_ g 21 d) c = ex c := fun c hc => by rw [(eg 21 (fun z => by unfold S22 at z; omega)).2.2.1]; exact ho1 c hc
          have hfs := fc_lt (by omega : s < 40)
          have hgs := sc_lt (by omega : s < 40)
          have hla := (hi.1.1 _ hfs).2.1
          have hlb := (hi.1.1 _ hgs).2.1
          refine am_iload_n hC dX6_looks_35 rfl ?_
          refine am_bipush (v := nI 40) hC dX6_looks_36 (by decide) ?_
          refine am_icmp_ge (tgt := 128) hC dX6_looks_38 (by decide) (fun c_38 => absurd c_38 (nI_ge (by omega) (by omega))) (fun c_38 => ?_)
          refine am_aload_n hC dX6_looks_41 rfl ?_
          refine am_get (v := .ref (20)) hC (ci := 7) (N := 20) (j := 6) rfl (kM_14 hM) (by decide) tw_654 (Or.inl rfl) dX6_looks_42 (am_rfe (rM_6 hM)) ?_
          refine am_bipush (v := nI 40) hC dX6_looks_45 (by decide) ?_
          refine am_iload_n hC dX6_looks_47 rfl ?_
          refine am_imulE (z := nI (40 * d)) hC dX6_looks_48 (pk_mul (40) (d)) ?_
          refine am_iload_n hC dX6_looks_49 rfl ?_
          refine am_iaddE (z := nI (40 * d + s)) hC dX6_looks_50 (nI_add (40 * d) (s)) ?_
          refine am_ialdE (v := sd s) hC (j := 40 * d + s) (N := 240) (kM_20 hM) (nM_20 hM) rfl (by omega) (by decide) dX6_looks_51 (hsd s (by omega)) ?_
          refine am_iconst (v := nI 1) hC dX6_looks_52 (by decide) ?_
          refine am_icmp_ge (tgt := 122) hC dX6_looks_53 (by decide) (fun c_53 => ?_) (fun c_53 => ?_)
          · refine am_iinc (v := nI (s + 1)) hC dX6_looks_122 rfl (nI_1 (s)) (by decide) ?_
            change am_W _ _ _ _ [.ref (14), .int (nI d), .int (nI j), .int (nI (s + 1)), .null, .null] _ _
            refine am_goto (tgt := 35) hC dX6_looks_125 (by decide) ?_
            exact am_fgt (ls' := [.ref (14), .int (nI d), .int (nI j), .int (nI (s + 1)), .null, .null]) ⟨Or.inl rfl, ⟨Or.inl rfl, ⟨Or.inl rfl, ⟨Or.inl rfl, ⟨Or.inr rfl, ⟨Or.inr rfl, trivial⟩⟩⟩⟩⟩⟩ (ih2 (s + 1) g L (by omega) eg lg hr (RI_skip (fun z => absurd ((opn_lt (hok s (by omega))).mpr z) (Int32.not_lt.mpr c_53)) hi))
          · refine am_aload_n hC dX6_looks_56 rfl ?_
            refine am_get (v := .ref (22)) hC (ci := 7) (N := 20) (j := 8) rfl (kM_14 hM) (by decide) tw_656 (Or.inl rfl) dX6_looks_57 (am_rfe (rM_8 hM)) ?_
            refine am_iload_n hC dX6_looks_60 rfl ?_
            refine am_callS hC [.int (nI s)] mf_X6_low tw_778 (c_X6_low _ _ (am_tr hC) _ s (by omega)) rfl ⟨rfl, Nat.le_of_ble_eq_true rfl⟩ ⟨by decide, by decide⟩ (by decide) (by decide) dX6_looks_61 rfl (fun _ _ q _ => False.elim q) (fun v h' hp hlc => ?_)
            obtain ⟨rfl, q9⟩ := hp
            have q9 := q9.symm
            subst q9
            refine am_ialdE (v := nI (L (fc_ s))) hC (j := fc_ s) (N := 25) (kM_22 hM) (nM_22 hM) rfl (by omega) (by decide) dX6_looks_64 (hr _ hfs) ?_
            refine am_aload_n hC dX6_looks_65 rfl ?_
            refine am_get (v := .ref (22)) hC (ci := 7) (N := 20) (j := 8) rfl (kM_14 hM) (by decide) tw_656 (Or.inl rfl) dX6_looks_66 (am_rfe (rM_8 hM)) ?_
            refine am_iload_n hC dX6_looks_69 rfl ?_
            refine am_callS hC [.int (nI s)] mf_X6_high tw_781 (c_X6_high _ _ (am_tr hC) _ s (by omega)) rfl ⟨rfl, Nat.le_of_ble_eq_true rfl⟩ ⟨by decide, by decide⟩ (by decide) (by decide) dX6_looks_70 rfl (fun _ _ q _ => False.elim q) (fun v h' hp hlc => ?_)
            obtain ⟨rfl, q9⟩ := hp
            have q9 := q9.symm
            subst q9
            refine am_ialdE (v := nI (L (sc_ s))) hC (j := sc_ s) (N := 25) (kM_22 hM) (nM_22 hM) rfl (by omega) (by decide) dX6_looks_73 (hr _ hgs) ?_
            refine am_icmp_ge (tgt := 89) hC dX6_looks_74 (by decide) (fun c_74 => ?_) (fun c_74 => ?_)
            · replace c_74 : (L (sc_ s)) ≤ (L (fc_ s)) := (nI_leI (a := (L (sc_ s))) (b := (L (fc_ s))) (by omega) (by omega)).mp c_74
              refine am_aload_n hC dX6_looks_89 rfl ?_
              refine am_get (v := .ref (22)) hC (ci := 7) (N := 20) (j := 8) rfl (kM_14 hM) (by decide) tw_656 (Or.inl rfl) dX6_looks_90 (am_rfe (rM_8 hM)) ?_
              refine am_iload_n hC dX6_looks_93 rfl ?_
              refine am_callS hC [.int (nI s)] mf_X6_high tw_781 (c_X6_high _ _ (am_tr hC) _ s (by omega)) rfl ⟨rfl, Nat.le_of_ble_eq_true rfl⟩ ⟨by decide, by decide⟩ (by decide) (by decide) dX6_looks_94 rfl (fun _ _ q _ => False.elim q) (fun v h' hp hlc => ?_)
              obtain ⟨rfl, q9⟩ := hp
              have q9 := q9.symm
              subst q9
              refine am_ialdE (v := nI (L (sc_ s))) hC (j := sc_ s) (N := 25) (kM_22 hM) (nM_22 hM) rfl (by omega) (by decide) dX6_looks_97 (hr _ hgs) ?_
              refine am_istore hC dX6_looks_98 (by decide) ?_
              change am_W _ _ _ _ [.ref (14), .int (nI d), .int (nI j), .int (nI s), .int (nI (L (sc_ s))), .null] _ _
              refine am_aload_n hC dX6_looks_100 rfl ?_
              refine am_get (v := .ref (22)) hC (ci := 7) (N := 20) (j := 8) rfl (kM_14 hM) (by decide) tw_656 (Or.inl rfl) dX6_looks_101 (am_rfe (rM_8 hM)) ?_
              refine am_iload_n hC dX6_looks_104 rfl ?_
              refine am_callS hC [.int (nI s)] mf_X6_low tw_778 (c_X6_low _ _ (am_tr hC) _ s (by omega)) rfl ⟨rfl, Nat.le_of_ble_eq_true rfl⟩ ⟨by decide, by decide⟩ (by decide) (by decide) dX6_looks_105 rfl (fun _ _ q _ => False.elim q) (fun v h' hp hlc => ?_)
              obtain ⟨rfl, q9⟩ := hp
              have q9 := q9.symm
              subst q9
              refine am_iload hC dX6_looks_108 rfl ?_
              refine am_iast hC (j := fc_ s) (N := 25) (kM_22 hM) (nM_22 hM) rfl (by omega) (by decide) dX6_looks_110 ?_
              refine am_aload_n hC dX6_looks_111 rfl ?_
              refine am_get (v := .ref (22)) hC (ci := 7) (N := 20) (j := 8) rfl (kM_14 hM) (by decide) tw_656 (Or.inl rfl) dX6_looks_112 (am_rfe (rM_8 hM)) ?_
              refine am_iload_n hC dX6_looks_115 rfl ?_
              refine am_callS hC [.int (nI s)] mf_X6_high tw_781 (c_X6_high _ _ (am_tr hC) _ s (by omega)) rfl ⟨rfl, Nat.le_of_ble_eq_true rfl⟩ ⟨by decide, by decide⟩ (by decide) (by decide) dX6_looks_116 rfl (fun _ _ q _ => False.elim q) (fun v h' hp hlc => ?_)
              obtain ⟨rfl, q9⟩ := hp
              subst q9
              refine am_iload hC dX6_looks_119 rfl ?_
              refine am_iast hC (j := sc_ s) (N := 25) (kM_22 hM) (nM_22 hM) rfl (by omega) (by decide) dX6_looks_121 ?_
              refine am_iinc (v := nI (s + 1)) hC dX6_looks_122 rfl (nI_1 (s)) (by decide) ?_
              change am_W _ _ _ _ [.ref (14), .int (nI d), .int (nI j), .int (nI (s + 1)), .int (nI (L (sc_ s))), .null] _ _
              refine am_goto (tgt := 35) hC dX6_looks_125 (by decide) ?_
              have hr3 : ∀ q, q < 25 → hi_ (am_sI (am_sI g 22 (fc_ s) (nI (L (sc_ s)))) 22 (sc_ s) (nI (L (sc_ s)))) 22 q = nI (RLs L s q) := fun q hq => by
                rw [hi_sI, hi_sI]
                unfold RLs
                by_cases z : q = sc_ s
                · rw [if_pos ⟨rfl, z⟩, if_pos z]
                  exact congrArg nI (by omega)
                · rw [if_neg (fun y => z y.2), if_neg z]
                  by_cases y : q = fc_ s
                  · rw [if_pos ⟨rfl, y⟩, if_pos y]
                    exact congrArg nI (by omega)
                  · rw [if_neg (fun v => y v.2), if_neg y]
                    exact hr q hq
              exact am_fgt (ls' := [.ref (14), .int (nI d), .int (nI j), .int (nI (s + 1)), .null, .null]) ⟨Or.inl rfl, ⟨Or.inl rfl, ⟨Or.inl rfl, ⟨Or.inl rfl, ⟨Or.inr rfl, ⟨Or.inr rfl, trivial⟩⟩⟩⟩⟩⟩ (ih2 (s + 1) _ (RLs L s) (by omega) (am_eq_tr eg (am_eq_tr (am_eq_sI (Or.inl rfl)) (am_eq_sI (Or.inl rfl)))) (am_le_tr lg (am_le_tr (am_le_sI _ _ _ _) (am_le_sI _ _ _ _))) hr3 (RI_step hro (by omega) ((opn_lt (hok s (by omega))).mp (Int32.not_le.mp c_53)) hi))
            · replace c_74 : ¬ (L (sc_ s)) ≤ (L (fc_ s)) := fun q9 => c_74 ((nI_leI (a := (L (sc_ s))) (b := (L (fc_ s))) (by omega) (by omega)).mpr q9)
              refine am_aload_n hC dX6_looks_77 rfl ?_
              refine am_get (v := .ref (22)) hC (ci := 7) (N := 20) (j := 8) rfl (kM_14 hM) (by decide) tw_656 (Or.inl rfl) dX6_looks_78 (am_rfe (rM_8 hM)) ?_
              refine am_iload_n hC dX6_looks_81 rfl ?_
              refine am_callS hC [.int (nI s)] mf_X6_low tw_778 (c_X6_low _ _ (am_tr hC) _ s (by omega)) rfl ⟨rfl, Nat.le_of_ble_eq_true rfl⟩ ⟨by decide, by decide⟩ (by decide) (by decide) dX6_looks_82 rfl (fun _ _ q _ => False.elim q) (fun v h' hp hlc => ?_)
              obtain ⟨rfl, q9⟩ := hp
              have q9 := q9.symm
              subst q9
              refine am_ialdE (v := nI (L (fc_ s))) hC (j := fc_ s) (N := 25) (kM_22 hM) (nM_22 hM) rfl (by omega) (by decide) dX6_looks_85 (hr _ hfs) ?_
              refine am_goto (tgt := 98) hC dX6_looks_86 (by decide) ?_
              refine am_istore hC dX6_looks_98 (by decide) ?_
              change am_W _ _ _ _ [.ref (14), .int (nI d), .int (nI j), .int (nI s), .int (nI (L (fc_ s))), .null] _ _
              refine am_aload_n hC dX6_looks_100 rfl ?_
              refine am_get (v := .ref (22)) hC (ci := 7) (N := 20) (j := 8) rfl (kM_14 hM) (by decide) tw_656 (Or.inl rfl) dX6_looks_101 (am_rfe (rM_8 hM)) ?_
              refine am_iload_n hC dX6_looks_104 rfl ?_
              refine am_callS hC [.int (nI s)] mf_X6_low tw_778 (c_X6_low _ _ (am_tr hC) _ s (by omega)) rfl ⟨rfl, Nat.le_of_ble_eq_true rfl⟩ ⟨by decide, by decide⟩ (by decide) (by decide) dX6_looks_105 rfl (fun _ _ q _ => False.elim q) (fun v h' hp hlc => ?_)
              obtain ⟨rfl, q9⟩ := hp
              have q9 := q9.symm
              subst q9
              refine am_iload hC dX6_looks_108 rfl ?_
              refine am_iast hC (j := fc_ s) (N := 25) (kM_22 hM) (nM_22 hM) rfl (by omega) (by decide) dX6_looks_110 ?_
              refine am_aload_n hC dX6_looks_111 rfl ?_
              refine am_get (v := .ref (22)) hC (ci := 7) (N := 20) (j := 8) rfl (kM_14 hM) (by decide) tw_656 (Or.inl rfl) dX6_looks_112 (am_rfe (rM_8 hM)) ?_
              refine am_iload_n hC dX6_looks_115 rfl ?_
              refine am_callS hC [.int (nI s)] mf_X6_high tw_781 (c_X6_high _ _ (am_tr hC) _ s (by omega)) rfl ⟨rfl, Nat.le_of_ble_eq_true rfl⟩ ⟨by decide, by decide⟩ (by decide) (by decide) dX6_looks_116 rfl (fun _ _ q _ => False.elim q) (fun v h' hp hlc => ?_)
              obtain ⟨rfl, q9⟩ := hp
              subst q9
              refine am_iload hC dX6_looks_119 rfl ?_
              refine am_iast hC (j := sc_ s) (N := 25) (kM_22 hM) (nM_22 hM) rfl (by omega) (by decide) dX6_looks_121 ?_
              refine am_iinc (v := nI (s + 1)) hC dX6_looks_122 rfl (nI_1 (s)) (by decide) ?_
              change am_W _ _ _ _ [.ref (14), .int (nI d), .int (nI j), .int (nI (s + 1)), .int (nI (L (fc_ s))), .null] _ _
              refine am_goto (tgt := 35) hC dX6_looks_125 (by decide) ?_
              have hr3 : ∀ q, q < 25 → hi_ (am_sI (am_sI g 22 (fc_ s) (nI (L (fc_ s)))) 22 (sc_ s) (nI (L (fc_ s)))) 22 q = nI (RLs L s q) := fun q hq => by
                rw [hi_sI, hi_sI]
                unfold RLs
                by_cases z : q = sc_ s
                · rw [if_pos ⟨rfl, z⟩, if_pos z]
                  exact congrArg nI (by omega)
                · rw [if_neg (fun y => z y.2), if_neg z]
                  by_cases y : q = fc_ s
                  · rw [if_pos ⟨rfl, y⟩, if_pos y]
                    exact congrArg nI (by omega)
                  · rw [if_neg (fun v => y v.2), if_neg y]
                    exact hr q hq
              exact am_fgt (ls' := [.ref (14), .int (nI d), .int (nI j), .int (nI (s + 1)), .null, .null]) ⟨Or.inl rfl, ⟨Or.inl rfl, ⟨Or.inl rfl, ⟨Or.inl rfl, ⟨Or.inr rfl, ⟨Or.inr rfl, trivial⟩⟩⟩⟩⟩⟩ (ih2 (s + 1) _ (RLs L s) (by omega) (am_eq_tr eg (am_eq_tr (am_eq_sI (Or.inl rfl)) (am_eq_sI (Or.inl rfl)))) (am_le_tr lg (am_le_tr (am_le_sI _ _ _ _) (am_le_sI _ _ _ _))) hr3 (RI_step hro (by omega) ((opn_lt (hok s (by omega))).mp (Int32.not_le.mp c_53)) hi))
      refine am_iload_n hC dX6_looks_27 rfl ?_
      refine am_bipush (v := nI 25) hC dX6_looks_28 (by decide) ?_
      refine am_icmp_ge (tgt := 134) hC dX6_looks_30 (by decide) (fun c_30 => absurd c_30 (nI_ge (by omega) (by omega))) (fun c_30 => ?_)
      refine am_iconst (v := nI 0) hC dX6_looks_33 (by decide) ?_
      refine am_istore_n hC dX6_looks_34 (by decide) ?_
      change am_W _ _ _ _ [.ref (14), .int (nI d), .int (nI j), .int (nI 0), .null, .null] _ _
      exact am_fgt (ls' := [.ref (14), .int (nI d), .int (nI j), .int (nI 0), .null, .null]) ⟨Or.inl rfl, ⟨Or.inl rfl, ⟨Or.inl rfl, ⟨Or.inl rfl, ⟨Or.inr rfl, ⟨Or.inr rfl, trivial⟩⟩⟩⟩⟩⟩ (il 40 0 g L rfl eg lg hr ⟨hb, fun s1 z => absurd z (Nat.not_lt_zero s1)⟩)
  have ir : ∀ (m c : Nat) (g : am_H), c + m = 25 → am_eq S22 h1 g → am_le h1 g → (∀ q, q < c → hi_ g 22 q = nI q) → am_W Z (0 + 0) (0 + 0) 6 [.ref (14), .int (nI d), .int (nI c), .null, .null, .null] [] g := by
    intro m
    induction m with
    | zero =>
      intro c g hj eg lg hr
      obtain rfl : c = 25 := by omega
      refine am_iload_n hC dX6_looks_6 rfl ?_
      refine am_bipush (v := nI 25) hC dX6_looks_7 (by decide) ?_
      refine am_icmp_ge (tgt := 25) hC dX6_looks_9 (by decide) (fun c_9 => ?_) (fun c_9 => absurd (nI_le (by omega) (by omega)) c_9)
      refine am_iconst (v := nI 0) hC dX6_looks_25 (by decide) ?_
      refine am_istore_n hC dX6_looks_26 (by decide) ?_
      change am_W _ _ _ _ [.ref (14), .int (nI d), .int (nI 0), .null, .null, .null] _ _
      exact am_fgt (ls' := [.ref (14), .int (nI d), .int (nI 0), .null, .null, .null]) ⟨Or.inl rfl, ⟨Or.inl rfl, ⟨Or.inl rfl, ⟨Or.inr rfl, ⟨Or.inr rfl, ⟨Or.inr rfl, trivial⟩⟩⟩⟩⟩⟩ (rr 25 0 g (fun c => c) rfl eg lg hr (RB_0 hro hD0))
    | succ m ih =>
      intro c g hj eg lg hr
      have hM := FM_eq (S := S22) (fun z => by unfold S22 at z; omega) eg lg hM1
      have hsd : ∀ s, s < 40 → hi_ g 20 (40 * d + s) = sd s := fun s hs => ((eg 20 (fun z => by unfold S22 at z; omega)).2.2.1 _).trans (hsd1 s hs)
      have ho : ∀ c, c < 25 → bt (hi_ g 21 d) c = ex c := fun c hc => by rw [(eg 21 (fun z => by unfold S22 at z; omega)).2.2.1]; exact ho1 c hc
      refine am_iload_n hC dX6_looks_6 rfl ?_
      refine am_bipush (v := nI 25) hC dX6_looks_7 (by decide) ?_
      refine am_icmp_ge (tgt := 25) hC dX6_looks_9 (by decide) (fun c_9 => absurd c_9 (nI_ge (by omega) (by omega))) (fun c_9 => ?_)
      refine am_aload_n hC dX6_looks_12 rfl ?_
      refine am_get (v := .ref (22)) hC (ci := 7) (N := 20) (j := 8) rfl (kM_14 hM) (by decide) tw_656 (Or.inl rfl) dX6_looks_13 (am_rfe (rM_8 hM)) ?_
      refine am_iload_n hC dX6_looks_16 rfl ?_
      refine am_iload_n hC dX6_looks_17 rfl ?_
      refine am_iast hC (j := c) (N := 25) (kM_22 hM) (nM_22 hM) rfl (by omega) (by decide) dX6_looks_18 ?_
      refine am_iinc (v := nI (c + 1)) hC dX6_looks_19 rfl (nI_1 (c)) (by decide) ?_
      change am_W _ _ _ _ [.ref (14), .int (nI d), .int (nI (c + 1)), .null, .null, .null] _ _
      refine am_goto (tgt := 6) hC dX6_looks_22 (by decide) ?_
      refine am_fgt (ls' := [.ref (14), .int (nI d), .int (nI (c + 1)), .null, .null, .null]) ⟨Or.inl rfl, ⟨Or.inl rfl, ⟨Or.inl rfl, ⟨Or.inr rfl, ⟨Or.inr rfl, ⟨Or.inr rfl, trivial⟩⟩⟩⟩⟩⟩ (ih (c + 1) _ (by omega) (am_eq_tr eg (am_eq_sI (Or.inl rfl))) (am_le_tr lg (am_le_sI _ _ _ _)) (fun q hq => ?_))
      rw [hi_sI]
      by_cases z : q = c
      · rw [if_pos ⟨rfl, z⟩, z]
      · rw [if_neg (fun y => z y.2)]; exact hr q (by omega)
  exact am_fgt (ls' := [.ref (14), .int (nI d), .int (nI 0), .null, .null, .null]) ⟨Or.inl rfl, ⟨Or.inl rfl, ⟨Or.inl rfl, ⟨Or.inr rfl, ⟨Or.inr rfl, ⟨Or.inr rfl, trivial⟩⟩⟩⟩⟩⟩ (ir 25 0 h1 rfl (am_eq_rf _ _) (am_le_rf _) (fun q z => absurd z (Nat.not_lt_zero q)))
