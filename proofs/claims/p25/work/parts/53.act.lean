/-! ===== the law's act, lock and unlock: a call of the class, its throws caught ===== -/
def z_an (K : Nat) (x : Int32) : Int32 := if K = 0 then x else if K = 1 then -71 else if K = 2 then -72 else -73
def z_as (K : Nat) (σ σ' : z_Sg) : z_Sg := if K = 0 then σ' else σ
theorem z_a0 {K : Nat} {x y : Int32} {h : am_H} {σ σ' : z_Sg} (hK : K = 0) (e : y = x) (hS : SZ h σ') : some (Value.int y) = some (.int (z_an K x)) ∧ SZ h (z_as K σ σ') := by
  subst hK; subst e
  exact ⟨rfl, hS⟩
theorem z_ac {K c : Nat} {x y : Int32} {h : am_H} {σ σ' : z_Sg} (hK : K = c) (hc : c ≠ 0) (e : y = z_an c 0) (hS : SZ h σ) : some (Value.int y) = some (.int (z_an K x)) ∧ SZ h (z_as K σ σ') := by
  subst hK; subst e
  unfold z_an z_as
  rw [if_neg hc, if_neg hc, if_neg hc]
  exact ⟨rfl, hS⟩
theorem z_e0 {K : Nat} {x : Int32} {h : am_H} {σ : z_Sg} (hK : K = 0) (hS : SZ h σ) : ∃ y, some (Value.int x) = some (.int (z_an K y)) ∧ SZ h σ := ⟨x, by rw [hK]; rfl, hS⟩
theorem z_ec' {K c : Nat} {y : Int32} {h : am_H} {σ : z_Sg} (hK : K = c) (hc : c ≠ 0) (e : y = z_an c 0) (hS : SZ h σ) : ∃ x, some (Value.int y) = some (.int (z_an K x)) ∧ SZ h σ := by
  refine ⟨0, ?_, hS⟩
  rw [hK, e]
theorem z_b0 {B : Bool} (c : b2i B = 0) : nI 0 = b2i B := c.symm
theorem z_b1 {B : Bool} (c : ¬ b2i B = 0) : nI 1 = b2i B := by
  cases B
  · exact absurd rfl c
  · rfl
set_option maxRecDepth 100000 in
set_option maxHeartbeats 4000000 in
theorem c_lock (G : am_G) (l : Launch) (htr : l.stackTraces = false) (h : am_H) {σ : z_Sg} (hS : SZ h σ) (A : Int32) (B : Int32) : am_Met G l yL_lock (.codeWith yL_lock cL_lock 4 (some .int) [((0 : Nat), (7 : Nat), (8 : Nat), (13 : Nat)), ((0 : Nat), (7 : Nat), (12 : Nat), (15 : Nat)), ((0 : Nat), (7 : Nat), (16 : Nat), (17 : Nat))]) 13 10 190 [.ref (3), .int (A), .int (B)] h (fun v h' => v = some (.int (z_an (z_kL σ A B) (0))) ∧ SZ h' (z_as (z_kL σ A B) σ (z_uL σ (dn A) B))) (am_no) := by
  refine am_introW rfl htr rfl (Nat.le_of_ble_eq_true rfl) (fun Z hC hR hI => ?_)
  change am_W Z 0 0 0 [.ref (3), .int (A), .int (B), .null] [] h
  refine am_aload_n hC dL_lock_0 rfl ?_
  refine am_iload_n hC dL_lock_1 rfl ?_
  refine am_iload_n hC dL_lock_2 rfl ?_
  have hx : ∀ (X : String) (h1 : am_H), (SZ h1 σ ∧ XN X (z_kL σ A B)) → am_le h h1 → am_WX Z (0 + 8) (0 + 48) 3 [.ref (3), .int (A), .int (B), .null] [] h1 X := by
    intro X h1 hE hle
    obtain ⟨hS1, hX⟩ := hE
    rcases hX with ⟨hK, rfl⟩ | ⟨hK, rfl⟩ | ⟨hK, rfl⟩
    · refine am_catch hC hR [] ⟨0, 7, 8, 13⟩ [⟨0, 7, 12, 15⟩, ⟨0, 7, 16, 17⟩] rfl (fun z hz => nomatch hz) (by decide) (by decide) tw_439 tw_282 (i := 3) (len := 1) (by decide) (Or.inr ⟨3, rfl, dL_lock_8, rfl⟩) ?_
      change am_W Z _ _ 9 [.ref (3), .int (A), .int (B), .null] [] _
      refine am_bipush (v := -71) hC dL_lock_9 (by decide) ?_
      refine am_iret hC hR rfl (by decide) (by decide) dL_lock_11 ?_
      exact z_ac hK (by decide) rfl hS1
    · refine am_catch hC hR [⟨0, 7, 8, 13⟩] ⟨0, 7, 12, 15⟩ [⟨0, 7, 16, 17⟩] rfl (fun z hz => by obtain rfl := List.mem_singleton.mp hz; exact ⟨"java/lang/IndexOutOfBoundsException", by decide, tw_439, by decide⟩) (by decide) (by decide) tw_440 tw_315 (i := 3) (len := 1) (by decide) (Or.inr ⟨3, rfl, dL_lock_12, rfl⟩) ?_
      change am_W Z _ _ 13 [.ref (3), .int (A), .int (B), .null] [] _
      refine am_bipush (v := -72) hC dL_lock_13 (by decide) ?_
      refine am_iret hC hR rfl (by decide) (by decide) dL_lock_15 ?_
      exact z_ac hK (by decide) rfl hS1
    · refine am_catch hC hR [⟨0, 7, 8, 13⟩, ⟨0, 7, 12, 15⟩] ⟨0, 7, 16, 17⟩ [] rfl (fun z hz => by rcases List.mem_cons.mp hz with rfl | hz; exact ⟨"java/lang/IndexOutOfBoundsException", by decide, tw_439, by decide⟩; obtain rfl := List.mem_singleton.mp hz; exact ⟨"java/lang/IllegalArgumentException", by decide, tw_440, by decide⟩) (by decide) (by decide) tw_441 tw_117 (i := 3) (len := 1) (by decide) (Or.inr ⟨3, rfl, dL_lock_16, rfl⟩) ?_
      change am_W Z _ _ 17 [.ref (3), .int (A), .int (B), .null] [] _
      refine am_bipush (v := -73) hC dL_lock_17 (by decide) ?_
      refine am_iret hC hR rfl (by decide) (by decide) dL_lock_19 ?_
      exact z_ac hK (by decide) rfl hS1
  refine am_callV hC (ci := 6) (N := 4) [.int (A), .int (B)] rfl (SZ_3 hS) rfl mf_X5_lock tw_442 (d_lock _ _ (am_tr hC) h hS A B) rfl ⟨rfl, Nat.le_of_ble_eq_true rfl⟩ ⟨by decide, by decide⟩ (by decide) (by decide) dL_lock_3 rfl hx (fun v h1 hp hlc => ?_)
  obtain ⟨hK, rfl, hS1⟩ := hp
  refine am_iconst (v := nI 0) hC dL_lock_6 (by decide) ?_
  refine am_iret hC hR rfl (by decide) (by decide) dL_lock_7 ?_
  exact z_a0 hK rfl hS1
set_option maxRecDepth 100000 in
set_option maxHeartbeats 4000000 in
theorem c_unlock (G : am_G) (l : Launch) (htr : l.stackTraces = false) (h : am_H) {σ : z_Sg} (hS : SZ h σ) (A : Int32) (B : Int32) : am_Met G l yL_unlock (.codeWith yL_unlock cL_unlock 4 (some .int) [((0 : Nat), (7 : Nat), (8 : Nat), (13 : Nat)), ((0 : Nat), (7 : Nat), (12 : Nat), (15 : Nat)), ((0 : Nat), (7 : Nat), (16 : Nat), (17 : Nat))]) 13 10 190 [.ref (3), .int (A), .int (B)] h (fun v h' => v = some (.int (z_an (z_kU σ A B) (0))) ∧ SZ h' (z_as (z_kU σ A B) σ (z_uL σ (dn A) (-1)))) (am_no) := by
  refine am_introW rfl htr rfl (Nat.le_of_ble_eq_true rfl) (fun Z hC hR hI => ?_)
  change am_W Z 0 0 0 [.ref (3), .int (A), .int (B), .null] [] h
  refine am_aload_n hC dL_unlock_0 rfl ?_
  refine am_iload_n hC dL_unlock_1 rfl ?_
  refine am_iload_n hC dL_unlock_2 rfl ?_
  have hx : ∀ (X : String) (h1 : am_H), (SZ h1 σ ∧ XN X (z_kU σ A B)) → am_le h h1 → am_WX Z (0 + 8) (0 + 48) 3 [.ref (3), .int (A), .int (B), .null] [] h1 X := by
    intro X h1 hE hle
    obtain ⟨hS1, hX⟩ := hE
    rcases hX with ⟨hK, rfl⟩ | ⟨hK, rfl⟩ | ⟨hK, rfl⟩
    · refine am_catch hC hR [] ⟨0, 7, 8, 13⟩ [⟨0, 7, 12, 15⟩, ⟨0, 7, 16, 17⟩] rfl (fun z hz => nomatch hz) (by decide) (by decide) tw_439 tw_282 (i := 3) (len := 1) (by decide) (Or.inr ⟨3, rfl, dL_unlock_8, rfl⟩) ?_
      change am_W Z _ _ 9 [.ref (3), .int (A), .int (B), .null] [] _
      refine am_bipush (v := -71) hC dL_unlock_9 (by decide) ?_
      refine am_iret hC hR rfl (by decide) (by decide) dL_unlock_11 ?_
      exact z_ac hK (by decide) rfl hS1
    · refine am_catch hC hR [⟨0, 7, 8, 13⟩] ⟨0, 7, 12, 15⟩ [⟨0, 7, 16, 17⟩] rfl (fun z hz => by obtain rfl := List.mem_singleton.mp hz; exact ⟨"java/lang/IndexOutOfBoundsException", by decide, tw_439, by decide⟩) (by decide) (by decide) tw_440 tw_315 (i := 3) (len := 1) (by decide) (Or.inr ⟨3, rfl, dL_unlock_12, rfl⟩) ?_
      change am_W Z _ _ 13 [.ref (3), .int (A), .int (B), .null] [] _
      refine am_bipush (v := -72) hC dL_unlock_13 (by decide) ?_
      refine am_iret hC hR rfl (by decide) (by decide) dL_unlock_15 ?_
      exact z_ac hK (by decide) rfl hS1
    · refine am_catch hC hR [⟨0, 7, 8, 13⟩, ⟨0, 7, 12, 15⟩] ⟨0, 7, 16, 17⟩ [] rfl (fun z hz => by rcases List.mem_cons.mp hz with rfl | hz; exact ⟨"java/lang/IndexOutOfBoundsException", by decide, tw_439, by decide⟩; obtain rfl := List.mem_singleton.mp hz; exact ⟨"java/lang/IllegalArgumentException", by decide, tw_440, by decide⟩) (by decide) (by decide) tw_441 tw_117 (i := 3) (len := 1) (by decide) (Or.inr ⟨3, rfl, dL_unlock_16, rfl⟩) ?_
      change am_W Z _ _ 17 [.ref (3), .int (A), .int (B), .null] [] _
      refine am_bipush (v := -73) hC dL_unlock_17 (by decide) ?_
      refine am_iret hC hR rfl (by decide) (by decide) dL_unlock_19 ?_
      exact z_ac hK (by decide) rfl hS1
  refine am_callV hC (ci := 6) (N := 4) [.int (A), .int (B)] rfl (SZ_3 hS) rfl mf_X5_unlock tw_588 (d_unlock _ _ (am_tr hC) h hS A B) rfl ⟨rfl, Nat.le_of_ble_eq_true rfl⟩ ⟨by decide, by decide⟩ (by decide) (by decide) dL_unlock_3 rfl hx (fun v h1 hp hlc => ?_)
  obtain ⟨hK, rfl, hS1⟩ := hp
  refine am_iconst (v := nI 0) hC dL_unlock_6 (by decide) ?_
  refine am_iret hC hR rfl (by decide) (by decide) dL_unlock_7 ?_
  exact z_a0 hK rfl hS1
set_option maxRecDepth 100000 in
set_option maxHeartbeats 4000000 in
theorem c_act0 (G : am_G) (l : Launch) (htr : l.stackTraces = false) (h : am_H) {σ : z_Sg} (hS : SZ h σ) (A : Int32) (B : Int32) (C : Int32) (E : Int32) : am_Met G l yL_act (.codeWith yL_act cL_act 7 (some .int) [((0 : Nat), (317 : Nat), (318 : Nat), (13 : Nat)), ((0 : Nat), (317 : Nat), (323 : Nat), (15 : Nat)), ((0 : Nat), (317 : Nat), (328 : Nat), (17 : Nat))]) 13 10 190 [.ref (3), .int (nI 0), .int (A), .int (B), .int (C), .int (E)] h (fun v h' => v = some (.int (z_an (z_kB σ) (nI (z_n σ)))) ∧ SZ h' (z_as (z_kB σ) σ (z_begin σ))) (am_no) := by
  refine am_introW rfl htr rfl (Nat.le_of_ble_eq_true rfl) (fun Z hC hR hI => ?_)
  change am_W Z 0 0 0 [.ref (3), .int (nI 0), .int (A), .int (B), .int (C), .int (E), .null] [] h
  refine am_iload_n hC dL_act_0 rfl ?_
  refine am_if_ne (tgt := 11) hC dL_act_1 (by decide) (fun c_1 => absurd (by decide) c_1) (fun c_1 => ?_)
  refine am_aload_n hC dL_act_4 rfl ?_
  have hx : ∀ (X : String) (h1 : am_H), (SZ h1 σ ∧ XN X (z_kB σ)) → am_le h h1 → am_WX Z (0 + 8) (0 + 160) 5 [.ref (3), .int (nI 0), .int (A), .int (B), .int (C), .int (E), .null] [] h1 X := by
    intro X h1 hE hle
    obtain ⟨hS1, hX⟩ := hE
    rcases hX with ⟨hK, rfl⟩ | ⟨hK, rfl⟩ | ⟨hK, rfl⟩
    · refine am_catch hC hR [] ⟨0, 317, 318, 13⟩ [⟨0, 317, 323, 15⟩, ⟨0, 317, 328, 17⟩] rfl (fun z hz => nomatch hz) (by decide) (by decide) tw_439 tw_282 (i := 6) (len := 2) (by decide) (Or.inl ⟨dL_act_318, rfl⟩) ?_
      change am_W Z _ _ 320 [.ref (3), .int (nI 0), .int (A), .int (B), .int (C), .int (E), .null] [] _
      refine am_bipush (v := -71) hC dL_act_320 (by decide) ?_
      refine am_iret hC hR rfl (by decide) (by decide) dL_act_322 ?_
      exact z_ac hK (by decide) rfl hS1
    · refine am_catch hC hR [⟨0, 317, 318, 13⟩] ⟨0, 317, 323, 15⟩ [⟨0, 317, 328, 17⟩] rfl (fun z hz => by obtain rfl := List.mem_singleton.mp hz; exact ⟨"java/lang/IndexOutOfBoundsException", by decide, tw_439, by decide⟩) (by decide) (by decide) tw_440 tw_315 (i := 6) (len := 2) (by decide) (Or.inl ⟨dL_act_323, rfl⟩) ?_
      change am_W Z _ _ 325 [.ref (3), .int (nI 0), .int (A), .int (B), .int (C), .int (E), .null] [] _
      refine am_bipush (v := -72) hC dL_act_325 (by decide) ?_
      refine am_iret hC hR rfl (by decide) (by decide) dL_act_327 ?_
      exact z_ac hK (by decide) rfl hS1
    · refine am_catch hC hR [⟨0, 317, 318, 13⟩, ⟨0, 317, 323, 15⟩] ⟨0, 317, 328, 17⟩ [] rfl (fun z hz => by rcases List.mem_cons.mp hz with rfl | hz; exact ⟨"java/lang/IndexOutOfBoundsException", by decide, tw_439, by decide⟩; obtain rfl := List.mem_singleton.mp hz; exact ⟨"java/lang/IllegalArgumentException", by decide, tw_440, by decide⟩) (by decide) (by decide) tw_441 tw_117 (i := 6) (len := 2) (by decide) (Or.inl ⟨dL_act_328, rfl⟩) ?_
      change am_W Z _ _ 330 [.ref (3), .int (nI 0), .int (A), .int (B), .int (C), .int (E), .null] [] _
      refine am_bipush (v := -73) hC dL_act_330 (by decide) ?_
      refine am_iret hC hR rfl (by decide) (by decide) dL_act_332 ?_
      exact z_ac hK (by decide) rfl hS1
  refine am_callV hC (ci := 6) (N := 4) [] rfl (SZ_3 hS) rfl mf_X5_begin tw_107 (d_begin _ _ (am_tr hC) h hS) rfl ⟨rfl, Nat.le_of_ble_eq_true rfl⟩ ⟨by decide, by decide⟩ (by decide) (by decide) dL_act_5 rfl hx (fun v h1 hp hlc => ?_)
  obtain ⟨hK, rfl, hS1⟩ := hp
  refine am_goto (tgt := 317) hC dL_act_8 (by decide) ?_
  refine am_iret hC hR rfl (by decide) (by decide) dL_act_317 ?_
  exact z_a0 hK rfl hS1
set_option maxRecDepth 100000 in
set_option maxHeartbeats 4000000 in
theorem c_act1 (G : am_G) (l : Launch) (htr : l.stackTraces = false) (h : am_H) {σ : z_Sg} (hS : SZ h σ) (A : Int32) (B : Int32) (C : Int32) (E : Int32) : am_Met G l yL_act (.codeWith yL_act cL_act 7 (some .int) [((0 : Nat), (317 : Nat), (318 : Nat), (13 : Nat)), ((0 : Nat), (317 : Nat), (323 : Nat), (15 : Nat)), ((0 : Nat), (317 : Nat), (328 : Nat), (17 : Nat))]) 13 10 190 [.ref (3), .int (nI 1), .int (A), .int (B), .int (C), .int (E)] h (fun v h' => v = some (.int (z_an (z_kT σ A B C E) (z_cd (z_T σ (dn A) (dn C))))) ∧ SZ h' (z_as (z_kT σ A B C E) σ (z_uT σ (dn A) (dn C) (z_ec E)))) (am_no) := by
  refine am_introW rfl htr rfl (Nat.le_of_ble_eq_true rfl) (fun Z hC hR hI => ?_)
  change am_W Z 0 0 0 [.ref (3), .int (nI 1), .int (A), .int (B), .int (C), .int (E), .null] [] h
  refine am_iload_n hC dL_act_0 rfl ?_
  refine am_if_ne (tgt := 11) hC dL_act_1 (by decide) (fun c_1 => ?_) (fun c_1 => absurd c_1 (by decide))
  refine am_iload_n hC dL_act_11 rfl ?_
  refine am_iconst (v := nI 1) hC dL_act_12 (by decide) ?_
  refine am_icmp_ne (tgt := 29) hC dL_act_13 (by decide) (fun c_13 => absurd (by decide) c_13) (fun c_13 => ?_)
  refine am_aload_n hC dL_act_16 rfl ?_
  refine am_iload_n hC dL_act_17 rfl ?_
  refine am_iload_n hC dL_act_18 rfl ?_
  refine am_iload hC dL_act_19 rfl ?_
  refine am_iload hC dL_act_21 rfl ?_
  have hx : ∀ (X : String) (h1 : am_H), (SZ h1 σ ∧ XN X (z_kT σ A B C E)) → am_le h h1 → am_WX Z (0 + 8) (0 + 48) 23 [.ref (3), .int (nI 1), .int (A), .int (B), .int (C), .int (E), .null] [] h1 X := by
    intro X h1 hE hle
    obtain ⟨hS1, hX⟩ := hE
    rcases hX with ⟨hK, rfl⟩ | ⟨hK, rfl⟩ | ⟨hK, rfl⟩
    · refine am_catch hC hR [] ⟨0, 317, 318, 13⟩ [⟨0, 317, 323, 15⟩, ⟨0, 317, 328, 17⟩] rfl (fun z hz => nomatch hz) (by decide) (by decide) tw_439 tw_282 (i := 6) (len := 2) (by decide) (Or.inl ⟨dL_act_318, rfl⟩) ?_
      change am_W Z _ _ 320 [.ref (3), .int (nI 1), .int (A), .int (B), .int (C), .int (E), .null] [] _
      refine am_bipush (v := -71) hC dL_act_320 (by decide) ?_
      refine am_iret hC hR rfl (by decide) (by decide) dL_act_322 ?_
      exact z_ac hK (by decide) rfl hS1
    · refine am_catch hC hR [⟨0, 317, 318, 13⟩] ⟨0, 317, 323, 15⟩ [⟨0, 317, 328, 17⟩] rfl (fun z hz => by obtain rfl := List.mem_singleton.mp hz; exact ⟨"java/lang/IndexOutOfBoundsException", by decide, tw_439, by decide⟩) (by decide) (by decide) tw_440 tw_315 (i := 6) (len := 2) (by decide) (Or.inl ⟨dL_act_323, rfl⟩) ?_
      change am_W Z _ _ 325 [.ref (3), .int (nI 1), .int (A), .int (B), .int (C), .int (E), .null] [] _
      refine am_bipush (v := -72) hC dL_act_325 (by decide) ?_
      refine am_iret hC hR rfl (by decide) (by decide) dL_act_327 ?_
      exact z_ac hK (by decide) rfl hS1
    · refine am_catch hC hR [⟨0, 317, 318, 13⟩, ⟨0, 317, 323, 15⟩] ⟨0, 317, 328, 17⟩ [] rfl (fun z hz => by rcases List.mem_cons.mp hz with rfl | hz; exact ⟨"java/lang/IndexOutOfBoundsException", by decide, tw_439, by decide⟩; obtain rfl := List.mem_singleton.mp hz; exact ⟨"java/lang/IllegalArgumentException", by decide, tw_440, by decide⟩) (by decide) (by decide) tw_441 tw_117 (i := 6) (len := 2) (by decide) (Or.inl ⟨dL_act_328, rfl⟩) ?_
      change am_W Z _ _ 330 [.ref (3), .int (nI 1), .int (A), .int (B), .int (C), .int (E), .null] [] _
      refine am_bipush (v := -73) hC dL_act_330 (by decide) ?_
      refine am_iret hC hR rfl (by decide) (by decide) dL_act_332 ?_
      exact z_ac hK (by decide) rfl hS1
  refine am_callV hC (ci := 6) (N := 4) [.int (A), .int (B), .int (C), .int (E)] rfl (SZ_3 hS) rfl mf_X5_tell tw_272 (d_tell _ _ (am_tr hC) h hS A B C E) rfl ⟨rfl, Nat.le_of_ble_eq_true rfl⟩ ⟨by decide, by decide⟩ (by decide) (by decide) dL_act_23 rfl hx (fun v h1 hp hlc => ?_)
  obtain ⟨hK, rfl, hS1⟩ := hp
  refine am_goto (tgt := 317) hC dL_act_26 (by decide) ?_
  refine am_iret hC hR rfl (by decide) (by decide) dL_act_317 ?_
  exact z_a0 hK rfl hS1
set_option maxRecDepth 100000 in
set_option maxHeartbeats 4000000 in
theorem c_act2 (G : am_G) (l : Launch) (htr : l.stackTraces = false) (h : am_H) {σ : z_Sg} (hS : SZ h σ) (A : Int32) (B : Int32) (C : Int32) (E : Int32) : am_Met G l yL_act (.codeWith yL_act cL_act 7 (some .int) [((0 : Nat), (317 : Nat), (318 : Nat), (13 : Nat)), ((0 : Nat), (317 : Nat), (323 : Nat), (15 : Nat)), ((0 : Nat), (317 : Nat), (328 : Nat), (17 : Nat))]) 13 10 190 [.ref (3), .int (nI 2), .int (A), .int (B), .int (C), .int (E)] h (fun v h' => v = some (.int (z_an (z_kE σ A B C) (b2i (z_X σ (dn A) (dn C))))) ∧ SZ h' (z_as (z_kE σ A B C) σ (z_uX σ (dn A) (dn C) (decide (E = nI 1))))) (am_no) := by
  refine am_introW rfl htr rfl (Nat.le_of_ble_eq_true rfl) (fun Z hC hR hI => ?_)
  change am_W Z 0 0 0 [.ref (3), .int (nI 2), .int (A), .int (B), .int (C), .int (E), .null] [] h
  refine am_iload_n hC dL_act_0 rfl ?_
  refine am_if_ne (tgt := 11) hC dL_act_1 (by decide) (fun c_1 => ?_) (fun c_1 => absurd c_1 (by decide))
  refine am_iload_n hC dL_act_11 rfl ?_
  refine am_iconst (v := nI 1) hC dL_act_12 (by decide) ?_
  refine am_icmp_ne (tgt := 29) hC dL_act_13 (by decide) (fun c_13 => ?_) (fun c_13 => absurd c_13 (by decide))
  refine am_iload_n hC dL_act_29 rfl ?_
  refine am_iconst (v := nI 2) hC dL_act_30 (by decide) ?_
  refine am_icmp_ne (tgt := 64) hC dL_act_31 (by decide) (fun c_31 => absurd (by decide) c_31) (fun c_31 => ?_)
  refine am_aload_n hC dL_act_34 rfl ?_
  refine am_iload_n hC dL_act_35 rfl ?_
  refine am_iload_n hC dL_act_36 rfl ?_
  refine am_iload hC dL_act_37 rfl ?_
  refine am_iload hC dL_act_39 rfl ?_
  refine am_iconst (v := nI 1) hC dL_act_41 (by decide) ?_
  refine am_icmp_ne (tgt := 49) hC dL_act_42 (by decide) (fun c_42 => ?_) (fun c_42 => ?_)
  · have eb : decide (E = nI 1) = false := decide_eq_false c_42
    refine am_iconst (v := nI 0) hC dL_act_49 (by decide) ?_
    have hx : ∀ (X : String) (h1 : am_H), (SZ h1 σ ∧ XN X (z_kE σ A B C)) → am_le h h1 → am_WX Z (0 + 8) (0 + 48) 50 [.ref (3), .int (nI 2), .int (A), .int (B), .int (C), .int (E), .null] [] h1 X := by
      intro X h1 hE hle
      obtain ⟨hS1, hX⟩ := hE
      rcases hX with ⟨hK, rfl⟩ | ⟨hK, rfl⟩ | ⟨hK, rfl⟩
      · refine am_catch hC hR [] ⟨0, 317, 318, 13⟩ [⟨0, 317, 323, 15⟩, ⟨0, 317, 328, 17⟩] rfl (fun z hz => nomatch hz) (by decide) (by decide) tw_439 tw_282 (i := 6) (len := 2) (by decide) (Or.inl ⟨dL_act_318, rfl⟩) ?_
        change am_W Z _ _ 320 [.ref (3), .int (nI 2), .int (A), .int (B), .int (C), .int (E), .null] [] _
        refine am_bipush (v := -71) hC dL_act_320 (by decide) ?_
        refine am_iret hC hR rfl (by decide) (by decide) dL_act_322 ?_
        rw [eb]
        exact z_ac hK (by decide) rfl hS1
      · refine am_catch hC hR [⟨0, 317, 318, 13⟩] ⟨0, 317, 323, 15⟩ [⟨0, 317, 328, 17⟩] rfl (fun z hz => by obtain rfl := List.mem_singleton.mp hz; exact ⟨"java/lang/IndexOutOfBoundsException", by decide, tw_439, by decide⟩) (by decide) (by decide) tw_440 tw_315 (i := 6) (len := 2) (by decide) (Or.inl ⟨dL_act_323, rfl⟩) ?_
        change am_W Z _ _ 325 [.ref (3), .int (nI 2), .int (A), .int (B), .int (C), .int (E), .null] [] _
        refine am_bipush (v := -72) hC dL_act_325 (by decide) ?_
        refine am_iret hC hR rfl (by decide) (by decide) dL_act_327 ?_
        rw [eb]
        exact z_ac hK (by decide) rfl hS1
      · refine am_catch hC hR [⟨0, 317, 318, 13⟩, ⟨0, 317, 323, 15⟩] ⟨0, 317, 328, 17⟩ [] rfl (fun z hz => by rcases List.mem_cons.mp hz with rfl | hz; exact ⟨"java/lang/IndexOutOfBoundsException", by decide, tw_439, by decide⟩; obtain rfl := List.mem_singleton.mp hz; exact ⟨"java/lang/IllegalArgumentException", by decide, tw_440, by decide⟩) (by decide) (by decide) tw_441 tw_117 (i := 6) (len := 2) (by decide) (Or.inl ⟨dL_act_328, rfl⟩) ?_
        change am_W Z _ _ 330 [.ref (3), .int (nI 2), .int (A), .int (B), .int (C), .int (E), .null] [] _
        refine am_bipush (v := -73) hC dL_act_330 (by decide) ?_
        refine am_iret hC hR rfl (by decide) (by decide) dL_act_332 ?_
        rw [eb]
        exact z_ac hK (by decide) rfl hS1
    refine am_callV hC (ci := 6) (N := 4) [.int (A), .int (B), .int (C), .int (nI 0)] rfl (SZ_3 hS) rfl mf_X5_setExit tw_342 (d_setExit _ _ (am_tr hC) h hS A B C false) rfl ⟨rfl, Nat.le_of_ble_eq_true rfl⟩ ⟨by decide, by decide⟩ (by decide) (by decide) dL_act_50 rfl hx (fun v h1 hp hlc => ?_)
    obtain ⟨hK, rfl, hS1⟩ := hp
    refine am_if_eq (tgt := 60) hC dL_act_53 (by decide) (fun c_53 => ?_) (fun c_53 => ?_)
    · refine am_iconst (v := nI 0) hC dL_act_60 (by decide) ?_
      refine am_goto (tgt := 317) hC dL_act_61 (by decide) ?_
      refine am_iret hC hR rfl (by decide) (by decide) dL_act_317 ?_
      rw [eb]
      exact z_a0 hK (z_b0 c_53) hS1
    · refine am_iconst (v := nI 1) hC dL_act_56 (by decide) ?_
      refine am_goto (tgt := 317) hC dL_act_57 (by decide) ?_
      refine am_iret hC hR rfl (by decide) (by decide) dL_act_317 ?_
      rw [eb]
      exact z_a0 hK (z_b1 c_53) hS1
  · have eb : decide (E = nI 1) = true := decide_eq_true c_42
    refine am_iconst (v := nI 1) hC dL_act_45 (by decide) ?_
    refine am_goto (tgt := 50) hC dL_act_46 (by decide) ?_
    have hx : ∀ (X : String) (h1 : am_H), (SZ h1 σ ∧ XN X (z_kE σ A B C)) → am_le h h1 → am_WX Z (0 + 8) (0 + 48) 50 [.ref (3), .int (nI 2), .int (A), .int (B), .int (C), .int (E), .null] [] h1 X := by
      intro X h1 hE hle
      obtain ⟨hS1, hX⟩ := hE
      rcases hX with ⟨hK, rfl⟩ | ⟨hK, rfl⟩ | ⟨hK, rfl⟩
      · refine am_catch hC hR [] ⟨0, 317, 318, 13⟩ [⟨0, 317, 323, 15⟩, ⟨0, 317, 328, 17⟩] rfl (fun z hz => nomatch hz) (by decide) (by decide) tw_439 tw_282 (i := 6) (len := 2) (by decide) (Or.inl ⟨dL_act_318, rfl⟩) ?_
        change am_W Z _ _ 320 [.ref (3), .int (nI 2), .int (A), .int (B), .int (C), .int (E), .null] [] _
        refine am_bipush (v := -71) hC dL_act_320 (by decide) ?_
        refine am_iret hC hR rfl (by decide) (by decide) dL_act_322 ?_
        rw [eb]
        exact z_ac hK (by decide) rfl hS1
      · refine am_catch hC hR [⟨0, 317, 318, 13⟩] ⟨0, 317, 323, 15⟩ [⟨0, 317, 328, 17⟩] rfl (fun z hz => by obtain rfl := List.mem_singleton.mp hz; exact ⟨"java/lang/IndexOutOfBoundsException", by decide, tw_439, by decide⟩) (by decide) (by decide) tw_440 tw_315 (i := 6) (len := 2) (by decide) (Or.inl ⟨dL_act_323, rfl⟩) ?_
        change am_W Z _ _ 325 [.ref (3), .int (nI 2), .int (A), .int (B), .int (C), .int (E), .null] [] _
        refine am_bipush (v := -72) hC dL_act_325 (by decide) ?_
        refine am_iret hC hR rfl (by decide) (by decide) dL_act_327 ?_
        rw [eb]
        exact z_ac hK (by decide) rfl hS1
      · refine am_catch hC hR [⟨0, 317, 318, 13⟩, ⟨0, 317, 323, 15⟩] ⟨0, 317, 328, 17⟩ [] rfl (fun z hz => by rcases List.mem_cons.mp hz with rfl | hz; exact ⟨"java/lang/IndexOutOfBoundsException", by decide, tw_439, by decide⟩; obtain rfl := List.mem_singleton.mp hz; exact ⟨"java/lang/IllegalArgumentException", by decide, tw_440, by decide⟩) (by decide) (by decide) tw_441 tw_117 (i := 6) (len := 2) (by decide) (Or.inl ⟨dL_act_328, rfl⟩) ?_
        change am_W Z _ _ 330 [.ref (3), .int (nI 2), .int (A), .int (B), .int (C), .int (E), .null] [] _
        refine am_bipush (v := -73) hC dL_act_330 (by decide) ?_
        refine am_iret hC hR rfl (by decide) (by decide) dL_act_332 ?_
        rw [eb]
        exact z_ac hK (by decide) rfl hS1
    refine am_callV hC (ci := 6) (N := 4) [.int (A), .int (B), .int (C), .int (nI 1)] rfl (SZ_3 hS) rfl mf_X5_setExit tw_342 (d_setExit _ _ (am_tr hC) h hS A B C true) rfl ⟨rfl, Nat.le_of_ble_eq_true rfl⟩ ⟨by decide, by decide⟩ (by decide) (by decide) dL_act_50 rfl hx (fun v h1 hp hlc => ?_)
    obtain ⟨hK, rfl, hS1⟩ := hp
    refine am_if_eq (tgt := 60) hC dL_act_53 (by decide) (fun c_53 => ?_) (fun c_53 => ?_)
    · refine am_iconst (v := nI 0) hC dL_act_60 (by decide) ?_
      refine am_goto (tgt := 317) hC dL_act_61 (by decide) ?_
      refine am_iret hC hR rfl (by decide) (by decide) dL_act_317 ?_
      rw [eb]
      exact z_a0 hK (z_b0 c_53) hS1
    · refine am_iconst (v := nI 1) hC dL_act_56 (by decide) ?_
      refine am_goto (tgt := 317) hC dL_act_57 (by decide) ?_
      refine am_iret hC hR rfl (by decide) (by decide) dL_act_317 ?_
      rw [eb]
      exact z_a0 hK (z_b1 c_53) hS1
set_option maxRecDepth 100000 in
set_option maxHeartbeats 4000000 in
theorem c_act3 (G : am_G) (l : Launch) (htr : l.stackTraces = false) (h : am_H) {σ : z_Sg} (hS : SZ h σ) (A : Int32) (B : Int32) (C : Int32) (E : Int32) : am_Met G l yL_act (.codeWith yL_act cL_act 7 (some .int) [((0 : Nat), (317 : Nat), (318 : Nat), (13 : Nat)), ((0 : Nat), (317 : Nat), (323 : Nat), (15 : Nat)), ((0 : Nat), (317 : Nat), (328 : Nat), (17 : Nat))]) 13 10 190 [.ref (3), .int (nI 3), .int (A), .int (B), .int (C), .int (E)] h (fun v h' => v = some (.int (z_an (z_kR σ A B C (decide (E = nI 1))) (b2i (z_R σ (dn A) (dn C))))) ∧ SZ h' (z_as (z_kR σ A B C (decide (E = nI 1))) σ (z_uR σ (dn A) (dn C) (decide (E = nI 1))))) (am_no) := by
  refine am_introW rfl htr rfl (Nat.le_of_ble_eq_true rfl) (fun Z hC hR hI => ?_)
  change am_W Z 0 0 0 [.ref (3), .int (nI 3), .int (A), .int (B), .int (C), .int (E), .null] [] h
  refine am_iload_n hC dL_act_0 rfl ?_
  refine am_if_ne (tgt := 11) hC dL_act_1 (by decide) (fun c_1 => ?_) (fun c_1 => absurd c_1 (by decide))
  refine am_iload_n hC dL_act_11 rfl ?_
  refine am_iconst (v := nI 1) hC dL_act_12 (by decide) ?_
  refine am_icmp_ne (tgt := 29) hC dL_act_13 (by decide) (fun c_13 => ?_) (fun c_13 => absurd c_13 (by decide))
  refine am_iload_n hC dL_act_29 rfl ?_
  refine am_iconst (v := nI 2) hC dL_act_30 (by decide) ?_
  refine am_icmp_ne (tgt := 64) hC dL_act_31 (by decide) (fun c_31 => ?_) (fun c_31 => absurd c_31 (by decide))
  refine am_iload_n hC dL_act_64 rfl ?_
  refine am_iconst (v := nI 3) hC dL_act_65 (by decide) ?_
  refine am_icmp_ne (tgt := 99) hC dL_act_66 (by decide) (fun c_66 => absurd (by decide) c_66) (fun c_66 => ?_)
  refine am_aload_n hC dL_act_69 rfl ?_
  refine am_iload_n hC dL_act_70 rfl ?_
  refine am_iload_n hC dL_act_71 rfl ?_
  refine am_iload hC dL_act_72 rfl ?_
  refine am_iload hC dL_act_74 rfl ?_
  refine am_iconst (v := nI 1) hC dL_act_76 (by decide) ?_
  refine am_icmp_ne (tgt := 84) hC dL_act_77 (by decide) (fun c_77 => ?_) (fun c_77 => ?_)
  · have eb : decide (E = nI 1) = false := decide_eq_false c_77
    refine am_iconst (v := nI 0) hC dL_act_84 (by decide) ?_
    have hx : ∀ (X : String) (h1 : am_H), (SZ h1 σ ∧ XN X (z_kR σ A B C (false))) → am_le h h1 → am_WX Z (0 + 8) (0 + 48) 85 [.ref (3), .int (nI 3), .int (A), .int (B), .int (C), .int (E), .null] [] h1 X := by
      intro X h1 hE hle
      obtain ⟨hS1, hX⟩ := hE
      rcases hX with ⟨hK, rfl⟩ | ⟨hK, rfl⟩ | ⟨hK, rfl⟩
      · refine am_catch hC hR [] ⟨0, 317, 318, 13⟩ [⟨0, 317, 323, 15⟩, ⟨0, 317, 328, 17⟩] rfl (fun z hz => nomatch hz) (by decide) (by decide) tw_439 tw_282 (i := 6) (len := 2) (by decide) (Or.inl ⟨dL_act_318, rfl⟩) ?_
        change am_W Z _ _ 320 [.ref (3), .int (nI 3), .int (A), .int (B), .int (C), .int (E), .null] [] _
        refine am_bipush (v := -71) hC dL_act_320 (by decide) ?_
        refine am_iret hC hR rfl (by decide) (by decide) dL_act_322 ?_
        rw [eb]
        exact z_ac hK (by decide) rfl hS1
      · refine am_catch hC hR [⟨0, 317, 318, 13⟩] ⟨0, 317, 323, 15⟩ [⟨0, 317, 328, 17⟩] rfl (fun z hz => by obtain rfl := List.mem_singleton.mp hz; exact ⟨"java/lang/IndexOutOfBoundsException", by decide, tw_439, by decide⟩) (by decide) (by decide) tw_440 tw_315 (i := 6) (len := 2) (by decide) (Or.inl ⟨dL_act_323, rfl⟩) ?_
        change am_W Z _ _ 325 [.ref (3), .int (nI 3), .int (A), .int (B), .int (C), .int (E), .null] [] _
        refine am_bipush (v := -72) hC dL_act_325 (by decide) ?_
        refine am_iret hC hR rfl (by decide) (by decide) dL_act_327 ?_
        rw [eb]
        exact z_ac hK (by decide) rfl hS1
      · refine am_catch hC hR [⟨0, 317, 318, 13⟩, ⟨0, 317, 323, 15⟩] ⟨0, 317, 328, 17⟩ [] rfl (fun z hz => by rcases List.mem_cons.mp hz with rfl | hz; exact ⟨"java/lang/IndexOutOfBoundsException", by decide, tw_439, by decide⟩; obtain rfl := List.mem_singleton.mp hz; exact ⟨"java/lang/IllegalArgumentException", by decide, tw_440, by decide⟩) (by decide) (by decide) tw_441 tw_117 (i := 6) (len := 2) (by decide) (Or.inl ⟨dL_act_328, rfl⟩) ?_
        change am_W Z _ _ 330 [.ref (3), .int (nI 3), .int (A), .int (B), .int (C), .int (E), .null] [] _
        refine am_bipush (v := -73) hC dL_act_330 (by decide) ?_
        refine am_iret hC hR rfl (by decide) (by decide) dL_act_332 ?_
        rw [eb]
        exact z_ac hK (by decide) rfl hS1
    refine am_callV hC (ci := 6) (N := 4) [.int (A), .int (B), .int (C), .int (nI 0)] rfl (SZ_3 hS) rfl mf_X5_refer tw_450 (d_refer _ _ (am_tr hC) h hS A B C false) rfl ⟨rfl, Nat.le_of_ble_eq_true rfl⟩ ⟨by decide, by decide⟩ (by decide) (by decide) dL_act_85 rfl hx (fun v h1 hp hlc => ?_)
    obtain ⟨hK, rfl, hS1⟩ := hp
    refine am_if_eq (tgt := 95) hC dL_act_88 (by decide) (fun c_88 => ?_) (fun c_88 => ?_)
    · refine am_iconst (v := nI 0) hC dL_act_95 (by decide) ?_
      refine am_goto (tgt := 317) hC dL_act_96 (by decide) ?_
      refine am_iret hC hR rfl (by decide) (by decide) dL_act_317 ?_
      rw [eb]
      exact z_a0 hK (z_b0 c_88) hS1
    · refine am_iconst (v := nI 1) hC dL_act_91 (by decide) ?_
      refine am_goto (tgt := 317) hC dL_act_92 (by decide) ?_
      refine am_iret hC hR rfl (by decide) (by decide) dL_act_317 ?_
      rw [eb]
      exact z_a0 hK (z_b1 c_88) hS1
  · have eb : decide (E = nI 1) = true := decide_eq_true c_77
    refine am_iconst (v := nI 1) hC dL_act_80 (by decide) ?_
    refine am_goto (tgt := 85) hC dL_act_81 (by decide) ?_
    have hx : ∀ (X : String) (h1 : am_H), (SZ h1 σ ∧ XN X (z_kR σ A B C (true))) → am_le h h1 → am_WX Z (0 + 8) (0 + 48) 85 [.ref (3), .int (nI 3), .int (A), .int (B), .int (C), .int (E), .null] [] h1 X := by
      intro X h1 hE hle
      obtain ⟨hS1, hX⟩ := hE
      rcases hX with ⟨hK, rfl⟩ | ⟨hK, rfl⟩ | ⟨hK, rfl⟩
      · refine am_catch hC hR [] ⟨0, 317, 318, 13⟩ [⟨0, 317, 323, 15⟩, ⟨0, 317, 328, 17⟩] rfl (fun z hz => nomatch hz) (by decide) (by decide) tw_439 tw_282 (i := 6) (len := 2) (by decide) (Or.inl ⟨dL_act_318, rfl⟩) ?_
        change am_W Z _ _ 320 [.ref (3), .int (nI 3), .int (A), .int (B), .int (C), .int (E), .null] [] _
        refine am_bipush (v := -71) hC dL_act_320 (by decide) ?_
        refine am_iret hC hR rfl (by decide) (by decide) dL_act_322 ?_
        rw [eb]
        exact z_ac hK (by decide) rfl hS1
      · refine am_catch hC hR [⟨0, 317, 318, 13⟩] ⟨0, 317, 323, 15⟩ [⟨0, 317, 328, 17⟩] rfl (fun z hz => by obtain rfl := List.mem_singleton.mp hz; exact ⟨"java/lang/IndexOutOfBoundsException", by decide, tw_439, by decide⟩) (by decide) (by decide) tw_440 tw_315 (i := 6) (len := 2) (by decide) (Or.inl ⟨dL_act_323, rfl⟩) ?_
        change am_W Z _ _ 325 [.ref (3), .int (nI 3), .int (A), .int (B), .int (C), .int (E), .null] [] _
        refine am_bipush (v := -72) hC dL_act_325 (by decide) ?_
        refine am_iret hC hR rfl (by decide) (by decide) dL_act_327 ?_
        rw [eb]
        exact z_ac hK (by decide) rfl hS1
      · refine am_catch hC hR [⟨0, 317, 318, 13⟩, ⟨0, 317, 323, 15⟩] ⟨0, 317, 328, 17⟩ [] rfl (fun z hz => by rcases List.mem_cons.mp hz with rfl | hz; exact ⟨"java/lang/IndexOutOfBoundsException", by decide, tw_439, by decide⟩; obtain rfl := List.mem_singleton.mp hz; exact ⟨"java/lang/IllegalArgumentException", by decide, tw_440, by decide⟩) (by decide) (by decide) tw_441 tw_117 (i := 6) (len := 2) (by decide) (Or.inl ⟨dL_act_328, rfl⟩) ?_
        change am_W Z _ _ 330 [.ref (3), .int (nI 3), .int (A), .int (B), .int (C), .int (E), .null] [] _
        refine am_bipush (v := -73) hC dL_act_330 (by decide) ?_
        refine am_iret hC hR rfl (by decide) (by decide) dL_act_332 ?_
        rw [eb]
        exact z_ac hK (by decide) rfl hS1
    refine am_callV hC (ci := 6) (N := 4) [.int (A), .int (B), .int (C), .int (nI 1)] rfl (SZ_3 hS) rfl mf_X5_refer tw_450 (d_refer _ _ (am_tr hC) h hS A B C true) rfl ⟨rfl, Nat.le_of_ble_eq_true rfl⟩ ⟨by decide, by decide⟩ (by decide) (by decide) dL_act_85 rfl hx (fun v h1 hp hlc => ?_)
    obtain ⟨hK, rfl, hS1⟩ := hp
    refine am_if_eq (tgt := 95) hC dL_act_88 (by decide) (fun c_88 => ?_) (fun c_88 => ?_)
    · refine am_iconst (v := nI 0) hC dL_act_95 (by decide) ?_
      refine am_goto (tgt := 317) hC dL_act_96 (by decide) ?_
      refine am_iret hC hR rfl (by decide) (by decide) dL_act_317 ?_
      rw [eb]
      exact z_a0 hK (z_b0 c_88) hS1
    · refine am_iconst (v := nI 1) hC dL_act_91 (by decide) ?_
      refine am_goto (tgt := 317) hC dL_act_92 (by decide) ?_
      refine am_iret hC hR rfl (by decide) (by decide) dL_act_317 ?_
      rw [eb]
      exact z_a0 hK (z_b1 c_88) hS1
set_option maxRecDepth 100000 in
set_option maxHeartbeats 4000000 in
theorem c_act4 (G : am_G) (l : Launch) (htr : l.stackTraces = false) (h : am_H) {σ : z_Sg} (hS : SZ h σ) (A : Int32) (B : Int32) (C : Int32) (E : Int32) : am_Met G l yL_act (.codeWith yL_act cL_act 7 (some .int) [((0 : Nat), (317 : Nat), (318 : Nat), (13 : Nat)), ((0 : Nat), (317 : Nat), (323 : Nat), (15 : Nat)), ((0 : Nat), (317 : Nat), (328 : Nat), (17 : Nat))]) 13 10 190 [.ref (3), .int (nI 4), .int (A), .int (B), .int (C), .int (E)] h (fun v h' => v = some (.int (z_an (z_kS σ A B) (z_sdS σ (dn A) (dn B)))) ∧ SZ h' (z_as (z_kS σ A B) σ (σ))) (am_no) := by
  refine am_introW rfl htr rfl (Nat.le_of_ble_eq_true rfl) (fun Z hC hR hI => ?_)
  change am_W Z 0 0 0 [.ref (3), .int (nI 4), .int (A), .int (B), .int (C), .int (E), .null] [] h
  refine am_iload_n hC dL_act_0 rfl ?_
  refine am_if_ne (tgt := 11) hC dL_act_1 (by decide) (fun c_1 => ?_) (fun c_1 => absurd c_1 (by decide))
  refine am_iload_n hC dL_act_11 rfl ?_
  refine am_iconst (v := nI 1) hC dL_act_12 (by decide) ?_
  refine am_icmp_ne (tgt := 29) hC dL_act_13 (by decide) (fun c_13 => ?_) (fun c_13 => absurd c_13 (by decide))
  refine am_iload_n hC dL_act_29 rfl ?_
  refine am_iconst (v := nI 2) hC dL_act_30 (by decide) ?_
  refine am_icmp_ne (tgt := 64) hC dL_act_31 (by decide) (fun c_31 => ?_) (fun c_31 => absurd c_31 (by decide))
  refine am_iload_n hC dL_act_64 rfl ?_
  refine am_iconst (v := nI 3) hC dL_act_65 (by decide) ?_
  refine am_icmp_ne (tgt := 99) hC dL_act_66 (by decide) (fun c_66 => ?_) (fun c_66 => absurd c_66 (by decide))
  refine am_iload_n hC dL_act_99 rfl ?_
  refine am_iconst (v := nI 4) hC dL_act_100 (by decide) ?_
  refine am_icmp_ne (tgt := 113) hC dL_act_101 (by decide) (fun c_101 => absurd (by decide) c_101) (fun c_101 => ?_)
  refine am_aload_n hC dL_act_104 rfl ?_
  refine am_iload_n hC dL_act_105 rfl ?_
  refine am_iload_n hC dL_act_106 rfl ?_
  have hx : ∀ (X : String) (h1 : am_H), (SZ h1 σ ∧ XN X (z_kS σ A B)) → am_le h h1 → am_WX Z (0 + 8) (0 + 48) 107 [.ref (3), .int (nI 4), .int (A), .int (B), .int (C), .int (E), .null] [] h1 X := by
    intro X h1 hE hle
    obtain ⟨hS1, hX⟩ := hE
    rcases hX with ⟨hK, rfl⟩ | ⟨hK, rfl⟩ | ⟨hK, rfl⟩
    · refine am_catch hC hR [] ⟨0, 317, 318, 13⟩ [⟨0, 317, 323, 15⟩, ⟨0, 317, 328, 17⟩] rfl (fun z hz => nomatch hz) (by decide) (by decide) tw_439 tw_282 (i := 6) (len := 2) (by decide) (Or.inl ⟨dL_act_318, rfl⟩) ?_
      change am_W Z _ _ 320 [.ref (3), .int (nI 4), .int (A), .int (B), .int (C), .int (E), .null] [] _
      refine am_bipush (v := -71) hC dL_act_320 (by decide) ?_
      refine am_iret hC hR rfl (by decide) (by decide) dL_act_322 ?_
      exact z_ac hK (by decide) rfl hS1
    · refine am_catch hC hR [⟨0, 317, 318, 13⟩] ⟨0, 317, 323, 15⟩ [⟨0, 317, 328, 17⟩] rfl (fun z hz => by obtain rfl := List.mem_singleton.mp hz; exact ⟨"java/lang/IndexOutOfBoundsException", by decide, tw_439, by decide⟩) (by decide) (by decide) tw_440 tw_315 (i := 6) (len := 2) (by decide) (Or.inl ⟨dL_act_323, rfl⟩) ?_
      change am_W Z _ _ 325 [.ref (3), .int (nI 4), .int (A), .int (B), .int (C), .int (E), .null] [] _
      refine am_bipush (v := -72) hC dL_act_325 (by decide) ?_
      refine am_iret hC hR rfl (by decide) (by decide) dL_act_327 ?_
      exact z_ac hK (by decide) rfl hS1
    · refine am_catch hC hR [⟨0, 317, 318, 13⟩, ⟨0, 317, 323, 15⟩] ⟨0, 317, 328, 17⟩ [] rfl (fun z hz => by rcases List.mem_cons.mp hz with rfl | hz; exact ⟨"java/lang/IndexOutOfBoundsException", by decide, tw_439, by decide⟩; obtain rfl := List.mem_singleton.mp hz; exact ⟨"java/lang/IllegalArgumentException", by decide, tw_440, by decide⟩) (by decide) (by decide) tw_441 tw_117 (i := 6) (len := 2) (by decide) (Or.inl ⟨dL_act_328, rfl⟩) ?_
      change am_W Z _ _ 330 [.ref (3), .int (nI 4), .int (A), .int (B), .int (C), .int (E), .null] [] _
      refine am_bipush (v := -73) hC dL_act_330 (by decide) ?_
      refine am_iret hC hR rfl (by decide) (by decide) dL_act_332 ?_
      exact z_ac hK (by decide) rfl hS1
  refine am_callV hC (ci := 6) (N := 4) [.int (A), .int (B)] rfl (SZ_3 hS) rfl mf_X5_side tw_350 (d_side _ _ (am_tr hC) h hS A B) rfl ⟨rfl, Nat.le_of_ble_eq_true rfl⟩ ⟨by decide, by decide⟩ (by decide) (by decide) dL_act_107 rfl hx (fun v h1 hp hlc => ?_)
  obtain ⟨hK, rfl, hS1⟩ := hp
  refine am_goto (tgt := 317) hC dL_act_110 (by decide) ?_
  refine am_iret hC hR rfl (by decide) (by decide) dL_act_317 ?_
  exact z_a0 hK rfl hS1
set_option maxRecDepth 100000 in
set_option maxHeartbeats 4000000 in
theorem c_act5 (G : am_G) (l : Launch) (htr : l.stackTraces = false) (h : am_H) {σ : z_Sg} (hS : SZ h σ) (A : Int32) (B : Int32) (C : Int32) (E : Int32) : am_Met G l yL_act (.codeWith yL_act cL_act 7 (some .int) [((0 : Nat), (317 : Nat), (318 : Nat), (13 : Nat)), ((0 : Nat), (317 : Nat), (323 : Nat), (15 : Nat)), ((0 : Nat), (317 : Nat), (328 : Nat), (17 : Nat))]) 13 10 190 [.ref (3), .int (nI 5), .int (A), .int (B), .int (C), .int (E)] h (fun v h' => v = some (.int (z_an (z_kC σ A B) (b2i (z_exS σ (dn A) (dn B))))) ∧ SZ h' (z_as (z_kC σ A B) σ (σ))) (am_no) := by
  refine am_introW rfl htr rfl (Nat.le_of_ble_eq_true rfl) (fun Z hC hR hI => ?_)
  change am_W Z 0 0 0 [.ref (3), .int (nI 5), .int (A), .int (B), .int (C), .int (E), .null] [] h
  refine am_iload_n hC dL_act_0 rfl ?_
  refine am_if_ne (tgt := 11) hC dL_act_1 (by decide) (fun c_1 => ?_) (fun c_1 => absurd c_1 (by decide))
  refine am_iload_n hC dL_act_11 rfl ?_
  refine am_iconst (v := nI 1) hC dL_act_12 (by decide) ?_
  refine am_icmp_ne (tgt := 29) hC dL_act_13 (by decide) (fun c_13 => ?_) (fun c_13 => absurd c_13 (by decide))
  refine am_iload_n hC dL_act_29 rfl ?_
  refine am_iconst (v := nI 2) hC dL_act_30 (by decide) ?_
  refine am_icmp_ne (tgt := 64) hC dL_act_31 (by decide) (fun c_31 => ?_) (fun c_31 => absurd c_31 (by decide))
  refine am_iload_n hC dL_act_64 rfl ?_
  refine am_iconst (v := nI 3) hC dL_act_65 (by decide) ?_
  refine am_icmp_ne (tgt := 99) hC dL_act_66 (by decide) (fun c_66 => ?_) (fun c_66 => absurd c_66 (by decide))
  refine am_iload_n hC dL_act_99 rfl ?_
  refine am_iconst (v := nI 4) hC dL_act_100 (by decide) ?_
  refine am_icmp_ne (tgt := 113) hC dL_act_101 (by decide) (fun c_101 => ?_) (fun c_101 => absurd c_101 (by decide))
  refine am_iload_n hC dL_act_113 rfl ?_
  refine am_iconst (v := nI 5) hC dL_act_114 (by decide) ?_
  refine am_icmp_ne (tgt := 135) hC dL_act_115 (by decide) (fun c_115 => absurd (by decide) c_115) (fun c_115 => ?_)
  refine am_aload_n hC dL_act_118 rfl ?_
  refine am_iload_n hC dL_act_119 rfl ?_
  refine am_iload_n hC dL_act_120 rfl ?_
  have hx : ∀ (X : String) (h1 : am_H), (SZ h1 σ ∧ XN X (z_kC σ A B)) → am_le h h1 → am_WX Z (0 + 8) (0 + 48) 121 [.ref (3), .int (nI 5), .int (A), .int (B), .int (C), .int (E), .null] [] h1 X := by
    intro X h1 hE hle
    obtain ⟨hS1, hX⟩ := hE
    rcases hX with ⟨hK, rfl⟩ | ⟨hK, rfl⟩ | ⟨hK, rfl⟩
    · refine am_catch hC hR [] ⟨0, 317, 318, 13⟩ [⟨0, 317, 323, 15⟩, ⟨0, 317, 328, 17⟩] rfl (fun z hz => nomatch hz) (by decide) (by decide) tw_439 tw_282 (i := 6) (len := 2) (by decide) (Or.inl ⟨dL_act_318, rfl⟩) ?_
      change am_W Z _ _ 320 [.ref (3), .int (nI 5), .int (A), .int (B), .int (C), .int (E), .null] [] _
      refine am_bipush (v := -71) hC dL_act_320 (by decide) ?_
      refine am_iret hC hR rfl (by decide) (by decide) dL_act_322 ?_
      exact z_ac hK (by decide) rfl hS1
    · refine am_catch hC hR [⟨0, 317, 318, 13⟩] ⟨0, 317, 323, 15⟩ [⟨0, 317, 328, 17⟩] rfl (fun z hz => by obtain rfl := List.mem_singleton.mp hz; exact ⟨"java/lang/IndexOutOfBoundsException", by decide, tw_439, by decide⟩) (by decide) (by decide) tw_440 tw_315 (i := 6) (len := 2) (by decide) (Or.inl ⟨dL_act_323, rfl⟩) ?_
      change am_W Z _ _ 325 [.ref (3), .int (nI 5), .int (A), .int (B), .int (C), .int (E), .null] [] _
      refine am_bipush (v := -72) hC dL_act_325 (by decide) ?_
      refine am_iret hC hR rfl (by decide) (by decide) dL_act_327 ?_
      exact z_ac hK (by decide) rfl hS1
    · refine am_catch hC hR [⟨0, 317, 318, 13⟩, ⟨0, 317, 323, 15⟩] ⟨0, 317, 328, 17⟩ [] rfl (fun z hz => by rcases List.mem_cons.mp hz with rfl | hz; exact ⟨"java/lang/IndexOutOfBoundsException", by decide, tw_439, by decide⟩; obtain rfl := List.mem_singleton.mp hz; exact ⟨"java/lang/IllegalArgumentException", by decide, tw_440, by decide⟩) (by decide) (by decide) tw_441 tw_117 (i := 6) (len := 2) (by decide) (Or.inl ⟨dL_act_328, rfl⟩) ?_
      change am_W Z _ _ 330 [.ref (3), .int (nI 5), .int (A), .int (B), .int (C), .int (E), .null] [] _
      refine am_bipush (v := -73) hC dL_act_330 (by decide) ?_
      refine am_iret hC hR rfl (by decide) (by decide) dL_act_332 ?_
      exact z_ac hK (by decide) rfl hS1
  refine am_callV hC (ci := 6) (N := 4) [.int (A), .int (B)] rfl (SZ_3 hS) rfl mf_X5_hasExit tw_462 (d_hasExit _ _ (am_tr hC) h hS A B) rfl ⟨rfl, Nat.le_of_ble_eq_true rfl⟩ ⟨by decide, by decide⟩ (by decide) (by decide) dL_act_121 rfl hx (fun v h1 hp hlc => ?_)
  obtain ⟨hK, rfl, hS1⟩ := hp
  refine am_if_eq (tgt := 131) hC dL_act_124 (by decide) (fun c_124 => ?_) (fun c_124 => ?_)
  · refine am_iconst (v := nI 0) hC dL_act_131 (by decide) ?_
    refine am_goto (tgt := 317) hC dL_act_132 (by decide) ?_
    refine am_iret hC hR rfl (by decide) (by decide) dL_act_317 ?_
    exact z_a0 hK (z_b0 c_124) hS1
  · refine am_iconst (v := nI 1) hC dL_act_127 (by decide) ?_
    refine am_goto (tgt := 317) hC dL_act_128 (by decide) ?_
    refine am_iret hC hR rfl (by decide) (by decide) dL_act_317 ?_
    exact z_a0 hK (z_b1 c_124) hS1
set_option maxRecDepth 100000 in
set_option maxHeartbeats 4000000 in
theorem c_act6 (G : am_G) (l : Launch) (htr : l.stackTraces = false) (h : am_H) {σ : z_Sg} (hS : SZ h σ) (A : Int32) (B : Int32) (C : Int32) (E : Int32) : am_Met G l yL_act (.codeWith yL_act cL_act 7 (some .int) [((0 : Nat), (317 : Nat), (318 : Nat), (13 : Nat)), ((0 : Nat), (317 : Nat), (323 : Nat), (15 : Nat)), ((0 : Nat), (317 : Nat), (328 : Nat), (17 : Nat))]) 13 10 190 [.ref (3), .int (nI 6), .int (A), .int (B), .int (C), .int (E)] h (fun v h' => ∃ x, v = some (.int (z_an (z_kN σ A) x)) ∧ SZ h' σ) (am_no) := by
  refine am_introW rfl htr rfl (Nat.le_of_ble_eq_true rfl) (fun Z hC hR hI => ?_)
  change am_W Z 0 0 0 [.ref (3), .int (nI 6), .int (A), .int (B), .int (C), .int (E), .null] [] h
  refine am_iload_n hC dL_act_0 rfl ?_
  refine am_if_ne (tgt := 11) hC dL_act_1 (by decide) (fun c_1 => ?_) (fun c_1 => absurd c_1 (by decide))
  refine am_iload_n hC dL_act_11 rfl ?_
  refine am_iconst (v := nI 1) hC dL_act_12 (by decide) ?_
  refine am_icmp_ne (tgt := 29) hC dL_act_13 (by decide) (fun c_13 => ?_) (fun c_13 => absurd c_13 (by decide))
  refine am_iload_n hC dL_act_29 rfl ?_
  refine am_iconst (v := nI 2) hC dL_act_30 (by decide) ?_
  refine am_icmp_ne (tgt := 64) hC dL_act_31 (by decide) (fun c_31 => ?_) (fun c_31 => absurd c_31 (by decide))
  refine am_iload_n hC dL_act_64 rfl ?_
  refine am_iconst (v := nI 3) hC dL_act_65 (by decide) ?_
  refine am_icmp_ne (tgt := 99) hC dL_act_66 (by decide) (fun c_66 => ?_) (fun c_66 => absurd c_66 (by decide))
  refine am_iload_n hC dL_act_99 rfl ?_
  refine am_iconst (v := nI 4) hC dL_act_100 (by decide) ?_
  refine am_icmp_ne (tgt := 113) hC dL_act_101 (by decide) (fun c_101 => ?_) (fun c_101 => absurd c_101 (by decide))
  refine am_iload_n hC dL_act_113 rfl ?_
  refine am_iconst (v := nI 5) hC dL_act_114 (by decide) ?_
  refine am_icmp_ne (tgt := 135) hC dL_act_115 (by decide) (fun c_115 => ?_) (fun c_115 => absurd c_115 (by decide))
  refine am_iload_n hC dL_act_135 rfl ?_
  refine am_bipush (v := nI 6) hC dL_act_136 (by decide) ?_
  refine am_icmp_ne (tgt := 149) hC dL_act_138 (by decide) (fun c_138 => absurd (by decide) c_138) (fun c_138 => ?_)
  refine am_aload_n hC dL_act_141 rfl ?_
  refine am_iload_n hC dL_act_142 rfl ?_
  have hx : ∀ (X : String) (h1 : am_H), (SZ h1 σ ∧ XN X (z_kN σ A)) → am_le h h1 → am_WX Z (0 + 8) (0 + 48) 143 [.ref (3), .int (nI 6), .int (A), .int (B), .int (C), .int (E), .null] [] h1 X := by
    intro X h1 hE hle
    obtain ⟨hS1, hX⟩ := hE
    rcases hX with ⟨hK, rfl⟩ | ⟨hK, rfl⟩ | ⟨hK, rfl⟩
    · refine am_catch hC hR [] ⟨0, 317, 318, 13⟩ [⟨0, 317, 323, 15⟩, ⟨0, 317, 328, 17⟩] rfl (fun z hz => nomatch hz) (by decide) (by decide) tw_439 tw_282 (i := 6) (len := 2) (by decide) (Or.inl ⟨dL_act_318, rfl⟩) ?_
      change am_W Z _ _ 320 [.ref (3), .int (nI 6), .int (A), .int (B), .int (C), .int (E), .null] [] _
      refine am_bipush (v := -71) hC dL_act_320 (by decide) ?_
      refine am_iret hC hR rfl (by decide) (by decide) dL_act_322 ?_
      exact z_ec' hK (by decide) rfl hS1
    · refine am_catch hC hR [⟨0, 317, 318, 13⟩] ⟨0, 317, 323, 15⟩ [⟨0, 317, 328, 17⟩] rfl (fun z hz => by obtain rfl := List.mem_singleton.mp hz; exact ⟨"java/lang/IndexOutOfBoundsException", by decide, tw_439, by decide⟩) (by decide) (by decide) tw_440 tw_315 (i := 6) (len := 2) (by decide) (Or.inl ⟨dL_act_323, rfl⟩) ?_
      change am_W Z _ _ 325 [.ref (3), .int (nI 6), .int (A), .int (B), .int (C), .int (E), .null] [] _
      refine am_bipush (v := -72) hC dL_act_325 (by decide) ?_
      refine am_iret hC hR rfl (by decide) (by decide) dL_act_327 ?_
      exact z_ec' hK (by decide) rfl hS1
    · refine am_catch hC hR [⟨0, 317, 318, 13⟩, ⟨0, 317, 323, 15⟩] ⟨0, 317, 328, 17⟩ [] rfl (fun z hz => by rcases List.mem_cons.mp hz with rfl | hz; exact ⟨"java/lang/IndexOutOfBoundsException", by decide, tw_439, by decide⟩; obtain rfl := List.mem_singleton.mp hz; exact ⟨"java/lang/IllegalArgumentException", by decide, tw_440, by decide⟩) (by decide) (by decide) tw_441 tw_117 (i := 6) (len := 2) (by decide) (Or.inl ⟨dL_act_328, rfl⟩) ?_
      change am_W Z _ _ 330 [.ref (3), .int (nI 6), .int (A), .int (B), .int (C), .int (E), .null] [] _
      refine am_bipush (v := -73) hC dL_act_330 (by decide) ?_
      refine am_iret hC hR rfl (by decide) (by decide) dL_act_332 ?_
      exact z_ec' hK (by decide) rfl hS1
  refine am_callV hC (ci := 6) (N := 4) [.int (A)] rfl (SZ_3 hS) rfl mf_X5_rooms tw_361 (d_rooms _ _ (am_tr hC) h hS A) rfl ⟨rfl, Nat.le_of_ble_eq_true rfl⟩ ⟨by decide, by decide⟩ (by decide) (by decide) dL_act_143 rfl hx (fun v h1 hp hlc => ?_)
  obtain ⟨hK, hS1, x, rfl, -⟩ := hp
  refine am_goto (tgt := 317) hC dL_act_146 (by decide) ?_
  refine am_iret hC hR rfl (by decide) (by decide) dL_act_317 ?_
  exact z_e0 hK hS1
set_option maxRecDepth 100000 in
set_option maxHeartbeats 4000000 in
theorem c_act7 (G : am_G) (l : Launch) (htr : l.stackTraces = false) (h : am_H) {σ : z_Sg} (hS : SZ h σ) (A : Int32) (B : Int32) (C : Int32) (E : Int32) : am_Met G l yL_act (.codeWith yL_act cL_act 7 (some .int) [((0 : Nat), (317 : Nat), (318 : Nat), (13 : Nat)), ((0 : Nat), (317 : Nat), (323 : Nat), (15 : Nat)), ((0 : Nat), (317 : Nat), (328 : Nat), (17 : Nat))]) 13 10 190 [.ref (3), .int (nI 7), .int (A), .int (B), .int (C), .int (E)] h (fun v h' => ∃ x, v = some (.int (z_an (z_kC σ A B) x)) ∧ SZ h' σ) (am_no) := by
  refine am_introW rfl htr rfl (Nat.le_of_ble_eq_true rfl) (fun Z hC hR hI => ?_)
  change am_W Z 0 0 0 [.ref (3), .int (nI 7), .int (A), .int (B), .int (C), .int (E), .null] [] h
  refine am_iload_n hC dL_act_0 rfl ?_
  refine am_if_ne (tgt := 11) hC dL_act_1 (by decide) (fun c_1 => ?_) (fun c_1 => absurd c_1 (by decide))
  refine am_iload_n hC dL_act_11 rfl ?_
  refine am_iconst (v := nI 1) hC dL_act_12 (by decide) ?_
  refine am_icmp_ne (tgt := 29) hC dL_act_13 (by decide) (fun c_13 => ?_) (fun c_13 => absurd c_13 (by decide))
  refine am_iload_n hC dL_act_29 rfl ?_
  refine am_iconst (v := nI 2) hC dL_act_30 (by decide) ?_
  refine am_icmp_ne (tgt := 64) hC dL_act_31 (by decide) (fun c_31 => ?_) (fun c_31 => absurd c_31 (by decide))
  refine am_iload_n hC dL_act_64 rfl ?_
  refine am_iconst (v := nI 3) hC dL_act_65 (by decide) ?_
  refine am_icmp_ne (tgt := 99) hC dL_act_66 (by decide) (fun c_66 => ?_) (fun c_66 => absurd c_66 (by decide))
  refine am_iload_n hC dL_act_99 rfl ?_
  refine am_iconst (v := nI 4) hC dL_act_100 (by decide) ?_
  refine am_icmp_ne (tgt := 113) hC dL_act_101 (by decide) (fun c_101 => ?_) (fun c_101 => absurd c_101 (by decide))
  refine am_iload_n hC dL_act_113 rfl ?_
  refine am_iconst (v := nI 5) hC dL_act_114 (by decide) ?_
  refine am_icmp_ne (tgt := 135) hC dL_act_115 (by decide) (fun c_115 => ?_) (fun c_115 => absurd c_115 (by decide))
  refine am_iload_n hC dL_act_135 rfl ?_
  refine am_bipush (v := nI 6) hC dL_act_136 (by decide) ?_
  refine am_icmp_ne (tgt := 149) hC dL_act_138 (by decide) (fun c_138 => ?_) (fun c_138 => absurd c_138 (by decide))
  refine am_iload_n hC dL_act_149 rfl ?_
  refine am_bipush (v := nI 7) hC dL_act_150 (by decide) ?_
  refine am_icmp_ne (tgt := 164) hC dL_act_152 (by decide) (fun c_152 => absurd (by decide) c_152) (fun c_152 => ?_)
  refine am_aload_n hC dL_act_155 rfl ?_
  refine am_iload_n hC dL_act_156 rfl ?_
  refine am_iload_n hC dL_act_157 rfl ?_
  have hx : ∀ (X : String) (h1 : am_H), (SZ h1 σ ∧ XN X (z_kC σ A B)) → am_le h h1 → am_WX Z (0 + 8) (0 + 48) 158 [.ref (3), .int (nI 7), .int (A), .int (B), .int (C), .int (E), .null] [] h1 X := by
    intro X h1 hE hle
    obtain ⟨hS1, hX⟩ := hE
    rcases hX with ⟨hK, rfl⟩ | ⟨hK, rfl⟩ | ⟨hK, rfl⟩
    · refine am_catch hC hR [] ⟨0, 317, 318, 13⟩ [⟨0, 317, 323, 15⟩, ⟨0, 317, 328, 17⟩] rfl (fun z hz => nomatch hz) (by decide) (by decide) tw_439 tw_282 (i := 6) (len := 2) (by decide) (Or.inl ⟨dL_act_318, rfl⟩) ?_
      change am_W Z _ _ 320 [.ref (3), .int (nI 7), .int (A), .int (B), .int (C), .int (E), .null] [] _
      refine am_bipush (v := -71) hC dL_act_320 (by decide) ?_
      refine am_iret hC hR rfl (by decide) (by decide) dL_act_322 ?_
      exact z_ec' hK (by decide) rfl hS1
    · refine am_catch hC hR [⟨0, 317, 318, 13⟩] ⟨0, 317, 323, 15⟩ [⟨0, 317, 328, 17⟩] rfl (fun z hz => by obtain rfl := List.mem_singleton.mp hz; exact ⟨"java/lang/IndexOutOfBoundsException", by decide, tw_439, by decide⟩) (by decide) (by decide) tw_440 tw_315 (i := 6) (len := 2) (by decide) (Or.inl ⟨dL_act_323, rfl⟩) ?_
      change am_W Z _ _ 325 [.ref (3), .int (nI 7), .int (A), .int (B), .int (C), .int (E), .null] [] _
      refine am_bipush (v := -72) hC dL_act_325 (by decide) ?_
      refine am_iret hC hR rfl (by decide) (by decide) dL_act_327 ?_
      exact z_ec' hK (by decide) rfl hS1
    · refine am_catch hC hR [⟨0, 317, 318, 13⟩, ⟨0, 317, 323, 15⟩] ⟨0, 317, 328, 17⟩ [] rfl (fun z hz => by rcases List.mem_cons.mp hz with rfl | hz; exact ⟨"java/lang/IndexOutOfBoundsException", by decide, tw_439, by decide⟩; obtain rfl := List.mem_singleton.mp hz; exact ⟨"java/lang/IllegalArgumentException", by decide, tw_440, by decide⟩) (by decide) (by decide) tw_441 tw_117 (i := 6) (len := 2) (by decide) (Or.inl ⟨dL_act_328, rfl⟩) ?_
      change am_W Z _ _ 330 [.ref (3), .int (nI 7), .int (A), .int (B), .int (C), .int (E), .null] [] _
      refine am_bipush (v := -73) hC dL_act_330 (by decide) ?_
      refine am_iret hC hR rfl (by decide) (by decide) dL_act_332 ?_
      exact z_ec' hK (by decide) rfl hS1
  refine am_callV hC (ci := 6) (N := 4) [.int (A), .int (B)] rfl (SZ_3 hS) rfl mf_X5_room tw_467 (d_room _ _ (am_tr hC) h hS A B) rfl ⟨rfl, Nat.le_of_ble_eq_true rfl⟩ ⟨by decide, by decide⟩ (by decide) (by decide) dL_act_158 rfl hx (fun v h1 hp hlc => ?_)
  obtain ⟨hK, hS1, x, rfl, -⟩ := hp
  refine am_goto (tgt := 317) hC dL_act_161 (by decide) ?_
  refine am_iret hC hR rfl (by decide) (by decide) dL_act_317 ?_
  exact z_e0 hK hS1
set_option maxRecDepth 100000 in
set_option maxHeartbeats 4000000 in
theorem c_act8 (G : am_G) (l : Launch) (htr : l.stackTraces = false) (h : am_H) {σ : z_Sg} (hS : SZ h σ) (A : Int32) (B : Int32) (C : Int32) (E : Int32) : am_Met G l yL_act (.codeWith yL_act cL_act 7 (some .int) [((0 : Nat), (317 : Nat), (318 : Nat), (13 : Nat)), ((0 : Nat), (317 : Nat), (323 : Nat), (15 : Nat)), ((0 : Nat), (317 : Nat), (328 : Nat), (17 : Nat))]) 13 10 190 [.ref (3), .int (nI 8), .int (A), .int (B), .int (C), .int (E)] h (fun v h' => ∃ x, v = some (.int (z_an (z_kC σ A B) x)) ∧ SZ h' σ) (am_no) := by
  refine am_introW rfl htr rfl (Nat.le_of_ble_eq_true rfl) (fun Z hC hR hI => ?_)
  change am_W Z 0 0 0 [.ref (3), .int (nI 8), .int (A), .int (B), .int (C), .int (E), .null] [] h
  refine am_iload_n hC dL_act_0 rfl ?_
  refine am_if_ne (tgt := 11) hC dL_act_1 (by decide) (fun c_1 => ?_) (fun c_1 => absurd c_1 (by decide))
  refine am_iload_n hC dL_act_11 rfl ?_
  refine am_iconst (v := nI 1) hC dL_act_12 (by decide) ?_
  refine am_icmp_ne (tgt := 29) hC dL_act_13 (by decide) (fun c_13 => ?_) (fun c_13 => absurd c_13 (by decide))
  refine am_iload_n hC dL_act_29 rfl ?_
  refine am_iconst (v := nI 2) hC dL_act_30 (by decide) ?_
  refine am_icmp_ne (tgt := 64) hC dL_act_31 (by decide) (fun c_31 => ?_) (fun c_31 => absurd c_31 (by decide))
  refine am_iload_n hC dL_act_64 rfl ?_
  refine am_iconst (v := nI 3) hC dL_act_65 (by decide) ?_
  refine am_icmp_ne (tgt := 99) hC dL_act_66 (by decide) (fun c_66 => ?_) (fun c_66 => absurd c_66 (by decide))
  refine am_iload_n hC dL_act_99 rfl ?_
  refine am_iconst (v := nI 4) hC dL_act_100 (by decide) ?_
  refine am_icmp_ne (tgt := 113) hC dL_act_101 (by decide) (fun c_101 => ?_) (fun c_101 => absurd c_101 (by decide))
  refine am_iload_n hC dL_act_113 rfl ?_
  refine am_iconst (v := nI 5) hC dL_act_114 (by decide) ?_
  refine am_icmp_ne (tgt := 135) hC dL_act_115 (by decide) (fun c_115 => ?_) (fun c_115 => absurd c_115 (by decide))
  refine am_iload_n hC dL_act_135 rfl ?_
  refine am_bipush (v := nI 6) hC dL_act_136 (by decide) ?_
  refine am_icmp_ne (tgt := 149) hC dL_act_138 (by decide) (fun c_138 => ?_) (fun c_138 => absurd c_138 (by decide))
  refine am_iload_n hC dL_act_149 rfl ?_
  refine am_bipush (v := nI 7) hC dL_act_150 (by decide) ?_
  refine am_icmp_ne (tgt := 164) hC dL_act_152 (by decide) (fun c_152 => ?_) (fun c_152 => absurd c_152 (by decide))
  refine am_iload_n hC dL_act_164 rfl ?_
  refine am_bipush (v := nI 8) hC dL_act_165 (by decide) ?_
  refine am_icmp_ne (tgt := 179) hC dL_act_167 (by decide) (fun c_167 => absurd (by decide) c_167) (fun c_167 => ?_)
  refine am_aload_n hC dL_act_170 rfl ?_
  refine am_iload_n hC dL_act_171 rfl ?_
  refine am_iload_n hC dL_act_172 rfl ?_
  have hx : ∀ (X : String) (h1 : am_H), (SZ h1 σ ∧ XN X (z_kC σ A B)) → am_le h h1 → am_WX Z (0 + 8) (0 + 48) 173 [.ref (3), .int (nI 8), .int (A), .int (B), .int (C), .int (E), .null] [] h1 X := by
    intro X h1 hE hle
    obtain ⟨hS1, hX⟩ := hE
    rcases hX with ⟨hK, rfl⟩ | ⟨hK, rfl⟩ | ⟨hK, rfl⟩
    · refine am_catch hC hR [] ⟨0, 317, 318, 13⟩ [⟨0, 317, 323, 15⟩, ⟨0, 317, 328, 17⟩] rfl (fun z hz => nomatch hz) (by decide) (by decide) tw_439 tw_282 (i := 6) (len := 2) (by decide) (Or.inl ⟨dL_act_318, rfl⟩) ?_
      change am_W Z _ _ 320 [.ref (3), .int (nI 8), .int (A), .int (B), .int (C), .int (E), .null] [] _
      refine am_bipush (v := -71) hC dL_act_320 (by decide) ?_
      refine am_iret hC hR rfl (by decide) (by decide) dL_act_322 ?_
      exact z_ec' hK (by decide) rfl hS1
    · refine am_catch hC hR [⟨0, 317, 318, 13⟩] ⟨0, 317, 323, 15⟩ [⟨0, 317, 328, 17⟩] rfl (fun z hz => by obtain rfl := List.mem_singleton.mp hz; exact ⟨"java/lang/IndexOutOfBoundsException", by decide, tw_439, by decide⟩) (by decide) (by decide) tw_440 tw_315 (i := 6) (len := 2) (by decide) (Or.inl ⟨dL_act_323, rfl⟩) ?_
      change am_W Z _ _ 325 [.ref (3), .int (nI 8), .int (A), .int (B), .int (C), .int (E), .null] [] _
      refine am_bipush (v := -72) hC dL_act_325 (by decide) ?_
      refine am_iret hC hR rfl (by decide) (by decide) dL_act_327 ?_
      exact z_ec' hK (by decide) rfl hS1
    · refine am_catch hC hR [⟨0, 317, 318, 13⟩, ⟨0, 317, 323, 15⟩] ⟨0, 317, 328, 17⟩ [] rfl (fun z hz => by rcases List.mem_cons.mp hz with rfl | hz; exact ⟨"java/lang/IndexOutOfBoundsException", by decide, tw_439, by decide⟩; obtain rfl := List.mem_singleton.mp hz; exact ⟨"java/lang/IllegalArgumentException", by decide, tw_440, by decide⟩) (by decide) (by decide) tw_441 tw_117 (i := 6) (len := 2) (by decide) (Or.inl ⟨dL_act_328, rfl⟩) ?_
      change am_W Z _ _ 330 [.ref (3), .int (nI 8), .int (A), .int (B), .int (C), .int (E), .null] [] _
      refine am_bipush (v := -73) hC dL_act_330 (by decide) ?_
      refine am_iret hC hR rfl (by decide) (by decide) dL_act_332 ?_
      exact z_ec' hK (by decide) rfl hS1
  refine am_callV hC (ci := 6) (N := 4) [.int (A), .int (B)] rfl (SZ_3 hS) rfl mf_X5_size tw_414 (d_size _ _ (am_tr hC) h hS A B) rfl ⟨rfl, Nat.le_of_ble_eq_true rfl⟩ ⟨by decide, by decide⟩ (by decide) (by decide) dL_act_173 rfl hx (fun v h1 hp hlc => ?_)
  obtain ⟨hK, hS1, x, rfl, -⟩ := hp
  refine am_goto (tgt := 317) hC dL_act_176 (by decide) ?_
  refine am_iret hC hR rfl (by decide) (by decide) dL_act_317 ?_
  exact z_e0 hK hS1
set_option maxRecDepth 100000 in
set_option maxHeartbeats 4000000 in
theorem c_act9 (G : am_G) (l : Launch) (htr : l.stackTraces = false) (h : am_H) {σ : z_Sg} (hS : SZ h σ) (A : Int32) (B : Int32) (C : Int32) (E : Int32) : am_Met G l yL_act (.codeWith yL_act cL_act 7 (some .int) [((0 : Nat), (317 : Nat), (318 : Nat), (13 : Nat)), ((0 : Nat), (317 : Nat), (323 : Nat), (15 : Nat)), ((0 : Nat), (317 : Nat), (328 : Nat), (17 : Nat))]) 13 10 190 [.ref (3), .int (nI 9), .int (A), .int (B), .int (C), .int (E)] h (fun v h' => ∃ x, v = some (.int (z_an (z_kC σ A B) x)) ∧ SZ h' σ) (am_no) := by
  refine am_introW rfl htr rfl (Nat.le_of_ble_eq_true rfl) (fun Z hC hR hI => ?_)
  change am_W Z 0 0 0 [.ref (3), .int (nI 9), .int (A), .int (B), .int (C), .int (E), .null] [] h
  refine am_iload_n hC dL_act_0 rfl ?_
  refine am_if_ne (tgt := 11) hC dL_act_1 (by decide) (fun c_1 => ?_) (fun c_1 => absurd c_1 (by decide))
  refine am_iload_n hC dL_act_11 rfl ?_
  refine am_iconst (v := nI 1) hC dL_act_12 (by decide) ?_
  refine am_icmp_ne (tgt := 29) hC dL_act_13 (by decide) (fun c_13 => ?_) (fun c_13 => absurd c_13 (by decide))
  refine am_iload_n hC dL_act_29 rfl ?_
  refine am_iconst (v := nI 2) hC dL_act_30 (by decide) ?_
  refine am_icmp_ne (tgt := 64) hC dL_act_31 (by decide) (fun c_31 => ?_) (fun c_31 => absurd c_31 (by decide))
  refine am_iload_n hC dL_act_64 rfl ?_
  refine am_iconst (v := nI 3) hC dL_act_65 (by decide) ?_
  refine am_icmp_ne (tgt := 99) hC dL_act_66 (by decide) (fun c_66 => ?_) (fun c_66 => absurd c_66 (by decide))
  refine am_iload_n hC dL_act_99 rfl ?_
  refine am_iconst (v := nI 4) hC dL_act_100 (by decide) ?_
  refine am_icmp_ne (tgt := 113) hC dL_act_101 (by decide) (fun c_101 => ?_) (fun c_101 => absurd c_101 (by decide))
  refine am_iload_n hC dL_act_113 rfl ?_
  refine am_iconst (v := nI 5) hC dL_act_114 (by decide) ?_
  refine am_icmp_ne (tgt := 135) hC dL_act_115 (by decide) (fun c_115 => ?_) (fun c_115 => absurd c_115 (by decide))
  refine am_iload_n hC dL_act_135 rfl ?_
  refine am_bipush (v := nI 6) hC dL_act_136 (by decide) ?_
  refine am_icmp_ne (tgt := 149) hC dL_act_138 (by decide) (fun c_138 => ?_) (fun c_138 => absurd c_138 (by decide))
  refine am_iload_n hC dL_act_149 rfl ?_
  refine am_bipush (v := nI 7) hC dL_act_150 (by decide) ?_
  refine am_icmp_ne (tgt := 164) hC dL_act_152 (by decide) (fun c_152 => ?_) (fun c_152 => absurd c_152 (by decide))
  refine am_iload_n hC dL_act_164 rfl ?_
  refine am_bipush (v := nI 8) hC dL_act_165 (by decide) ?_
  refine am_icmp_ne (tgt := 179) hC dL_act_167 (by decide) (fun c_167 => ?_) (fun c_167 => absurd c_167 (by decide))
  refine am_iload_n hC dL_act_179 rfl ?_
  refine am_bipush (v := nI 9) hC dL_act_180 (by decide) ?_
  refine am_icmp_ne (tgt := 194) hC dL_act_182 (by decide) (fun c_182 => absurd (by decide) c_182) (fun c_182 => ?_)
  refine am_aload_n hC dL_act_185 rfl ?_
  refine am_iload_n hC dL_act_186 rfl ?_
  refine am_iload_n hC dL_act_187 rfl ?_
  have hx : ∀ (X : String) (h1 : am_H), (SZ h1 σ ∧ XN X (z_kC σ A B)) → am_le h h1 → am_WX Z (0 + 8) (0 + 48) 188 [.ref (3), .int (nI 9), .int (A), .int (B), .int (C), .int (E), .null] [] h1 X := by
    intro X h1 hE hle
    obtain ⟨hS1, hX⟩ := hE
    rcases hX with ⟨hK, rfl⟩ | ⟨hK, rfl⟩ | ⟨hK, rfl⟩
    · refine am_catch hC hR [] ⟨0, 317, 318, 13⟩ [⟨0, 317, 323, 15⟩, ⟨0, 317, 328, 17⟩] rfl (fun z hz => nomatch hz) (by decide) (by decide) tw_439 tw_282 (i := 6) (len := 2) (by decide) (Or.inl ⟨dL_act_318, rfl⟩) ?_
      change am_W Z _ _ 320 [.ref (3), .int (nI 9), .int (A), .int (B), .int (C), .int (E), .null] [] _
      refine am_bipush (v := -71) hC dL_act_320 (by decide) ?_
      refine am_iret hC hR rfl (by decide) (by decide) dL_act_322 ?_
      exact z_ec' hK (by decide) rfl hS1
    · refine am_catch hC hR [⟨0, 317, 318, 13⟩] ⟨0, 317, 323, 15⟩ [⟨0, 317, 328, 17⟩] rfl (fun z hz => by obtain rfl := List.mem_singleton.mp hz; exact ⟨"java/lang/IndexOutOfBoundsException", by decide, tw_439, by decide⟩) (by decide) (by decide) tw_440 tw_315 (i := 6) (len := 2) (by decide) (Or.inl ⟨dL_act_323, rfl⟩) ?_
      change am_W Z _ _ 325 [.ref (3), .int (nI 9), .int (A), .int (B), .int (C), .int (E), .null] [] _
      refine am_bipush (v := -72) hC dL_act_325 (by decide) ?_
      refine am_iret hC hR rfl (by decide) (by decide) dL_act_327 ?_
      exact z_ec' hK (by decide) rfl hS1
    · refine am_catch hC hR [⟨0, 317, 318, 13⟩, ⟨0, 317, 323, 15⟩] ⟨0, 317, 328, 17⟩ [] rfl (fun z hz => by rcases List.mem_cons.mp hz with rfl | hz; exact ⟨"java/lang/IndexOutOfBoundsException", by decide, tw_439, by decide⟩; obtain rfl := List.mem_singleton.mp hz; exact ⟨"java/lang/IllegalArgumentException", by decide, tw_440, by decide⟩) (by decide) (by decide) tw_441 tw_117 (i := 6) (len := 2) (by decide) (Or.inl ⟨dL_act_328, rfl⟩) ?_
      change am_W Z _ _ 330 [.ref (3), .int (nI 9), .int (A), .int (B), .int (C), .int (E), .null] [] _
      refine am_bipush (v := -73) hC dL_act_330 (by decide) ?_
      refine am_iret hC hR rfl (by decide) (by decide) dL_act_332 ?_
      exact z_ec' hK (by decide) rfl hS1
  refine am_callV hC (ci := 6) (N := 4) [.int (A), .int (B)] rfl (SZ_3 hS) rfl mf_X5_doorsOut tw_422 (d_doorsOut _ _ (am_tr hC) h hS A B) rfl ⟨rfl, Nat.le_of_ble_eq_true rfl⟩ ⟨by decide, by decide⟩ (by decide) (by decide) dL_act_188 rfl hx (fun v h1 hp hlc => ?_)
  obtain ⟨hK, hS1, x, rfl, -⟩ := hp
  refine am_goto (tgt := 317) hC dL_act_191 (by decide) ?_
  refine am_iret hC hR rfl (by decide) (by decide) dL_act_317 ?_
  exact z_e0 hK hS1
set_option maxRecDepth 100000 in
set_option maxHeartbeats 4000000 in
theorem c_act10 (G : am_G) (l : Launch) (htr : l.stackTraces = false) (h : am_H) {σ : z_Sg} (hS : SZ h σ) (A : Int32) (B : Int32) (C : Int32) (E : Int32) : am_Met G l yL_act (.codeWith yL_act cL_act 7 (some .int) [((0 : Nat), (317 : Nat), (318 : Nat), (13 : Nat)), ((0 : Nat), (317 : Nat), (323 : Nat), (15 : Nat)), ((0 : Nat), (317 : Nat), (328 : Nat), (17 : Nat))]) 13 10 190 [.ref (3), .int (nI 10), .int (A), .int (B), .int (C), .int (E)] h (fun v h' => ∃ x, v = some (.int (z_an (z_kC σ A B) x)) ∧ SZ h' σ) (am_no) := by
  refine am_introW rfl htr rfl (Nat.le_of_ble_eq_true rfl) (fun Z hC hR hI => ?_)
  change am_W Z 0 0 0 [.ref (3), .int (nI 10), .int (A), .int (B), .int (C), .int (E), .null] [] h
  refine am_iload_n hC dL_act_0 rfl ?_
  refine am_if_ne (tgt := 11) hC dL_act_1 (by decide) (fun c_1 => ?_) (fun c_1 => absurd c_1 (by decide))
  refine am_iload_n hC dL_act_11 rfl ?_
  refine am_iconst (v := nI 1) hC dL_act_12 (by decide) ?_
  refine am_icmp_ne (tgt := 29) hC dL_act_13 (by decide) (fun c_13 => ?_) (fun c_13 => absurd c_13 (by decide))
  refine am_iload_n hC dL_act_29 rfl ?_
  refine am_iconst (v := nI 2) hC dL_act_30 (by decide) ?_
  refine am_icmp_ne (tgt := 64) hC dL_act_31 (by decide) (fun c_31 => ?_) (fun c_31 => absurd c_31 (by decide))
  refine am_iload_n hC dL_act_64 rfl ?_
  refine am_iconst (v := nI 3) hC dL_act_65 (by decide) ?_
  refine am_icmp_ne (tgt := 99) hC dL_act_66 (by decide) (fun c_66 => ?_) (fun c_66 => absurd c_66 (by decide))
  refine am_iload_n hC dL_act_99 rfl ?_
  refine am_iconst (v := nI 4) hC dL_act_100 (by decide) ?_
  refine am_icmp_ne (tgt := 113) hC dL_act_101 (by decide) (fun c_101 => ?_) (fun c_101 => absurd c_101 (by decide))
  refine am_iload_n hC dL_act_113 rfl ?_
  refine am_iconst (v := nI 5) hC dL_act_114 (by decide) ?_
  refine am_icmp_ne (tgt := 135) hC dL_act_115 (by decide) (fun c_115 => ?_) (fun c_115 => absurd c_115 (by decide))
  refine am_iload_n hC dL_act_135 rfl ?_
  refine am_bipush (v := nI 6) hC dL_act_136 (by decide) ?_
  refine am_icmp_ne (tgt := 149) hC dL_act_138 (by decide) (fun c_138 => ?_) (fun c_138 => absurd c_138 (by decide))
  refine am_iload_n hC dL_act_149 rfl ?_
  refine am_bipush (v := nI 7) hC dL_act_150 (by decide) ?_
  refine am_icmp_ne (tgt := 164) hC dL_act_152 (by decide) (fun c_152 => ?_) (fun c_152 => absurd c_152 (by decide))
  refine am_iload_n hC dL_act_164 rfl ?_
  refine am_bipush (v := nI 8) hC dL_act_165 (by decide) ?_
  refine am_icmp_ne (tgt := 179) hC dL_act_167 (by decide) (fun c_167 => ?_) (fun c_167 => absurd c_167 (by decide))
  refine am_iload_n hC dL_act_179 rfl ?_
  refine am_bipush (v := nI 9) hC dL_act_180 (by decide) ?_
  refine am_icmp_ne (tgt := 194) hC dL_act_182 (by decide) (fun c_182 => ?_) (fun c_182 => absurd c_182 (by decide))
  refine am_iload_n hC dL_act_194 rfl ?_
  refine am_bipush (v := nI 10) hC dL_act_195 (by decide) ?_
  refine am_icmp_ne (tgt := 209) hC dL_act_197 (by decide) (fun c_197 => absurd (by decide) c_197) (fun c_197 => ?_)
  refine am_aload_n hC dL_act_200 rfl ?_
  refine am_iload_n hC dL_act_201 rfl ?_
  refine am_iload_n hC dL_act_202 rfl ?_
  have hx : ∀ (X : String) (h1 : am_H), (SZ h1 σ ∧ XN X (z_kC σ A B)) → am_le h h1 → am_WX Z (0 + 8) (0 + 48) 203 [.ref (3), .int (nI 10), .int (A), .int (B), .int (C), .int (E), .null] [] h1 X := by
    intro X h1 hE hle
    obtain ⟨hS1, hX⟩ := hE
    rcases hX with ⟨hK, rfl⟩ | ⟨hK, rfl⟩ | ⟨hK, rfl⟩
    · refine am_catch hC hR [] ⟨0, 317, 318, 13⟩ [⟨0, 317, 323, 15⟩, ⟨0, 317, 328, 17⟩] rfl (fun z hz => nomatch hz) (by decide) (by decide) tw_439 tw_282 (i := 6) (len := 2) (by decide) (Or.inl ⟨dL_act_318, rfl⟩) ?_
      change am_W Z _ _ 320 [.ref (3), .int (nI 10), .int (A), .int (B), .int (C), .int (E), .null] [] _
      refine am_bipush (v := -71) hC dL_act_320 (by decide) ?_
      refine am_iret hC hR rfl (by decide) (by decide) dL_act_322 ?_
      exact z_ec' hK (by decide) rfl hS1
    · refine am_catch hC hR [⟨0, 317, 318, 13⟩] ⟨0, 317, 323, 15⟩ [⟨0, 317, 328, 17⟩] rfl (fun z hz => by obtain rfl := List.mem_singleton.mp hz; exact ⟨"java/lang/IndexOutOfBoundsException", by decide, tw_439, by decide⟩) (by decide) (by decide) tw_440 tw_315 (i := 6) (len := 2) (by decide) (Or.inl ⟨dL_act_323, rfl⟩) ?_
      change am_W Z _ _ 325 [.ref (3), .int (nI 10), .int (A), .int (B), .int (C), .int (E), .null] [] _
      refine am_bipush (v := -72) hC dL_act_325 (by decide) ?_
      refine am_iret hC hR rfl (by decide) (by decide) dL_act_327 ?_
      exact z_ec' hK (by decide) rfl hS1
    · refine am_catch hC hR [⟨0, 317, 318, 13⟩, ⟨0, 317, 323, 15⟩] ⟨0, 317, 328, 17⟩ [] rfl (fun z hz => by rcases List.mem_cons.mp hz with rfl | hz; exact ⟨"java/lang/IndexOutOfBoundsException", by decide, tw_439, by decide⟩; obtain rfl := List.mem_singleton.mp hz; exact ⟨"java/lang/IllegalArgumentException", by decide, tw_440, by decide⟩) (by decide) (by decide) tw_441 tw_117 (i := 6) (len := 2) (by decide) (Or.inl ⟨dL_act_328, rfl⟩) ?_
      change am_W Z _ _ 330 [.ref (3), .int (nI 10), .int (A), .int (B), .int (C), .int (E), .null] [] _
      refine am_bipush (v := -73) hC dL_act_330 (by decide) ?_
      refine am_iret hC hR rfl (by decide) (by decide) dL_act_332 ?_
      exact z_ec' hK (by decide) rfl hS1
  refine am_callV hC (ci := 6) (N := 4) [.int (A), .int (B)] rfl (SZ_3 hS) rfl mf_X5_doorThatHelps tw_471 (d_doorThatHelps _ _ (am_tr hC) h hS A B) rfl ⟨rfl, Nat.le_of_ble_eq_true rfl⟩ ⟨by decide, by decide⟩ (by decide) (by decide) dL_act_203 rfl hx (fun v h1 hp hlc => ?_)
  obtain ⟨hK, hS1, x, rfl, -⟩ := hp
  refine am_goto (tgt := 317) hC dL_act_206 (by decide) ?_
  refine am_iret hC hR rfl (by decide) (by decide) dL_act_317 ?_
  exact z_e0 hK hS1
set_option maxRecDepth 100000 in
set_option maxHeartbeats 4000000 in
theorem c_act11 (G : am_G) (l : Launch) (htr : l.stackTraces = false) (h : am_H) {σ : z_Sg} (hS : SZ h σ) (A : Int32) (B : Int32) (C : Int32) (E : Int32) : am_Met G l yL_act (.codeWith yL_act cL_act 7 (some .int) [((0 : Nat), (317 : Nat), (318 : Nat), (13 : Nat)), ((0 : Nat), (317 : Nat), (323 : Nat), (15 : Nat)), ((0 : Nat), (317 : Nat), (328 : Nat), (17 : Nat))]) 13 10 190 [.ref (3), .int (nI 11), .int (A), .int (B), .int (C), .int (E)] h (fun v h' => v = some (.int (z_an (z_kD σ A B C) (z_B σ (dn A)))) ∧ SZ h' (z_as (z_kD σ A B C) σ (z_uB σ (dn A) C))) (am_no) := by
  refine am_introW rfl htr rfl (Nat.le_of_ble_eq_true rfl) (fun Z hC hR hI => ?_)
  change am_W Z 0 0 0 [.ref (3), .int (nI 11), .int (A), .int (B), .int (C), .int (E), .null] [] h
  refine am_iload_n hC dL_act_0 rfl ?_
  refine am_if_ne (tgt := 11) hC dL_act_1 (by decide) (fun c_1 => ?_) (fun c_1 => absurd c_1 (by decide))
  refine am_iload_n hC dL_act_11 rfl ?_
  refine am_iconst (v := nI 1) hC dL_act_12 (by decide) ?_
  refine am_icmp_ne (tgt := 29) hC dL_act_13 (by decide) (fun c_13 => ?_) (fun c_13 => absurd c_13 (by decide))
  refine am_iload_n hC dL_act_29 rfl ?_
  refine am_iconst (v := nI 2) hC dL_act_30 (by decide) ?_
  refine am_icmp_ne (tgt := 64) hC dL_act_31 (by decide) (fun c_31 => ?_) (fun c_31 => absurd c_31 (by decide))
  refine am_iload_n hC dL_act_64 rfl ?_
  refine am_iconst (v := nI 3) hC dL_act_65 (by decide) ?_
  refine am_icmp_ne (tgt := 99) hC dL_act_66 (by decide) (fun c_66 => ?_) (fun c_66 => absurd c_66 (by decide))
  refine am_iload_n hC dL_act_99 rfl ?_
  refine am_iconst (v := nI 4) hC dL_act_100 (by decide) ?_
  refine am_icmp_ne (tgt := 113) hC dL_act_101 (by decide) (fun c_101 => ?_) (fun c_101 => absurd c_101 (by decide))
  refine am_iload_n hC dL_act_113 rfl ?_
  refine am_iconst (v := nI 5) hC dL_act_114 (by decide) ?_
  refine am_icmp_ne (tgt := 135) hC dL_act_115 (by decide) (fun c_115 => ?_) (fun c_115 => absurd c_115 (by decide))
  refine am_iload_n hC dL_act_135 rfl ?_
  refine am_bipush (v := nI 6) hC dL_act_136 (by decide) ?_
  refine am_icmp_ne (tgt := 149) hC dL_act_138 (by decide) (fun c_138 => ?_) (fun c_138 => absurd c_138 (by decide))
  refine am_iload_n hC dL_act_149 rfl ?_
  refine am_bipush (v := nI 7) hC dL_act_150 (by decide) ?_
  refine am_icmp_ne (tgt := 164) hC dL_act_152 (by decide) (fun c_152 => ?_) (fun c_152 => absurd c_152 (by decide))
  refine am_iload_n hC dL_act_164 rfl ?_
  refine am_bipush (v := nI 8) hC dL_act_165 (by decide) ?_
  refine am_icmp_ne (tgt := 179) hC dL_act_167 (by decide) (fun c_167 => ?_) (fun c_167 => absurd c_167 (by decide))
  refine am_iload_n hC dL_act_179 rfl ?_
  refine am_bipush (v := nI 9) hC dL_act_180 (by decide) ?_
  refine am_icmp_ne (tgt := 194) hC dL_act_182 (by decide) (fun c_182 => ?_) (fun c_182 => absurd c_182 (by decide))
  refine am_iload_n hC dL_act_194 rfl ?_
  refine am_bipush (v := nI 10) hC dL_act_195 (by decide) ?_
  refine am_icmp_ne (tgt := 209) hC dL_act_197 (by decide) (fun c_197 => ?_) (fun c_197 => absurd c_197 (by decide))
  refine am_iload_n hC dL_act_209 rfl ?_
  refine am_bipush (v := nI 11) hC dL_act_210 (by decide) ?_
  refine am_icmp_ne (tgt := 226) hC dL_act_212 (by decide) (fun c_212 => absurd (by decide) c_212) (fun c_212 => ?_)
  refine am_aload_n hC dL_act_215 rfl ?_
  refine am_iload_n hC dL_act_216 rfl ?_
  refine am_iload_n hC dL_act_217 rfl ?_
  refine am_iload hC dL_act_218 rfl ?_
  have hx : ∀ (X : String) (h1 : am_H), (SZ h1 σ ∧ XN X (z_kD σ A B C)) → am_le h h1 → am_WX Z (0 + 8) (0 + 48) 220 [.ref (3), .int (nI 11), .int (A), .int (B), .int (C), .int (E), .null] [] h1 X := by
    intro X h1 hE hle
    obtain ⟨hS1, hX⟩ := hE
    rcases hX with ⟨hK, rfl⟩ | ⟨hK, rfl⟩ | ⟨hK, rfl⟩
    · refine am_catch hC hR [] ⟨0, 317, 318, 13⟩ [⟨0, 317, 323, 15⟩, ⟨0, 317, 328, 17⟩] rfl (fun z hz => nomatch hz) (by decide) (by decide) tw_439 tw_282 (i := 6) (len := 2) (by decide) (Or.inl ⟨dL_act_318, rfl⟩) ?_
      change am_W Z _ _ 320 [.ref (3), .int (nI 11), .int (A), .int (B), .int (C), .int (E), .null] [] _
      refine am_bipush (v := -71) hC dL_act_320 (by decide) ?_
      refine am_iret hC hR rfl (by decide) (by decide) dL_act_322 ?_
      exact z_ac hK (by decide) rfl hS1
    · refine am_catch hC hR [⟨0, 317, 318, 13⟩] ⟨0, 317, 323, 15⟩ [⟨0, 317, 328, 17⟩] rfl (fun z hz => by obtain rfl := List.mem_singleton.mp hz; exact ⟨"java/lang/IndexOutOfBoundsException", by decide, tw_439, by decide⟩) (by decide) (by decide) tw_440 tw_315 (i := 6) (len := 2) (by decide) (Or.inl ⟨dL_act_323, rfl⟩) ?_
      change am_W Z _ _ 325 [.ref (3), .int (nI 11), .int (A), .int (B), .int (C), .int (E), .null] [] _
      refine am_bipush (v := -72) hC dL_act_325 (by decide) ?_
      refine am_iret hC hR rfl (by decide) (by decide) dL_act_327 ?_
      exact z_ac hK (by decide) rfl hS1
    · refine am_catch hC hR [⟨0, 317, 318, 13⟩, ⟨0, 317, 323, 15⟩] ⟨0, 317, 328, 17⟩ [] rfl (fun z hz => by rcases List.mem_cons.mp hz with rfl | hz; exact ⟨"java/lang/IndexOutOfBoundsException", by decide, tw_439, by decide⟩; obtain rfl := List.mem_singleton.mp hz; exact ⟨"java/lang/IllegalArgumentException", by decide, tw_440, by decide⟩) (by decide) (by decide) tw_441 tw_117 (i := 6) (len := 2) (by decide) (Or.inl ⟨dL_act_328, rfl⟩) ?_
      change am_W Z _ _ 330 [.ref (3), .int (nI 11), .int (A), .int (B), .int (C), .int (E), .null] [] _
      refine am_bipush (v := -73) hC dL_act_330 (by decide) ?_
      refine am_iret hC hR rfl (by decide) (by decide) dL_act_332 ?_
      exact z_ac hK (by decide) rfl hS1
  refine am_callV hC (ci := 6) (N := 4) [.int (A), .int (B), .int (C)] rfl (SZ_3 hS) rfl mf_X5_lend tw_483 (d_lend _ _ (am_tr hC) h hS A B C) rfl ⟨rfl, Nat.le_of_ble_eq_true rfl⟩ ⟨by decide, by decide⟩ (by decide) (by decide) dL_act_220 rfl hx (fun v h1 hp hlc => ?_)
  obtain ⟨hK, rfl, hS1⟩ := hp
  refine am_goto (tgt := 317) hC dL_act_223 (by decide) ?_
  refine am_iret hC hR rfl (by decide) (by decide) dL_act_317 ?_
  exact z_a0 hK rfl hS1
set_option maxRecDepth 100000 in
set_option maxHeartbeats 4000000 in
theorem c_act12 (G : am_G) (l : Launch) (htr : l.stackTraces = false) (h : am_H) {σ : z_Sg} (hS : SZ h σ) (A : Int32) (B : Int32) (C : Int32) (E : Int32) : am_Met G l yL_act (.codeWith yL_act cL_act 7 (some .int) [((0 : Nat), (317 : Nat), (318 : Nat), (13 : Nat)), ((0 : Nat), (317 : Nat), (323 : Nat), (15 : Nat)), ((0 : Nat), (317 : Nat), (328 : Nat), (17 : Nat))]) 13 10 190 [.ref (3), .int (nI 12), .int (A), .int (B), .int (C), .int (E)] h (fun v h' => v = some (.int (z_an (z_kN σ A) (z_ch σ (dn A)))) ∧ SZ h' (z_as (z_kN σ A) σ (σ))) (am_no) := by
  refine am_introW rfl htr rfl (Nat.le_of_ble_eq_true rfl) (fun Z hC hR hI => ?_)
  change am_W Z 0 0 0 [.ref (3), .int (nI 12), .int (A), .int (B), .int (C), .int (E), .null] [] h
  refine am_iload_n hC dL_act_0 rfl ?_
  refine am_if_ne (tgt := 11) hC dL_act_1 (by decide) (fun c_1 => ?_) (fun c_1 => absurd c_1 (by decide))
  refine am_iload_n hC dL_act_11 rfl ?_
  refine am_iconst (v := nI 1) hC dL_act_12 (by decide) ?_
  refine am_icmp_ne (tgt := 29) hC dL_act_13 (by decide) (fun c_13 => ?_) (fun c_13 => absurd c_13 (by decide))
  refine am_iload_n hC dL_act_29 rfl ?_
  refine am_iconst (v := nI 2) hC dL_act_30 (by decide) ?_
  refine am_icmp_ne (tgt := 64) hC dL_act_31 (by decide) (fun c_31 => ?_) (fun c_31 => absurd c_31 (by decide))
  refine am_iload_n hC dL_act_64 rfl ?_
  refine am_iconst (v := nI 3) hC dL_act_65 (by decide) ?_
  refine am_icmp_ne (tgt := 99) hC dL_act_66 (by decide) (fun c_66 => ?_) (fun c_66 => absurd c_66 (by decide))
  refine am_iload_n hC dL_act_99 rfl ?_
  refine am_iconst (v := nI 4) hC dL_act_100 (by decide) ?_
  refine am_icmp_ne (tgt := 113) hC dL_act_101 (by decide) (fun c_101 => ?_) (fun c_101 => absurd c_101 (by decide))
  refine am_iload_n hC dL_act_113 rfl ?_
  refine am_iconst (v := nI 5) hC dL_act_114 (by decide) ?_
  refine am_icmp_ne (tgt := 135) hC dL_act_115 (by decide) (fun c_115 => ?_) (fun c_115 => absurd c_115 (by decide))
  refine am_iload_n hC dL_act_135 rfl ?_
  refine am_bipush (v := nI 6) hC dL_act_136 (by decide) ?_
  refine am_icmp_ne (tgt := 149) hC dL_act_138 (by decide) (fun c_138 => ?_) (fun c_138 => absurd c_138 (by decide))
  refine am_iload_n hC dL_act_149 rfl ?_
  refine am_bipush (v := nI 7) hC dL_act_150 (by decide) ?_
  refine am_icmp_ne (tgt := 164) hC dL_act_152 (by decide) (fun c_152 => ?_) (fun c_152 => absurd c_152 (by decide))
  refine am_iload_n hC dL_act_164 rfl ?_
  refine am_bipush (v := nI 8) hC dL_act_165 (by decide) ?_
  refine am_icmp_ne (tgt := 179) hC dL_act_167 (by decide) (fun c_167 => ?_) (fun c_167 => absurd c_167 (by decide))
  refine am_iload_n hC dL_act_179 rfl ?_
  refine am_bipush (v := nI 9) hC dL_act_180 (by decide) ?_
  refine am_icmp_ne (tgt := 194) hC dL_act_182 (by decide) (fun c_182 => ?_) (fun c_182 => absurd c_182 (by decide))
  refine am_iload_n hC dL_act_194 rfl ?_
  refine am_bipush (v := nI 10) hC dL_act_195 (by decide) ?_
  refine am_icmp_ne (tgt := 209) hC dL_act_197 (by decide) (fun c_197 => ?_) (fun c_197 => absurd c_197 (by decide))
  refine am_iload_n hC dL_act_209 rfl ?_
  refine am_bipush (v := nI 11) hC dL_act_210 (by decide) ?_
  refine am_icmp_ne (tgt := 226) hC dL_act_212 (by decide) (fun c_212 => ?_) (fun c_212 => absurd c_212 (by decide))
  refine am_iload_n hC dL_act_226 rfl ?_
  refine am_bipush (v := nI 12) hC dL_act_227 (by decide) ?_
  refine am_icmp_ne (tgt := 240) hC dL_act_229 (by decide) (fun c_229 => absurd (by decide) c_229) (fun c_229 => ?_)
  refine am_aload_n hC dL_act_232 rfl ?_
  refine am_iload_n hC dL_act_233 rfl ?_
  have hx : ∀ (X : String) (h1 : am_H), (SZ h1 σ ∧ XN X (z_kN σ A)) → am_le h h1 → am_WX Z (0 + 8) (0 + 48) 234 [.ref (3), .int (nI 12), .int (A), .int (B), .int (C), .int (E), .null] [] h1 X := by
    intro X h1 hE hle
    obtain ⟨hS1, hX⟩ := hE
    rcases hX with ⟨hK, rfl⟩ | ⟨hK, rfl⟩ | ⟨hK, rfl⟩
    · refine am_catch hC hR [] ⟨0, 317, 318, 13⟩ [⟨0, 317, 323, 15⟩, ⟨0, 317, 328, 17⟩] rfl (fun z hz => nomatch hz) (by decide) (by decide) tw_439 tw_282 (i := 6) (len := 2) (by decide) (Or.inl ⟨dL_act_318, rfl⟩) ?_
      change am_W Z _ _ 320 [.ref (3), .int (nI 12), .int (A), .int (B), .int (C), .int (E), .null] [] _
      refine am_bipush (v := -71) hC dL_act_320 (by decide) ?_
      refine am_iret hC hR rfl (by decide) (by decide) dL_act_322 ?_
      exact z_ac hK (by decide) rfl hS1
    · refine am_catch hC hR [⟨0, 317, 318, 13⟩] ⟨0, 317, 323, 15⟩ [⟨0, 317, 328, 17⟩] rfl (fun z hz => by obtain rfl := List.mem_singleton.mp hz; exact ⟨"java/lang/IndexOutOfBoundsException", by decide, tw_439, by decide⟩) (by decide) (by decide) tw_440 tw_315 (i := 6) (len := 2) (by decide) (Or.inl ⟨dL_act_323, rfl⟩) ?_
      change am_W Z _ _ 325 [.ref (3), .int (nI 12), .int (A), .int (B), .int (C), .int (E), .null] [] _
      refine am_bipush (v := -72) hC dL_act_325 (by decide) ?_
      refine am_iret hC hR rfl (by decide) (by decide) dL_act_327 ?_
      exact z_ac hK (by decide) rfl hS1
    · refine am_catch hC hR [⟨0, 317, 318, 13⟩, ⟨0, 317, 323, 15⟩] ⟨0, 317, 328, 17⟩ [] rfl (fun z hz => by rcases List.mem_cons.mp hz with rfl | hz; exact ⟨"java/lang/IndexOutOfBoundsException", by decide, tw_439, by decide⟩; obtain rfl := List.mem_singleton.mp hz; exact ⟨"java/lang/IllegalArgumentException", by decide, tw_440, by decide⟩) (by decide) (by decide) tw_441 tw_117 (i := 6) (len := 2) (by decide) (Or.inl ⟨dL_act_328, rfl⟩) ?_
      change am_W Z _ _ 330 [.ref (3), .int (nI 12), .int (A), .int (B), .int (C), .int (E), .null] [] _
      refine am_bipush (v := -73) hC dL_act_330 (by decide) ?_
      refine am_iret hC hR rfl (by decide) (by decide) dL_act_332 ?_
      exact z_ac hK (by decide) rfl hS1
  refine am_callV hC (ci := 6) (N := 4) [.int (A)] rfl (SZ_3 hS) rfl mf_X5_canChange tw_492 (d_canChange _ _ (am_tr hC) h hS A) rfl ⟨rfl, Nat.le_of_ble_eq_true rfl⟩ ⟨by decide, by decide⟩ (by decide) (by decide) dL_act_234 rfl hx (fun v h1 hp hlc => ?_)
  obtain ⟨hK, rfl, hS1⟩ := hp
  refine am_goto (tgt := 317) hC dL_act_237 (by decide) ?_
  refine am_iret hC hR rfl (by decide) (by decide) dL_act_317 ?_
  exact z_a0 hK rfl hS1
set_option maxRecDepth 100000 in
set_option maxHeartbeats 4000000 in
theorem c_act13 (G : am_G) (l : Launch) (htr : l.stackTraces = false) (h : am_H) {σ : z_Sg} (hS : SZ h σ) (A : Int32) (B : Int32) (C : Int32) (E : Int32) (R : Bool) (hW : IX (z_n σ) A = true → VW (z_sdS σ (dn A)) (z_exS σ (dn A)) R) : am_Met G l yL_act (.codeWith yL_act cL_act 7 (some .int) [((0 : Nat), (317 : Nat), (318 : Nat), (13 : Nat)), ((0 : Nat), (317 : Nat), (323 : Nat), (15 : Nat)), ((0 : Nat), (317 : Nat), (328 : Nat), (17 : Nat))]) 13 10 190 [.ref (3), .int (nI 13), .int (A), .int (B), .int (C), .int (E)] h (fun v h' => v = some (.int (z_an (z_kG σ A R) (nI (z_np σ)))) ∧ SZ h' (z_as (z_kG σ A R) σ (z_grant σ (dn A)))) (am_no) := by
  refine am_introW rfl htr rfl (Nat.le_of_ble_eq_true rfl) (fun Z hC hR hI => ?_)
  change am_W Z 0 0 0 [.ref (3), .int (nI 13), .int (A), .int (B), .int (C), .int (E), .null] [] h
  refine am_iload_n hC dL_act_0 rfl ?_
  refine am_if_ne (tgt := 11) hC dL_act_1 (by decide) (fun c_1 => ?_) (fun c_1 => absurd c_1 (by decide))
  refine am_iload_n hC dL_act_11 rfl ?_
  refine am_iconst (v := nI 1) hC dL_act_12 (by decide) ?_
  refine am_icmp_ne (tgt := 29) hC dL_act_13 (by decide) (fun c_13 => ?_) (fun c_13 => absurd c_13 (by decide))
  refine am_iload_n hC dL_act_29 rfl ?_
  refine am_iconst (v := nI 2) hC dL_act_30 (by decide) ?_
  refine am_icmp_ne (tgt := 64) hC dL_act_31 (by decide) (fun c_31 => ?_) (fun c_31 => absurd c_31 (by decide))
  refine am_iload_n hC dL_act_64 rfl ?_
  refine am_iconst (v := nI 3) hC dL_act_65 (by decide) ?_
  refine am_icmp_ne (tgt := 99) hC dL_act_66 (by decide) (fun c_66 => ?_) (fun c_66 => absurd c_66 (by decide))
  refine am_iload_n hC dL_act_99 rfl ?_
  refine am_iconst (v := nI 4) hC dL_act_100 (by decide) ?_
  refine am_icmp_ne (tgt := 113) hC dL_act_101 (by decide) (fun c_101 => ?_) (fun c_101 => absurd c_101 (by decide))
  refine am_iload_n hC dL_act_113 rfl ?_
  refine am_iconst (v := nI 5) hC dL_act_114 (by decide) ?_
  refine am_icmp_ne (tgt := 135) hC dL_act_115 (by decide) (fun c_115 => ?_) (fun c_115 => absurd c_115 (by decide))
  refine am_iload_n hC dL_act_135 rfl ?_
  refine am_bipush (v := nI 6) hC dL_act_136 (by decide) ?_
  refine am_icmp_ne (tgt := 149) hC dL_act_138 (by decide) (fun c_138 => ?_) (fun c_138 => absurd c_138 (by decide))
  refine am_iload_n hC dL_act_149 rfl ?_
  refine am_bipush (v := nI 7) hC dL_act_150 (by decide) ?_
  refine am_icmp_ne (tgt := 164) hC dL_act_152 (by decide) (fun c_152 => ?_) (fun c_152 => absurd c_152 (by decide))
  refine am_iload_n hC dL_act_164 rfl ?_
  refine am_bipush (v := nI 8) hC dL_act_165 (by decide) ?_
  refine am_icmp_ne (tgt := 179) hC dL_act_167 (by decide) (fun c_167 => ?_) (fun c_167 => absurd c_167 (by decide))
  refine am_iload_n hC dL_act_179 rfl ?_
  refine am_bipush (v := nI 9) hC dL_act_180 (by decide) ?_
  refine am_icmp_ne (tgt := 194) hC dL_act_182 (by decide) (fun c_182 => ?_) (fun c_182 => absurd c_182 (by decide))
  refine am_iload_n hC dL_act_194 rfl ?_
  refine am_bipush (v := nI 10) hC dL_act_195 (by decide) ?_
  refine am_icmp_ne (tgt := 209) hC dL_act_197 (by decide) (fun c_197 => ?_) (fun c_197 => absurd c_197 (by decide))
  refine am_iload_n hC dL_act_209 rfl ?_
  refine am_bipush (v := nI 11) hC dL_act_210 (by decide) ?_
  refine am_icmp_ne (tgt := 226) hC dL_act_212 (by decide) (fun c_212 => ?_) (fun c_212 => absurd c_212 (by decide))
  refine am_iload_n hC dL_act_226 rfl ?_
  refine am_bipush (v := nI 12) hC dL_act_227 (by decide) ?_
  refine am_icmp_ne (tgt := 240) hC dL_act_229 (by decide) (fun c_229 => ?_) (fun c_229 => absurd c_229 (by decide))
  refine am_iload_n hC dL_act_240 rfl ?_
  refine am_bipush (v := nI 13) hC dL_act_241 (by decide) ?_
  refine am_icmp_ne (tgt := 254) hC dL_act_243 (by decide) (fun c_243 => absurd (by decide) c_243) (fun c_243 => ?_)
  refine am_aload_n hC dL_act_246 rfl ?_
  refine am_iload_n hC dL_act_247 rfl ?_
  have hx : ∀ (X : String) (h1 : am_H), (SZ h1 σ ∧ XN X (z_kG σ A R)) → am_le h h1 → am_WX Z (0 + 10) (0 + 190) 248 [.ref (3), .int (nI 13), .int (A), .int (B), .int (C), .int (E), .null] [] h1 X := by
    intro X h1 hE hle
    obtain ⟨hS1, hX⟩ := hE
    rcases hX with ⟨hK, rfl⟩ | ⟨hK, rfl⟩ | ⟨hK, rfl⟩
    · refine am_catch hC hR [] ⟨0, 317, 318, 13⟩ [⟨0, 317, 323, 15⟩, ⟨0, 317, 328, 17⟩] rfl (fun z hz => nomatch hz) (by decide) (by decide) tw_439 tw_282 (i := 6) (len := 2) (by decide) (Or.inl ⟨dL_act_318, rfl⟩) ?_
      change am_W Z _ _ 320 [.ref (3), .int (nI 13), .int (A), .int (B), .int (C), .int (E), .null] [] _
      refine am_bipush (v := -71) hC dL_act_320 (by decide) ?_
      refine am_iret hC hR rfl (by decide) (by decide) dL_act_322 ?_
      exact z_ac hK (by decide) rfl hS1
    · refine am_catch hC hR [⟨0, 317, 318, 13⟩] ⟨0, 317, 323, 15⟩ [⟨0, 317, 328, 17⟩] rfl (fun z hz => by obtain rfl := List.mem_singleton.mp hz; exact ⟨"java/lang/IndexOutOfBoundsException", by decide, tw_439, by decide⟩) (by decide) (by decide) tw_440 tw_315 (i := 6) (len := 2) (by decide) (Or.inl ⟨dL_act_323, rfl⟩) ?_
      change am_W Z _ _ 325 [.ref (3), .int (nI 13), .int (A), .int (B), .int (C), .int (E), .null] [] _
      refine am_bipush (v := -72) hC dL_act_325 (by decide) ?_
      refine am_iret hC hR rfl (by decide) (by decide) dL_act_327 ?_
      exact z_ac hK (by decide) rfl hS1
    · refine am_catch hC hR [⟨0, 317, 318, 13⟩, ⟨0, 317, 323, 15⟩] ⟨0, 317, 328, 17⟩ [] rfl (fun z hz => by rcases List.mem_cons.mp hz with rfl | hz; exact ⟨"java/lang/IndexOutOfBoundsException", by decide, tw_439, by decide⟩; obtain rfl := List.mem_singleton.mp hz; exact ⟨"java/lang/IllegalArgumentException", by decide, tw_440, by decide⟩) (by decide) (by decide) tw_441 tw_117 (i := 6) (len := 2) (by decide) (Or.inl ⟨dL_act_328, rfl⟩) ?_
      change am_W Z _ _ 330 [.ref (3), .int (nI 13), .int (A), .int (B), .int (C), .int (E), .null] [] _
      refine am_bipush (v := -73) hC dL_act_330 (by decide) ?_
      refine am_iret hC hR rfl (by decide) (by decide) dL_act_332 ?_
      exact z_ac hK (by decide) rfl hS1
  refine am_callV hC (ci := 6) (N := 4) [.int (A)] rfl (SZ_3 hS) rfl mf_X5_grant tw_496 (d_grant _ _ (am_tr hC) h hS A R hW) rfl ⟨rfl, Nat.le_of_ble_eq_true rfl⟩ ⟨by decide, by decide⟩ (by decide) (by decide) dL_act_248 rfl hx (fun v h1 hp hlc => ?_)
  obtain ⟨hK, rfl, hS1⟩ := hp
  refine am_goto (tgt := 317) hC dL_act_251 (by decide) ?_
  refine am_iret hC hR rfl (by decide) (by decide) dL_act_317 ?_
  exact z_a0 hK rfl hS1
set_option maxRecDepth 100000 in
set_option maxHeartbeats 4000000 in
theorem c_act14 (G : am_G) (l : Launch) (htr : l.stackTraces = false) (h : am_H) {σ : z_Sg} (hS : SZ h σ) (A : Int32) (B : Int32) (C : Int32) (E : Int32) : am_Met G l yL_act (.codeWith yL_act cL_act 7 (some .int) [((0 : Nat), (317 : Nat), (318 : Nat), (13 : Nat)), ((0 : Nat), (317 : Nat), (323 : Nat), (15 : Nat)), ((0 : Nat), (317 : Nat), (328 : Nat), (17 : Nat))]) 13 10 190 [.ref (3), .int (nI 14), .int (A), .int (B), .int (C), .int (E)] h (fun v h' => v = some (.int (z_an (z_kH σ A) (b2i (z_pok σ (dn A))))) ∧ SZ h' (z_as (z_kH σ A) σ (σ))) (am_no) := by
  refine am_introW rfl htr rfl (Nat.le_of_ble_eq_true rfl) (fun Z hC hR hI => ?_)
  change am_W Z 0 0 0 [.ref (3), .int (nI 14), .int (A), .int (B), .int (C), .int (E), .null] [] h
  refine am_iload_n hC dL_act_0 rfl ?_
  refine am_if_ne (tgt := 11) hC dL_act_1 (by decide) (fun c_1 => ?_) (fun c_1 => absurd c_1 (by decide))
  refine am_iload_n hC dL_act_11 rfl ?_
  refine am_iconst (v := nI 1) hC dL_act_12 (by decide) ?_
  refine am_icmp_ne (tgt := 29) hC dL_act_13 (by decide) (fun c_13 => ?_) (fun c_13 => absurd c_13 (by decide))
  refine am_iload_n hC dL_act_29 rfl ?_
  refine am_iconst (v := nI 2) hC dL_act_30 (by decide) ?_
  refine am_icmp_ne (tgt := 64) hC dL_act_31 (by decide) (fun c_31 => ?_) (fun c_31 => absurd c_31 (by decide))
  refine am_iload_n hC dL_act_64 rfl ?_
  refine am_iconst (v := nI 3) hC dL_act_65 (by decide) ?_
  refine am_icmp_ne (tgt := 99) hC dL_act_66 (by decide) (fun c_66 => ?_) (fun c_66 => absurd c_66 (by decide))
  refine am_iload_n hC dL_act_99 rfl ?_
  refine am_iconst (v := nI 4) hC dL_act_100 (by decide) ?_
  refine am_icmp_ne (tgt := 113) hC dL_act_101 (by decide) (fun c_101 => ?_) (fun c_101 => absurd c_101 (by decide))
  refine am_iload_n hC dL_act_113 rfl ?_
  refine am_iconst (v := nI 5) hC dL_act_114 (by decide) ?_
  refine am_icmp_ne (tgt := 135) hC dL_act_115 (by decide) (fun c_115 => ?_) (fun c_115 => absurd c_115 (by decide))
  refine am_iload_n hC dL_act_135 rfl ?_
  refine am_bipush (v := nI 6) hC dL_act_136 (by decide) ?_
  refine am_icmp_ne (tgt := 149) hC dL_act_138 (by decide) (fun c_138 => ?_) (fun c_138 => absurd c_138 (by decide))
  refine am_iload_n hC dL_act_149 rfl ?_
  refine am_bipush (v := nI 7) hC dL_act_150 (by decide) ?_
  refine am_icmp_ne (tgt := 164) hC dL_act_152 (by decide) (fun c_152 => ?_) (fun c_152 => absurd c_152 (by decide))
  refine am_iload_n hC dL_act_164 rfl ?_
  refine am_bipush (v := nI 8) hC dL_act_165 (by decide) ?_
  refine am_icmp_ne (tgt := 179) hC dL_act_167 (by decide) (fun c_167 => ?_) (fun c_167 => absurd c_167 (by decide))
  refine am_iload_n hC dL_act_179 rfl ?_
  refine am_bipush (v := nI 9) hC dL_act_180 (by decide) ?_
  refine am_icmp_ne (tgt := 194) hC dL_act_182 (by decide) (fun c_182 => ?_) (fun c_182 => absurd c_182 (by decide))
  refine am_iload_n hC dL_act_194 rfl ?_
  refine am_bipush (v := nI 10) hC dL_act_195 (by decide) ?_
  refine am_icmp_ne (tgt := 209) hC dL_act_197 (by decide) (fun c_197 => ?_) (fun c_197 => absurd c_197 (by decide))
  refine am_iload_n hC dL_act_209 rfl ?_
  refine am_bipush (v := nI 11) hC dL_act_210 (by decide) ?_
  refine am_icmp_ne (tgt := 226) hC dL_act_212 (by decide) (fun c_212 => ?_) (fun c_212 => absurd c_212 (by decide))
  refine am_iload_n hC dL_act_226 rfl ?_
  refine am_bipush (v := nI 12) hC dL_act_227 (by decide) ?_
  refine am_icmp_ne (tgt := 240) hC dL_act_229 (by decide) (fun c_229 => ?_) (fun c_229 => absurd c_229 (by decide))
  refine am_iload_n hC dL_act_240 rfl ?_
  refine am_bipush (v := nI 13) hC dL_act_241 (by decide) ?_
  refine am_icmp_ne (tgt := 254) hC dL_act_243 (by decide) (fun c_243 => ?_) (fun c_243 => absurd c_243 (by decide))
  refine am_iload_n hC dL_act_254 rfl ?_
  refine am_bipush (v := nI 14) hC dL_act_255 (by decide) ?_
  refine am_icmp_ne (tgt := 276) hC dL_act_257 (by decide) (fun c_257 => absurd (by decide) c_257) (fun c_257 => ?_)
  refine am_aload_n hC dL_act_260 rfl ?_
  refine am_iload_n hC dL_act_261 rfl ?_
  have hx : ∀ (X : String) (h1 : am_H), (SZ h1 σ ∧ XN X (z_kH σ A)) → am_le h h1 → am_WX Z (0 + 8) (0 + 48) 262 [.ref (3), .int (nI 14), .int (A), .int (B), .int (C), .int (E), .null] [] h1 X := by
    intro X h1 hE hle
    obtain ⟨hS1, hX⟩ := hE
    rcases hX with ⟨hK, rfl⟩ | ⟨hK, rfl⟩ | ⟨hK, rfl⟩
    · refine am_catch hC hR [] ⟨0, 317, 318, 13⟩ [⟨0, 317, 323, 15⟩, ⟨0, 317, 328, 17⟩] rfl (fun z hz => nomatch hz) (by decide) (by decide) tw_439 tw_282 (i := 6) (len := 2) (by decide) (Or.inl ⟨dL_act_318, rfl⟩) ?_
      change am_W Z _ _ 320 [.ref (3), .int (nI 14), .int (A), .int (B), .int (C), .int (E), .null] [] _
      refine am_bipush (v := -71) hC dL_act_320 (by decide) ?_
      refine am_iret hC hR rfl (by decide) (by decide) dL_act_322 ?_
      exact z_ac hK (by decide) rfl hS1
    · refine am_catch hC hR [⟨0, 317, 318, 13⟩] ⟨0, 317, 323, 15⟩ [⟨0, 317, 328, 17⟩] rfl (fun z hz => by obtain rfl := List.mem_singleton.mp hz; exact ⟨"java/lang/IndexOutOfBoundsException", by decide, tw_439, by decide⟩) (by decide) (by decide) tw_440 tw_315 (i := 6) (len := 2) (by decide) (Or.inl ⟨dL_act_323, rfl⟩) ?_
      change am_W Z _ _ 325 [.ref (3), .int (nI 14), .int (A), .int (B), .int (C), .int (E), .null] [] _
      refine am_bipush (v := -72) hC dL_act_325 (by decide) ?_
      refine am_iret hC hR rfl (by decide) (by decide) dL_act_327 ?_
      exact z_ac hK (by decide) rfl hS1
    · refine am_catch hC hR [⟨0, 317, 318, 13⟩, ⟨0, 317, 323, 15⟩] ⟨0, 317, 328, 17⟩ [] rfl (fun z hz => by rcases List.mem_cons.mp hz with rfl | hz; exact ⟨"java/lang/IndexOutOfBoundsException", by decide, tw_439, by decide⟩; obtain rfl := List.mem_singleton.mp hz; exact ⟨"java/lang/IllegalArgumentException", by decide, tw_440, by decide⟩) (by decide) (by decide) tw_441 tw_117 (i := 6) (len := 2) (by decide) (Or.inl ⟨dL_act_328, rfl⟩) ?_
      change am_W Z _ _ 330 [.ref (3), .int (nI 14), .int (A), .int (B), .int (C), .int (E), .null] [] _
      refine am_bipush (v := -73) hC dL_act_330 (by decide) ?_
      refine am_iret hC hR rfl (by decide) (by decide) dL_act_332 ?_
      exact z_ac hK (by decide) rfl hS1
  refine am_callV hC (ci := 6) (N := 4) [.int (A)] rfl (SZ_3 hS) rfl mf_X5_holds tw_523 (d_holds _ _ (am_tr hC) h hS A) rfl ⟨rfl, Nat.le_of_ble_eq_true rfl⟩ ⟨by decide, by decide⟩ (by decide) (by decide) dL_act_262 rfl hx (fun v h1 hp hlc => ?_)
  obtain ⟨hK, rfl, hS1⟩ := hp
  refine am_if_eq (tgt := 272) hC dL_act_265 (by decide) (fun c_265 => ?_) (fun c_265 => ?_)
  · refine am_iconst (v := nI 0) hC dL_act_272 (by decide) ?_
    refine am_goto (tgt := 317) hC dL_act_273 (by decide) ?_
    refine am_iret hC hR rfl (by decide) (by decide) dL_act_317 ?_
    exact z_a0 hK (z_b0 c_265) hS1
  · refine am_iconst (v := nI 1) hC dL_act_268 (by decide) ?_
    refine am_goto (tgt := 317) hC dL_act_269 (by decide) ?_
    refine am_iret hC hR rfl (by decide) (by decide) dL_act_317 ?_
    exact z_a0 hK (z_b1 c_265) hS1
set_option maxRecDepth 100000 in
set_option maxHeartbeats 4000000 in
theorem c_act15 (G : am_G) (l : Launch) (htr : l.stackTraces = false) (h : am_H) {σ : z_Sg} (hS : SZ h σ) (A : Int32) (B : Int32) (C : Int32) (E : Int32) : am_Met G l yL_act (.codeWith yL_act cL_act 7 (some .int) [((0 : Nat), (317 : Nat), (318 : Nat), (13 : Nat)), ((0 : Nat), (317 : Nat), (323 : Nat), (15 : Nat)), ((0 : Nat), (317 : Nat), (328 : Nat), (17 : Nat))]) 13 10 190 [.ref (3), .int (nI 15), .int (A), .int (B), .int (C), .int (E)] h (fun v h' => v = some (.int (z_an (z_kP σ A) (nI (z_nq σ)))) ∧ SZ h' (z_as (z_kP σ A) σ (z_print σ (dn A) (z_hp σ (dn A) (z_np σ))))) (am_no) := by
  refine am_introW rfl htr rfl (Nat.le_of_ble_eq_true rfl) (fun Z hC hR hI => ?_)
  change am_W Z 0 0 0 [.ref (3), .int (nI 15), .int (A), .int (B), .int (C), .int (E), .null] [] h
  refine am_iload_n hC dL_act_0 rfl ?_
  refine am_if_ne (tgt := 11) hC dL_act_1 (by decide) (fun c_1 => ?_) (fun c_1 => absurd c_1 (by decide))
  refine am_iload_n hC dL_act_11 rfl ?_
  refine am_iconst (v := nI 1) hC dL_act_12 (by decide) ?_
  refine am_icmp_ne (tgt := 29) hC dL_act_13 (by decide) (fun c_13 => ?_) (fun c_13 => absurd c_13 (by decide))
  refine am_iload_n hC dL_act_29 rfl ?_
  refine am_iconst (v := nI 2) hC dL_act_30 (by decide) ?_
  refine am_icmp_ne (tgt := 64) hC dL_act_31 (by decide) (fun c_31 => ?_) (fun c_31 => absurd c_31 (by decide))
  refine am_iload_n hC dL_act_64 rfl ?_
  refine am_iconst (v := nI 3) hC dL_act_65 (by decide) ?_
  refine am_icmp_ne (tgt := 99) hC dL_act_66 (by decide) (fun c_66 => ?_) (fun c_66 => absurd c_66 (by decide))
  refine am_iload_n hC dL_act_99 rfl ?_
  refine am_iconst (v := nI 4) hC dL_act_100 (by decide) ?_
  refine am_icmp_ne (tgt := 113) hC dL_act_101 (by decide) (fun c_101 => ?_) (fun c_101 => absurd c_101 (by decide))
  refine am_iload_n hC dL_act_113 rfl ?_
  refine am_iconst (v := nI 5) hC dL_act_114 (by decide) ?_
  refine am_icmp_ne (tgt := 135) hC dL_act_115 (by decide) (fun c_115 => ?_) (fun c_115 => absurd c_115 (by decide))
  refine am_iload_n hC dL_act_135 rfl ?_
  refine am_bipush (v := nI 6) hC dL_act_136 (by decide) ?_
  refine am_icmp_ne (tgt := 149) hC dL_act_138 (by decide) (fun c_138 => ?_) (fun c_138 => absurd c_138 (by decide))
  refine am_iload_n hC dL_act_149 rfl ?_
  refine am_bipush (v := nI 7) hC dL_act_150 (by decide) ?_
  refine am_icmp_ne (tgt := 164) hC dL_act_152 (by decide) (fun c_152 => ?_) (fun c_152 => absurd c_152 (by decide))
  refine am_iload_n hC dL_act_164 rfl ?_
  refine am_bipush (v := nI 8) hC dL_act_165 (by decide) ?_
  refine am_icmp_ne (tgt := 179) hC dL_act_167 (by decide) (fun c_167 => ?_) (fun c_167 => absurd c_167 (by decide))
  refine am_iload_n hC dL_act_179 rfl ?_
  refine am_bipush (v := nI 9) hC dL_act_180 (by decide) ?_
  refine am_icmp_ne (tgt := 194) hC dL_act_182 (by decide) (fun c_182 => ?_) (fun c_182 => absurd c_182 (by decide))
  refine am_iload_n hC dL_act_194 rfl ?_
  refine am_bipush (v := nI 10) hC dL_act_195 (by decide) ?_
  refine am_icmp_ne (tgt := 209) hC dL_act_197 (by decide) (fun c_197 => ?_) (fun c_197 => absurd c_197 (by decide))
  refine am_iload_n hC dL_act_209 rfl ?_
  refine am_bipush (v := nI 11) hC dL_act_210 (by decide) ?_
  refine am_icmp_ne (tgt := 226) hC dL_act_212 (by decide) (fun c_212 => ?_) (fun c_212 => absurd c_212 (by decide))
  refine am_iload_n hC dL_act_226 rfl ?_
  refine am_bipush (v := nI 12) hC dL_act_227 (by decide) ?_
  refine am_icmp_ne (tgt := 240) hC dL_act_229 (by decide) (fun c_229 => ?_) (fun c_229 => absurd c_229 (by decide))
  refine am_iload_n hC dL_act_240 rfl ?_
  refine am_bipush (v := nI 13) hC dL_act_241 (by decide) ?_
  refine am_icmp_ne (tgt := 254) hC dL_act_243 (by decide) (fun c_243 => ?_) (fun c_243 => absurd c_243 (by decide))
  refine am_iload_n hC dL_act_254 rfl ?_
  refine am_bipush (v := nI 14) hC dL_act_255 (by decide) ?_
  refine am_icmp_ne (tgt := 276) hC dL_act_257 (by decide) (fun c_257 => ?_) (fun c_257 => absurd c_257 (by decide))
  refine am_iload_n hC dL_act_276 rfl ?_
  refine am_bipush (v := nI 15) hC dL_act_277 (by decide) ?_
  refine am_icmp_ne (tgt := 290) hC dL_act_279 (by decide) (fun c_279 => absurd (by decide) c_279) (fun c_279 => ?_)
  refine am_aload_n hC dL_act_282 rfl ?_
  refine am_iload_n hC dL_act_283 rfl ?_
  have hx : ∀ (X : String) (h1 : am_H), (SZ h1 σ ∧ XN X (z_kP σ A)) → am_le h h1 → am_WX Z (0 + 10) (0 + 190) 284 [.ref (3), .int (nI 15), .int (A), .int (B), .int (C), .int (E), .null] [] h1 X := by
    intro X h1 hE hle
    obtain ⟨hS1, hX⟩ := hE
    rcases hX with ⟨hK, rfl⟩ | ⟨hK, rfl⟩ | ⟨hK, rfl⟩
    · refine am_catch hC hR [] ⟨0, 317, 318, 13⟩ [⟨0, 317, 323, 15⟩, ⟨0, 317, 328, 17⟩] rfl (fun z hz => nomatch hz) (by decide) (by decide) tw_439 tw_282 (i := 6) (len := 2) (by decide) (Or.inl ⟨dL_act_318, rfl⟩) ?_
      change am_W Z _ _ 320 [.ref (3), .int (nI 15), .int (A), .int (B), .int (C), .int (E), .null] [] _
      refine am_bipush (v := -71) hC dL_act_320 (by decide) ?_
      refine am_iret hC hR rfl (by decide) (by decide) dL_act_322 ?_
      exact z_ac hK (by decide) rfl hS1
    · refine am_catch hC hR [⟨0, 317, 318, 13⟩] ⟨0, 317, 323, 15⟩ [⟨0, 317, 328, 17⟩] rfl (fun z hz => by obtain rfl := List.mem_singleton.mp hz; exact ⟨"java/lang/IndexOutOfBoundsException", by decide, tw_439, by decide⟩) (by decide) (by decide) tw_440 tw_315 (i := 6) (len := 2) (by decide) (Or.inl ⟨dL_act_323, rfl⟩) ?_
      change am_W Z _ _ 325 [.ref (3), .int (nI 15), .int (A), .int (B), .int (C), .int (E), .null] [] _
      refine am_bipush (v := -72) hC dL_act_325 (by decide) ?_
      refine am_iret hC hR rfl (by decide) (by decide) dL_act_327 ?_
      exact z_ac hK (by decide) rfl hS1
    · refine am_catch hC hR [⟨0, 317, 318, 13⟩, ⟨0, 317, 323, 15⟩] ⟨0, 317, 328, 17⟩ [] rfl (fun z hz => by rcases List.mem_cons.mp hz with rfl | hz; exact ⟨"java/lang/IndexOutOfBoundsException", by decide, tw_439, by decide⟩; obtain rfl := List.mem_singleton.mp hz; exact ⟨"java/lang/IllegalArgumentException", by decide, tw_440, by decide⟩) (by decide) (by decide) tw_441 tw_117 (i := 6) (len := 2) (by decide) (Or.inl ⟨dL_act_328, rfl⟩) ?_
      change am_W Z _ _ 330 [.ref (3), .int (nI 15), .int (A), .int (B), .int (C), .int (E), .null] [] _
      refine am_bipush (v := -73) hC dL_act_330 (by decide) ?_
      refine am_iret hC hR rfl (by decide) (by decide) dL_act_332 ?_
      exact z_ac hK (by decide) rfl hS1
  refine am_callV hC (ci := 6) (N := 4) [.int (A)] rfl (SZ_3 hS) rfl mf_X5_print tw_536 (d_print _ _ (am_tr hC) h hS A) rfl ⟨rfl, Nat.le_of_ble_eq_true rfl⟩ ⟨by decide, by decide⟩ (by decide) (by decide) dL_act_284 rfl hx (fun v h1 hp hlc => ?_)
  obtain ⟨hK, rfl, hS1⟩ := hp
  refine am_goto (tgt := 317) hC dL_act_287 (by decide) ?_
  refine am_iret hC hR rfl (by decide) (by decide) dL_act_317 ?_
  exact z_a0 hK rfl hS1
set_option maxRecDepth 100000 in
set_option maxHeartbeats 4000000 in
theorem c_act16 (G : am_G) (l : Launch) (htr : l.stackTraces = false) (h : am_H) {σ : z_Sg} (hS : SZ h σ) (A : Int32) (B : Int32) (C : Int32) (E : Int32) : am_Met G l yL_act (.codeWith yL_act cL_act 7 (some .int) [((0 : Nat), (317 : Nat), (318 : Nat), (13 : Nat)), ((0 : Nat), (317 : Nat), (323 : Nat), (15 : Nat)), ((0 : Nat), (317 : Nat), (328 : Nat), (17 : Nat))]) 13 10 190 [.ref (3), .int (nI 16), .int (A), .int (B), .int (C), .int (E)] h (fun v h' => v = some (.int (z_an (z_kQ σ A) ((z_gQ σ (dn A)).2.2.2))) ∧ SZ h' (z_as (z_kQ σ A) σ (σ))) (am_no) := by
  refine am_introW rfl htr rfl (Nat.le_of_ble_eq_true rfl) (fun Z hC hR hI => ?_)
  change am_W Z 0 0 0 [.ref (3), .int (nI 16), .int (A), .int (B), .int (C), .int (E), .null] [] h
  refine am_iload_n hC dL_act_0 rfl ?_
  refine am_if_ne (tgt := 11) hC dL_act_1 (by decide) (fun c_1 => ?_) (fun c_1 => absurd c_1 (by decide))
  refine am_iload_n hC dL_act_11 rfl ?_
  refine am_iconst (v := nI 1) hC dL_act_12 (by decide) ?_
  refine am_icmp_ne (tgt := 29) hC dL_act_13 (by decide) (fun c_13 => ?_) (fun c_13 => absurd c_13 (by decide))
  refine am_iload_n hC dL_act_29 rfl ?_
  refine am_iconst (v := nI 2) hC dL_act_30 (by decide) ?_
  refine am_icmp_ne (tgt := 64) hC dL_act_31 (by decide) (fun c_31 => ?_) (fun c_31 => absurd c_31 (by decide))
  refine am_iload_n hC dL_act_64 rfl ?_
  refine am_iconst (v := nI 3) hC dL_act_65 (by decide) ?_
  refine am_icmp_ne (tgt := 99) hC dL_act_66 (by decide) (fun c_66 => ?_) (fun c_66 => absurd c_66 (by decide))
  refine am_iload_n hC dL_act_99 rfl ?_
  refine am_iconst (v := nI 4) hC dL_act_100 (by decide) ?_
  refine am_icmp_ne (tgt := 113) hC dL_act_101 (by decide) (fun c_101 => ?_) (fun c_101 => absurd c_101 (by decide))
  refine am_iload_n hC dL_act_113 rfl ?_
  refine am_iconst (v := nI 5) hC dL_act_114 (by decide) ?_
  refine am_icmp_ne (tgt := 135) hC dL_act_115 (by decide) (fun c_115 => ?_) (fun c_115 => absurd c_115 (by decide))
  refine am_iload_n hC dL_act_135 rfl ?_
  refine am_bipush (v := nI 6) hC dL_act_136 (by decide) ?_
  refine am_icmp_ne (tgt := 149) hC dL_act_138 (by decide) (fun c_138 => ?_) (fun c_138 => absurd c_138 (by decide))
  refine am_iload_n hC dL_act_149 rfl ?_
  refine am_bipush (v := nI 7) hC dL_act_150 (by decide) ?_
  refine am_icmp_ne (tgt := 164) hC dL_act_152 (by decide) (fun c_152 => ?_) (fun c_152 => absurd c_152 (by decide))
  refine am_iload_n hC dL_act_164 rfl ?_
  refine am_bipush (v := nI 8) hC dL_act_165 (by decide) ?_
  refine am_icmp_ne (tgt := 179) hC dL_act_167 (by decide) (fun c_167 => ?_) (fun c_167 => absurd c_167 (by decide))
  refine am_iload_n hC dL_act_179 rfl ?_
  refine am_bipush (v := nI 9) hC dL_act_180 (by decide) ?_
  refine am_icmp_ne (tgt := 194) hC dL_act_182 (by decide) (fun c_182 => ?_) (fun c_182 => absurd c_182 (by decide))
  refine am_iload_n hC dL_act_194 rfl ?_
  refine am_bipush (v := nI 10) hC dL_act_195 (by decide) ?_
  refine am_icmp_ne (tgt := 209) hC dL_act_197 (by decide) (fun c_197 => ?_) (fun c_197 => absurd c_197 (by decide))
  refine am_iload_n hC dL_act_209 rfl ?_
  refine am_bipush (v := nI 11) hC dL_act_210 (by decide) ?_
  refine am_icmp_ne (tgt := 226) hC dL_act_212 (by decide) (fun c_212 => ?_) (fun c_212 => absurd c_212 (by decide))
  refine am_iload_n hC dL_act_226 rfl ?_
  refine am_bipush (v := nI 12) hC dL_act_227 (by decide) ?_
  refine am_icmp_ne (tgt := 240) hC dL_act_229 (by decide) (fun c_229 => ?_) (fun c_229 => absurd c_229 (by decide))
  refine am_iload_n hC dL_act_240 rfl ?_
  refine am_bipush (v := nI 13) hC dL_act_241 (by decide) ?_
  refine am_icmp_ne (tgt := 254) hC dL_act_243 (by decide) (fun c_243 => ?_) (fun c_243 => absurd c_243 (by decide))
  refine am_iload_n hC dL_act_254 rfl ?_
  refine am_bipush (v := nI 14) hC dL_act_255 (by decide) ?_
  refine am_icmp_ne (tgt := 276) hC dL_act_257 (by decide) (fun c_257 => ?_) (fun c_257 => absurd c_257 (by decide))
  refine am_iload_n hC dL_act_276 rfl ?_
  refine am_bipush (v := nI 15) hC dL_act_277 (by decide) ?_
  refine am_icmp_ne (tgt := 290) hC dL_act_279 (by decide) (fun c_279 => ?_) (fun c_279 => absurd c_279 (by decide))
  refine am_iload_n hC dL_act_290 rfl ?_
  refine am_bipush (v := nI 16) hC dL_act_291 (by decide) ?_
  refine am_icmp_ne (tgt := 304) hC dL_act_293 (by decide) (fun c_293 => absurd (by decide) c_293) (fun c_293 => ?_)
  refine am_aload_n hC dL_act_296 rfl ?_
  refine am_iload_n hC dL_act_297 rfl ?_
  have hx : ∀ (X : String) (h1 : am_H), (SZ h1 σ ∧ XN X (z_kQ σ A)) → am_le h h1 → am_WX Z (0 + 8) (0 + 48) 298 [.ref (3), .int (nI 16), .int (A), .int (B), .int (C), .int (E), .null] [] h1 X := by
    intro X h1 hE hle
    obtain ⟨hS1, hX⟩ := hE
    rcases hX with ⟨hK, rfl⟩ | ⟨hK, rfl⟩ | ⟨hK, rfl⟩
    · refine am_catch hC hR [] ⟨0, 317, 318, 13⟩ [⟨0, 317, 323, 15⟩, ⟨0, 317, 328, 17⟩] rfl (fun z hz => nomatch hz) (by decide) (by decide) tw_439 tw_282 (i := 6) (len := 2) (by decide) (Or.inl ⟨dL_act_318, rfl⟩) ?_
      change am_W Z _ _ 320 [.ref (3), .int (nI 16), .int (A), .int (B), .int (C), .int (E), .null] [] _
      refine am_bipush (v := -71) hC dL_act_320 (by decide) ?_
      refine am_iret hC hR rfl (by decide) (by decide) dL_act_322 ?_
      exact z_ac hK (by decide) rfl hS1
    · refine am_catch hC hR [⟨0, 317, 318, 13⟩] ⟨0, 317, 323, 15⟩ [⟨0, 317, 328, 17⟩] rfl (fun z hz => by obtain rfl := List.mem_singleton.mp hz; exact ⟨"java/lang/IndexOutOfBoundsException", by decide, tw_439, by decide⟩) (by decide) (by decide) tw_440 tw_315 (i := 6) (len := 2) (by decide) (Or.inl ⟨dL_act_323, rfl⟩) ?_
      change am_W Z _ _ 325 [.ref (3), .int (nI 16), .int (A), .int (B), .int (C), .int (E), .null] [] _
      refine am_bipush (v := -72) hC dL_act_325 (by decide) ?_
      refine am_iret hC hR rfl (by decide) (by decide) dL_act_327 ?_
      exact z_ac hK (by decide) rfl hS1
    · refine am_catch hC hR [⟨0, 317, 318, 13⟩, ⟨0, 317, 323, 15⟩] ⟨0, 317, 328, 17⟩ [] rfl (fun z hz => by rcases List.mem_cons.mp hz with rfl | hz; exact ⟨"java/lang/IndexOutOfBoundsException", by decide, tw_439, by decide⟩; obtain rfl := List.mem_singleton.mp hz; exact ⟨"java/lang/IllegalArgumentException", by decide, tw_440, by decide⟩) (by decide) (by decide) tw_441 tw_117 (i := 6) (len := 2) (by decide) (Or.inl ⟨dL_act_328, rfl⟩) ?_
      change am_W Z _ _ 330 [.ref (3), .int (nI 16), .int (A), .int (B), .int (C), .int (E), .null] [] _
      refine am_bipush (v := -73) hC dL_act_330 (by decide) ?_
      refine am_iret hC hR rfl (by decide) (by decide) dL_act_332 ?_
      exact z_ac hK (by decide) rfl hS1
  refine am_callV hC (ci := 6) (N := 4) [.int (A)] rfl (SZ_3 hS) rfl mf_X5_permitOf tw_426 (d_permitOf _ _ (am_tr hC) h hS A) rfl ⟨rfl, Nat.le_of_ble_eq_true rfl⟩ ⟨by decide, by decide⟩ (by decide) (by decide) dL_act_298 rfl hx (fun v h1 hp hlc => ?_)
  obtain ⟨hK, rfl, hS1⟩ := hp
  refine am_goto (tgt := 317) hC dL_act_301 (by decide) ?_
  refine am_iret hC hR rfl (by decide) (by decide) dL_act_317 ?_
  exact z_a0 hK rfl hS1
set_option maxRecDepth 100000 in
set_option maxHeartbeats 4000000 in
theorem c_act17 (G : am_G) (l : Launch) (htr : l.stackTraces = false) (h : am_H) {σ : z_Sg} (hS : SZ h σ) (A : Int32) (B : Int32) (C : Int32) (E : Int32) : am_Met G l yL_act (.codeWith yL_act cL_act 7 (some .int) [((0 : Nat), (317 : Nat), (318 : Nat), (13 : Nat)), ((0 : Nat), (317 : Nat), (323 : Nat), (15 : Nat)), ((0 : Nat), (317 : Nat), (328 : Nat), (17 : Nat))]) 13 10 190 [.ref (3), .int (nI 17), .int (A), .int (B), .int (C), .int (E)] h (fun v h' => v = some (.int (z_an (z_kQ σ A) (b2i (z_good σ (dn A))))) ∧ SZ h' (z_as (z_kQ σ A) σ (σ))) (am_no) := by
  refine am_introW rfl htr rfl (Nat.le_of_ble_eq_true rfl) (fun Z hC hR hI => ?_)
  change am_W Z 0 0 0 [.ref (3), .int (nI 17), .int (A), .int (B), .int (C), .int (E), .null] [] h
  refine am_iload_n hC dL_act_0 rfl ?_
  refine am_if_ne (tgt := 11) hC dL_act_1 (by decide) (fun c_1 => ?_) (fun c_1 => absurd c_1 (by decide))
  refine am_iload_n hC dL_act_11 rfl ?_
  refine am_iconst (v := nI 1) hC dL_act_12 (by decide) ?_
  refine am_icmp_ne (tgt := 29) hC dL_act_13 (by decide) (fun c_13 => ?_) (fun c_13 => absurd c_13 (by decide))
  refine am_iload_n hC dL_act_29 rfl ?_
  refine am_iconst (v := nI 2) hC dL_act_30 (by decide) ?_
  refine am_icmp_ne (tgt := 64) hC dL_act_31 (by decide) (fun c_31 => ?_) (fun c_31 => absurd c_31 (by decide))
  refine am_iload_n hC dL_act_64 rfl ?_
  refine am_iconst (v := nI 3) hC dL_act_65 (by decide) ?_
  refine am_icmp_ne (tgt := 99) hC dL_act_66 (by decide) (fun c_66 => ?_) (fun c_66 => absurd c_66 (by decide))
  refine am_iload_n hC dL_act_99 rfl ?_
  refine am_iconst (v := nI 4) hC dL_act_100 (by decide) ?_
  refine am_icmp_ne (tgt := 113) hC dL_act_101 (by decide) (fun c_101 => ?_) (fun c_101 => absurd c_101 (by decide))
  refine am_iload_n hC dL_act_113 rfl ?_
  refine am_iconst (v := nI 5) hC dL_act_114 (by decide) ?_
  refine am_icmp_ne (tgt := 135) hC dL_act_115 (by decide) (fun c_115 => ?_) (fun c_115 => absurd c_115 (by decide))
  refine am_iload_n hC dL_act_135 rfl ?_
  refine am_bipush (v := nI 6) hC dL_act_136 (by decide) ?_
  refine am_icmp_ne (tgt := 149) hC dL_act_138 (by decide) (fun c_138 => ?_) (fun c_138 => absurd c_138 (by decide))
  refine am_iload_n hC dL_act_149 rfl ?_
  refine am_bipush (v := nI 7) hC dL_act_150 (by decide) ?_
  refine am_icmp_ne (tgt := 164) hC dL_act_152 (by decide) (fun c_152 => ?_) (fun c_152 => absurd c_152 (by decide))
  refine am_iload_n hC dL_act_164 rfl ?_
  refine am_bipush (v := nI 8) hC dL_act_165 (by decide) ?_
  refine am_icmp_ne (tgt := 179) hC dL_act_167 (by decide) (fun c_167 => ?_) (fun c_167 => absurd c_167 (by decide))
  refine am_iload_n hC dL_act_179 rfl ?_
  refine am_bipush (v := nI 9) hC dL_act_180 (by decide) ?_
  refine am_icmp_ne (tgt := 194) hC dL_act_182 (by decide) (fun c_182 => ?_) (fun c_182 => absurd c_182 (by decide))
  refine am_iload_n hC dL_act_194 rfl ?_
  refine am_bipush (v := nI 10) hC dL_act_195 (by decide) ?_
  refine am_icmp_ne (tgt := 209) hC dL_act_197 (by decide) (fun c_197 => ?_) (fun c_197 => absurd c_197 (by decide))
  refine am_iload_n hC dL_act_209 rfl ?_
  refine am_bipush (v := nI 11) hC dL_act_210 (by decide) ?_
  refine am_icmp_ne (tgt := 226) hC dL_act_212 (by decide) (fun c_212 => ?_) (fun c_212 => absurd c_212 (by decide))
  refine am_iload_n hC dL_act_226 rfl ?_
  refine am_bipush (v := nI 12) hC dL_act_227 (by decide) ?_
  refine am_icmp_ne (tgt := 240) hC dL_act_229 (by decide) (fun c_229 => ?_) (fun c_229 => absurd c_229 (by decide))
  refine am_iload_n hC dL_act_240 rfl ?_
  refine am_bipush (v := nI 13) hC dL_act_241 (by decide) ?_
  refine am_icmp_ne (tgt := 254) hC dL_act_243 (by decide) (fun c_243 => ?_) (fun c_243 => absurd c_243 (by decide))
  refine am_iload_n hC dL_act_254 rfl ?_
  refine am_bipush (v := nI 14) hC dL_act_255 (by decide) ?_
  refine am_icmp_ne (tgt := 276) hC dL_act_257 (by decide) (fun c_257 => ?_) (fun c_257 => absurd c_257 (by decide))
  refine am_iload_n hC dL_act_276 rfl ?_
  refine am_bipush (v := nI 15) hC dL_act_277 (by decide) ?_
  refine am_icmp_ne (tgt := 290) hC dL_act_279 (by decide) (fun c_279 => ?_) (fun c_279 => absurd c_279 (by decide))
  refine am_iload_n hC dL_act_290 rfl ?_
  refine am_bipush (v := nI 16) hC dL_act_291 (by decide) ?_
  refine am_icmp_ne (tgt := 304) hC dL_act_293 (by decide) (fun c_293 => ?_) (fun c_293 => absurd c_293 (by decide))
  refine am_aload_n hC dL_act_304 rfl ?_
  refine am_iload_n hC dL_act_305 rfl ?_
  have hx : ∀ (X : String) (h1 : am_H), (SZ h1 σ ∧ XN X (z_kQ σ A)) → am_le h h1 → am_WX Z (0 + 8) (0 + 48) 306 [.ref (3), .int (nI 17), .int (A), .int (B), .int (C), .int (E), .null] [] h1 X := by
    intro X h1 hE hle
    obtain ⟨hS1, hX⟩ := hE
    rcases hX with ⟨hK, rfl⟩ | ⟨hK, rfl⟩ | ⟨hK, rfl⟩
    · refine am_catch hC hR [] ⟨0, 317, 318, 13⟩ [⟨0, 317, 323, 15⟩, ⟨0, 317, 328, 17⟩] rfl (fun z hz => nomatch hz) (by decide) (by decide) tw_439 tw_282 (i := 6) (len := 2) (by decide) (Or.inl ⟨dL_act_318, rfl⟩) ?_
      change am_W Z _ _ 320 [.ref (3), .int (nI 17), .int (A), .int (B), .int (C), .int (E), .null] [] _
      refine am_bipush (v := -71) hC dL_act_320 (by decide) ?_
      refine am_iret hC hR rfl (by decide) (by decide) dL_act_322 ?_
      exact z_ac hK (by decide) rfl hS1
    · refine am_catch hC hR [⟨0, 317, 318, 13⟩] ⟨0, 317, 323, 15⟩ [⟨0, 317, 328, 17⟩] rfl (fun z hz => by obtain rfl := List.mem_singleton.mp hz; exact ⟨"java/lang/IndexOutOfBoundsException", by decide, tw_439, by decide⟩) (by decide) (by decide) tw_440 tw_315 (i := 6) (len := 2) (by decide) (Or.inl ⟨dL_act_323, rfl⟩) ?_
      change am_W Z _ _ 325 [.ref (3), .int (nI 17), .int (A), .int (B), .int (C), .int (E), .null] [] _
      refine am_bipush (v := -72) hC dL_act_325 (by decide) ?_
      refine am_iret hC hR rfl (by decide) (by decide) dL_act_327 ?_
      exact z_ac hK (by decide) rfl hS1
    · refine am_catch hC hR [⟨0, 317, 318, 13⟩, ⟨0, 317, 323, 15⟩] ⟨0, 317, 328, 17⟩ [] rfl (fun z hz => by rcases List.mem_cons.mp hz with rfl | hz; exact ⟨"java/lang/IndexOutOfBoundsException", by decide, tw_439, by decide⟩; obtain rfl := List.mem_singleton.mp hz; exact ⟨"java/lang/IllegalArgumentException", by decide, tw_440, by decide⟩) (by decide) (by decide) tw_441 tw_117 (i := 6) (len := 2) (by decide) (Or.inl ⟨dL_act_328, rfl⟩) ?_
      change am_W Z _ _ 330 [.ref (3), .int (nI 17), .int (A), .int (B), .int (C), .int (E), .null] [] _
      refine am_bipush (v := -73) hC dL_act_330 (by decide) ?_
      refine am_iret hC hR rfl (by decide) (by decide) dL_act_332 ?_
      exact z_ac hK (by decide) rfl hS1
  refine am_callV hC (ci := 6) (N := 4) [.int (A)] rfl (SZ_3 hS) rfl mf_X5_isGood tw_564 (d_isGood _ _ (am_tr hC) h hS A) rfl ⟨rfl, Nat.le_of_ble_eq_true rfl⟩ ⟨by decide, by decide⟩ (by decide) (by decide) dL_act_306 rfl hx (fun v h1 hp hlc => ?_)
  obtain ⟨hK, rfl, hS1⟩ := hp
  refine am_if_eq (tgt := 316) hC dL_act_309 (by decide) (fun c_309 => ?_) (fun c_309 => ?_)
  · refine am_iconst (v := nI 0) hC dL_act_316 (by decide) ?_
    refine am_iret hC hR rfl (by decide) (by decide) dL_act_317 ?_
    exact z_a0 hK (z_b0 c_309) hS1
  · refine am_iconst (v := nI 1) hC dL_act_312 (by decide) ?_
    refine am_goto (tgt := 317) hC dL_act_313 (by decide) ?_
    refine am_iret hC hR rfl (by decide) (by decide) dL_act_317 ?_
    exact z_a0 hK (z_b1 c_309) hS1
