/-! ===== the law's cell; an object's start; steps ===== -/
def z_sxb (a b : z_Sg) : Bool := decide (a.1 = b.1) && (decide (a.2.1 = b.2.1) && decide (a.2.2 = b.2.2))
theorem z_sx {a b : z_Sg} (h : z_sxb a b = true) : a = b := by
  unfold z_sxb at h
  rw [Bool.and_eq_true, Bool.and_eq_true] at h
  exact Prod.ext (of_decide_eq_true h.1) (Prod.ext (of_decide_eq_true h.2.1) (of_decide_eq_true h.2.2))
/-- a call with a given answer and a given state behind it -/
theorem z_go {K : Nat} {x x' : Int32} {σ1 σ' : z_Sg} {h : am_H} {v : Option Value} (e1 : x = x') (e2 : σ1 = σ') (hp : K = 0 ∧ v = some (.int x) ∧ SZ h σ1) : v = some (.int x') ∧ SZ h σ' := by
  subst e1; subst e2
  exact hp.2
theorem z_goa {x x' : Int32} {σ1 σ' : z_Sg} {h : am_H} {v : Option Value} (e1 : x = x') (e2 : σ1 = σ') (hp : v = some (.int x) ∧ SZ h σ1) : v = some (.int x') ∧ SZ h σ' := by
  subst e1; subst e2
  exact hp
theorem z_gor {K : Nat} {x' : Int32} {D : Int32} {d : Nat} {σ : z_Sg} {h : am_H} {v : Option Value} (e : dn D = d) (hV : VR (z_sdS σ d) x') (hp : K = 0 ∧ SZ h σ ∧ ∃ x, v = some (.int x) ∧ VR (z_sdS σ (dn D)) x) : v = some (.int x') ∧ SZ h σ := by
  obtain ⟨-, hS, x, rfl, hx⟩ := hp
  rw [e] at hx
  exact ⟨by rw [VR_u hx hV], hS⟩
theorem c_refuses' (G : am_G) (l : Launch) (htr : l.stackTraces = false) (h : am_H) {σ : z_Sg} (hS : SZ h σ) {p q : Nat} (ep : z_np σ = p) (eq : z_nq σ = q) : am_Met G l yL_refuses (.code yL_refuses cL_refuses 16 (some .boolean)) 14 1800 34000 [.ref (3), .int (nI p), .int (nI q)] h (fun v h' => v = some (.int 1) ∧ SZ h' σ) am_no := by
  subst ep; subst eq
  exact c_refuses G l htr h hS
/-- the heap at the law's start: the empty table, the class object, the script -/
def h00 : am_H := ((fun r => if r = 1 then 14 else if r = 2 then 15 else if r = 41 then 14 else 0), (fun _ => 0), (fun _ _ => 0), (fun _ _ => 0), fun _ _ => 0)
theorem hk_00 {r : Nat} (h1 : r ≠ 1) (h2 : r ≠ 2) (h3 : r ≠ 41) : hk_ h00 r = 0 := by
  show (if r = 1 then 14 else if r = 2 then 15 else if r = 41 then 14 else 0) = 0
  rw [if_neg h1, if_neg h2, if_neg h3]
theorem hk_00' {r : Nat} (h : hk_ h00 r ≠ 0) : r = 1 ∨ r = 2 ∨ r = 41 := by
  by_cases a : r = 1
  · exact Or.inl a
  · by_cases b : r = 2
    · exact Or.inr (Or.inl b)
    · by_cases c : r = 41
      · exact Or.inr (Or.inr c)
      · exact absurd (hk_00 a b c) h
def z_00 : z_Sg := ([], [], [])
theorem SZ_0 {h1 : am_H} (f1 : FC h1) (l4 : LT h1 4 0 0 100 1) (l5 : LT h1 5 0 0 200 3) (l6 : LT h1 6 0 0 300 4) (e1 : am_eq (fun r => 3 ≤ r ∧ r ≤ 13) h00 h1) : SZ h1 z_00 := by
  have no : ∀ {i : Nat}, ¬ i < 0 := fun {i} => Nat.not_lt_zero i
  refine ⟨⟨⟨f1, fun i hi => absurd hi no, fun d hd => absurd hd no⟩, ⟨by decide, by decide, by decide⟩, ⟨⟨0, l4⟩, ⟨0, l5⟩, ⟨0, l6⟩⟩, ⟨fun i hi => absurd hi no, fun i hi => absurd hi no⟩, fun r hr => ?_⟩, fun d hd => absurd hd no, fun i hi => absurd hi no, fun i hi => absurd hi no⟩
  unfold ded at hr
  exact (e1 r (by omega)).1.trans (hk_00 (by omega) (by omega) (by omega))
/-- what a method that starts at h00 leaves behind is forgotten -/
theorem am_drop {G : am_G} {p : Program} {l : Launch} {e : Env} {R : Room} {s : State} {m : MethodId} {args : Array Value} {below : List Frame} {meth : Method} {c : Code} {ad0 : Nat → Nat} {n : Nat} {Q : State → Prop} {kc ks pc : Nat} {ls st : List Value} {h : am_H} (hle : am_le h00 h) (hl0 : am_Vs h00 ls) (hs0 : am_Vs h00 st) (k : am_W (G, p, l, e, R, s, m, args, below, meth, c, h00, ad0, n, Q) kc ks pc ls st h00) : am_W (G, p, l, e, R, s, m, args, below, meth, c, h00, ad0, n, Q) kc ks pc ls st h := by
  refine fun ad H locs lc hA hS hX hl hvl hvs => ?_
  have hk : ∀ r, hk_ h00 r ≠ 0 → hk_ h r = hk_ h00 r := fun r hr => (hle r hr).1
  have k41 : hk_ h 41 = 14 := hk 41 (by decide)
  obtain ⟨⟨z0, z1, z2, z3, z4, z5⟩, a1, a2, a3, a4⟩ := hA
  refine k ad H locs lc ⟨⟨rfl, rfl, rfl, rfl, z4, z5⟩, fun r hr => ?_, fun r hr => ?_, fun r q hr hq => a3 r q (by rw [hk r hr]; exact hr) (by rw [hk q hq]; exact hq), fun r k hr => Or.inl rfl⟩ hS ⟨am_le_rf _, hX.2⟩ hl hl0 hs0
  · rcases hk_00' hr with rfl | rfl | rfl
    · exact Or.inl (Or.inl rfl)
    · exact Or.inl (Or.inr rfl)
    · exact Or.inl (Or.inl rfl)
  · rcases hk_00' hr with rfl | rfl | rfl
    · exact Or.inl rfl
    · exact Or.inr (Or.inl rfl)
    · rcases a2 41 (by rw [k41]; decide) with q | q | q | q
      · exact absurd q (by decide)
      · exact absurd q (by decide)
      · exact absurd q.2.2 (by rw [k41]; decide)
      · exact Or.inr (Or.inr (Or.inr ⟨rfl, q.2⟩))
set_option maxRecDepth 100000 in
set_option maxHeartbeats 4000000 in
theorem c_cell (G : am_G) (l : Launch) (htr : l.stackTraces = false) (h : am_H) {σ : z_Sg} (hS : SZ h σ) (D C R S O W : Int32) (d c : Nat) (i1 : IX (z_n σ) D = true) (i2 : IX 25 C = true) (e1 : dn D = d) (e2 : dn C = c) (v1 : VM (z_sdS σ d) c R) (v2 : VS (z_sdS σ d) c S) (v3 : VD (z_sdS σ d) (z_exS σ d) c O) (v4 : VH (z_sdS σ d) (z_exS σ d) c W) : am_Met G l yL_cell (.code yL_cell cL_cell 7 (some .boolean)) 13 32 192 [.ref (3), .int (D), .int (C), .int (R), .int (S), .int (O), .int (W)] h (fun v h' => v = some (.int 1) ∧ SZ h' σ) (am_no) := by
  have hK : z_kC σ D C = 0 := k3_0 i1 i2 rfl
  have hc : c < 25 := by rw [← e2]; exact (IX_dn (by decide) i2).1
  refine am_intro rfl htr rfl (Nat.le_of_ble_eq_true rfl) (fun Z hC hR hI => ?_)
  change am_W Z 0 0 0 [.ref (3), .int (D), .int (C), .int (R), .int (S), .int (O), .int (W)] [] h
  refine am_aload_n hC dL_cell_0 rfl ?_
  refine am_iload_n hC dL_cell_1 rfl ?_
  refine am_iload_n hC dL_cell_2 rfl ?_
  refine am_callV hC (ci := 6) (N := 4) [.int (D), .int (C)] rfl (SZ_3 hS) rfl mf_X5_room tw_467 (d_room _ _ (am_tr hC) h hS D C) rfl ⟨rfl, Nat.le_of_ble_eq_true rfl⟩ ⟨by decide, by decide⟩ (by decide) (by decide) dL_cell_3 rfl (fun X g q _ => (XN_0 q.2 hK).elim) (fun v h hp hlc => ?_)
  obtain ⟨-, hS, x, e9, hV⟩ := hp
  rw [e1, e2] at hV
  rw [VM_u hc hV v1] at e9
  subst e9
  refine am_iload_n hC dL_cell_6 rfl ?_
  refine am_icmp_ne (tgt := 47) hC dL_cell_7 (by decide) (fun c_7 => absurd rfl c_7) (fun c_7 => ?_)
  refine am_aload_n hC dL_cell_10 rfl ?_
  refine am_iload_n hC dL_cell_11 rfl ?_
  refine am_iload_n hC dL_cell_12 rfl ?_
  refine am_callV hC (ci := 6) (N := 4) [.int (D), .int (C)] rfl (SZ_3 hS) rfl mf_X5_size tw_414 (d_size _ _ (am_tr hC) h hS D C) rfl ⟨rfl, Nat.le_of_ble_eq_true rfl⟩ ⟨by decide, by decide⟩ (by decide) (by decide) dL_cell_13 rfl (fun X g q _ => (XN_0 q.2 hK).elim) (fun v h hp hlc => ?_)
  obtain ⟨-, hS, x, e9, hV⟩ := hp
  rw [e1, e2] at hV
  rw [VS_u hc hV v2] at e9
  subst e9
  refine am_iload hC dL_cell_16 rfl ?_
  refine am_icmp_ne (tgt := 47) hC dL_cell_18 (by decide) (fun c_18 => absurd rfl c_18) (fun c_18 => ?_)
  refine am_aload_n hC dL_cell_21 rfl ?_
  refine am_iload_n hC dL_cell_22 rfl ?_
  refine am_iload_n hC dL_cell_23 rfl ?_
  refine am_callV hC (ci := 6) (N := 4) [.int (D), .int (C)] rfl (SZ_3 hS) rfl mf_X5_doorsOut tw_422 (d_doorsOut _ _ (am_tr hC) h hS D C) rfl ⟨rfl, Nat.le_of_ble_eq_true rfl⟩ ⟨by decide, by decide⟩ (by decide) (by decide) dL_cell_24 rfl (fun X g q _ => (XN_0 q.2 hK).elim) (fun v h hp hlc => ?_)
  obtain ⟨-, hS, x, e9, hV⟩ := hp
  rw [e1, e2] at hV
  rw [VD_u hc hV v3] at e9
  subst e9
  refine am_iload hC dL_cell_27 rfl ?_
  refine am_icmp_ne (tgt := 47) hC dL_cell_29 (by decide) (fun c_29 => absurd rfl c_29) (fun c_29 => ?_)
  refine am_aload_n hC dL_cell_32 rfl ?_
  refine am_iload_n hC dL_cell_33 rfl ?_
  refine am_iload_n hC dL_cell_34 rfl ?_
  refine am_callV hC (ci := 6) (N := 4) [.int (D), .int (C)] rfl (SZ_3 hS) rfl mf_X5_doorThatHelps tw_471 (d_doorThatHelps _ _ (am_tr hC) h hS D C) rfl ⟨rfl, Nat.le_of_ble_eq_true rfl⟩ ⟨by decide, by decide⟩ (by decide) (by decide) dL_cell_35 rfl (fun X g q _ => (XN_0 q.2 hK).elim) (fun v h hp hlc => ?_)
  obtain ⟨-, hS, x, e9, hV⟩ := hp
  rw [e1, e2] at hV
  rw [VH_u hc hV v4] at e9
  subst e9
  refine am_iload hC dL_cell_38 rfl ?_
  refine am_icmp_ne (tgt := 47) hC dL_cell_40 (by decide) (fun c_40 => absurd rfl c_40) (fun c_40 => ?_)
  refine am_iconst (v := nI 1) hC dL_cell_43 (by decide) ?_
  refine am_goto (tgt := 48) hC dL_cell_44 (by decide) ?_
  refine am_iret hC hR rfl (by decide) (by decide) dL_cell_48 ?_
  exact ⟨rfl, hS⟩
