/-! ===== the class's calls, over the data ===== -/
theorem am_mono {G : am_G} {l : Launch} {y : MethodName} {hd : Cond} {L mc ms : Nat} {As : List Value} {h0 : am_H} {P P' : Option Value → am_H → Prop} {E E' : String → am_H → Prop} (hM : am_Met G l y hd L mc ms As h0 P E) (hP : ∀ v h, am_le h0 h → P v h → P' v h) (hE : ∀ X h, am_le h0 h → E X h → E' X h) : am_Met G l y hd L mc ms As h0 P' E' := by
  intro ad0 p e a1 a2 a3 s m args below a4 a5 a6 a7
  obtain ⟨n, o, b1, b2, b3, b4⟩ := hM ad0 p e a1 a2 a3 s m args below a4 a5 a6 a7
  refine ⟨n, o, b1, b2, b3, ?_⟩
  rcases b4 with ⟨⟨v, h, ad, c1, c2, c3, c4, c5, c6⟩, c7⟩ | ⟨q, c1, E9, ce, L9, ⟨h, ad, d1, d2, d3, d4⟩, c3⟩
  · exact Or.inl ⟨⟨v, h, ad, c1, hP v h c4.1 c2, c3, c4, c5, c6⟩, c7⟩
  · exact Or.inr ⟨q, c1, E9, ce, L9, ⟨h, ad, hE _ h d2.1 d1, d2, d3, d4⟩, c3⟩
def k2 (a b : Bool) : Nat := if a = false then 1 else if b = false then 3 else 0
/-- the exceptions by their numbers -/
def XN (X : String) (c : Nat) : Prop := (c = 1 ∧ X = "java/lang/IndexOutOfBoundsException") ∨ (c = 2 ∧ X = "java/lang/IllegalArgumentException") ∨ (c = 3 ∧ X = "java/lang/IllegalStateException")
theorem XN_0 {X : String} {c : Nat} (h : XN X c) (z : c = 0) : False := by
  subst z
  rcases h with ⟨h, -⟩ | ⟨h, -⟩ | ⟨h, -⟩ <;> exact absurd h (by decide)
theorem XN_3 {X : String} {k c : Nat} (e : k = c) (h : EX ["java/lang/IndexOutOfBoundsException", "java/lang/IllegalArgumentException", "java/lang/IllegalStateException"] k X) : XN X c := by
  subst e
  obtain ⟨i, hK, hX⟩ := h
  obtain _ | _ | _ | i := i
  · exact Or.inl ⟨hK, (Option.some.inj hX).symm⟩
  · exact Or.inr (Or.inl ⟨hK, (Option.some.inj hX).symm⟩)
  · exact Or.inr (Or.inr ⟨hK, (Option.some.inj hX).symm⟩)
  · exact nomatch hX
theorem XN_2 {X : String} {a b : Bool} (h : EX ["java/lang/IndexOutOfBoundsException", "java/lang/IllegalStateException"] (k3 a b true) X) : XN X (k2 a b) := by
  obtain ⟨i, hK, hX⟩ := h
  obtain _ | _ | i := i
  · refine Or.inl ⟨?_, (Option.some.inj hX).symm⟩
    revert hK
    cases a <;> cases b <;> decide
  · refine Or.inr (Or.inr ⟨?_, (Option.some.inj hX).symm⟩)
    revert hK
    cases a <;> cases b <;> decide
  · exact nomatch hX
theorem XN_1 {X : String} {a : Bool} (h : EX ["java/lang/IllegalStateException"] (k3 a true true) X) : XN X (if a = true then 0 else 3) := by
  obtain ⟨i, hK, hX⟩ := h
  obtain _ | i := i
  · refine Or.inr (Or.inr ⟨?_, (Option.some.inj hX).symm⟩)
    revert hK
    cases a <;> decide
  · exact nomatch hX
theorem k3_z {a b c : Bool} (h : k3 a b c = 0) : a = true ∧ b = true ∧ c = true := by
  cases a <;> cases b <;> cases c <;> first | exact ⟨rfl, rfl, rfl⟩ | exact absurd h (by decide)
theorem k3_cg {a b c c' : Bool} (h : a = true → b = true → c = c') : k3 a b c = k3 a b c' := by
  cases a
  · rfl
  · cases b
    · rfl
    · rw [h rfl rfl]
theorem k3_k2 {a b : Bool} (h : k3 a b true = 0) : k2 a b = 0 := by
  revert h
  cases a <;> cases b <;> decide
theorem k2_z {a b : Bool} (h : k2 a b = 0) : a = true ∧ b = true := by
  cases a <;> cases b <;> first | exact ⟨rfl, rfl⟩ | exact absurd h (by decide)
theorem IX_dn {n : Nat} {D : Int32} (hn : n < 2 ^ 31) (h : IX n D = true) : dn D < n ∧ D = nI (dn D) := by
  obtain ⟨j, hj, rfl⟩ := (IX_iff hn).mp h
  rw [dn_nI (by omega)]
  exact ⟨hj, rfl⟩
def z_kB (σ : z_Sg) : Nat := if decide (z_n σ < 6) = true then 0 else 3
def z_kT (σ : z_Sg) (D P S W : Int32) : Nat := k3 (IX (z_n σ) D) (IX 6 P && IX 40 S && IW W) (decide (z_ch σ (dn D) = P))
def z_kE (σ : z_Sg) (D P S : Int32) : Nat := k3 (IX (z_n σ) D) (IX 6 P && IX 25 S) (decide (z_ch σ (dn D) = P))
def z_kR (σ : z_Sg) (D P O : Int32) (b : Bool) : Nat := k3 (IX (z_n σ) D && IX (z_n σ) O) (IX 6 P) (decide (z_ch σ (dn D) = P) && !(b && ldF (z_R σ) 6 (dn O) (dn D)))
def z_kS (σ : z_Sg) (D S : Int32) : Nat := k3 (IX (z_n σ) D) (IX 40 S) true
def z_kC (σ : z_Sg) (D C : Int32) : Nat := k3 (IX (z_n σ) D) (IX 25 C) true
def z_kN (σ : z_Sg) (D : Int32) : Nat := k3 (IX (z_n σ) D) true true
def z_kL (σ : z_Sg) (D P : Int32) : Nat := k3 (IX (z_n σ) D) (IX 6 P) (decide (z_L σ (dn D) = -1))
def z_kU (σ : z_Sg) (D P : Int32) : Nat := k3 (IX (z_n σ) D) (IX 6 P) (decide (z_L σ (dn D) = P) && decide (z_B σ (dn D) = -1))
def z_kD (σ : z_Sg) (D P O : Int32) : Nat := k3 (IX (z_n σ) D) (IX 6 P && ((decide (O = -1) || IX 6 O) && !decide (P = O))) (decide (z_L σ (dn D) = P))
def z_kG (σ : z_Sg) (D : Int32) (R : Bool) : Nat := k2 (IX (z_n σ) D) (decide (z_np σ < 20) && R)
def z_kH (σ : z_Sg) (P : Int32) : Nat := k3 (IX (z_np σ) P) true true
def z_kP (σ : z_Sg) (D : Int32) : Nat := k2 (IX (z_n σ) D) (decide (z_nq σ < 30))
def z_kQ (σ : z_Sg) (P : Int32) : Nat := k3 (IX (z_nq σ) P) true true
theorem SZ_IX {h : am_H} {σ : z_Sg} (hS : SZ h σ) {D : Int32} (h1 : IX (z_n σ) D = true) : dn D < z_n σ := (IX_dn (by have := (SZ_6 hS).1; omega) h1).1
theorem SZ_IP {h : am_H} {σ : z_Sg} (hS : SZ h σ) {D : Int32} (h1 : IX (z_np σ) D = true) : dn D < z_np σ := (IX_dn (by have := (SZ_6 hS).2.1; omega) h1).1
theorem SZ_IQ {h : am_H} {σ : z_Sg} (hS : SZ h σ) {D : Int32} (h1 : IX (z_nq σ) D = true) : dn D < z_nq σ := (IX_dn (by have := (SZ_6 hS).2.2; omega) h1).1
theorem d_tell (G : am_G) (l : Launch) (htr : l.stackTraces = false) (h : am_H) {σ : z_Sg} (hS : SZ h σ) (D : Int32) (P : Int32) (S : Int32) (W : Int32) : am_Met G l yX5_tell (.code yX5_tell cX5_tell 7 (some .int)) 9 8 48 [.ref (3), .int (D), .int (P), .int (S), .int (W)] h (fun v h' => z_kT σ D P S W = 0 ∧ v = some (.int (z_cd (z_T σ (dn D) (dn S)))) ∧ SZ h' (z_uT σ (dn D) (dn S) (z_ec W))) (fun X h' => SZ h' σ ∧ XN X (z_kT σ D P S W)) := by
  have hK : k3 (IX (z_n σ) D) (IX 6 P && IX 40 S && IW W) (decide (chg h (dn D) = P)) = z_kT σ D P S W := k3_cg (fun a _ => by rw [SZ_ch hS (SZ_IX hS a)])
  refine am_mono (c_X5_tell G l htr h _ _ _ hS.1 D P S W) (fun v h' hle hp => ?_) (fun X h' hle hx => ?_)
  · obtain ⟨h1, rfl, rfl⟩ := hp
    rw [hK] at h1
    obtain ⟨a, b, c⟩ := k3_z h1
    rw [Bool.and_eq_true, Bool.and_eq_true] at b
    have hs := (IX_dn (by decide) b.1.2).1
    exact ⟨h1, by rw [(hS.2.1 _ (SZ_IX hS a)).2.1 _ hs]; rfl, SZ_uT hS (SZ_IX hS a) hs b.2⟩
  · obtain ⟨rfl, hx⟩ := hx
    exact ⟨hS, XN_3 hK hx⟩
theorem d_setExit (G : am_G) (l : Launch) (htr : l.stackTraces = false) (h : am_H) {σ : z_Sg} (hS : SZ h σ) (D : Int32) (P : Int32) (S : Int32) (b : Bool) : am_Met G l yX5_setExit (.code yX5_setExit cX5_setExit 7 (some .boolean)) 9 8 48 [.ref (3), .int (D), .int (P), .int (S), .int (b2i b)] h (fun v h' => z_kE σ D P S = 0 ∧ v = some (.int (b2i (z_X σ (dn D) (dn S)))) ∧ SZ h' (z_uX σ (dn D) (dn S) b)) (fun X h' => SZ h' σ ∧ XN X (z_kE σ D P S)) := by
  have hK : k3 (IX (z_n σ) D) (IX 6 P && IX 25 S) (decide (chg h (dn D) = P)) = z_kE σ D P S := k3_cg (fun a _ => by rw [SZ_ch hS (SZ_IX hS a)])
  refine am_mono (c_X5_setExit G l htr h _ _ _ hS.1 D P S b) (fun v h' hle hp => ?_) (fun X h' hle hx => ?_)
  · obtain ⟨h1, rfl, rfl⟩ := hp
    rw [hK] at h1
    obtain ⟨a, q, c⟩ := k3_z h1
    rw [Bool.and_eq_true] at q
    have hs := (IX_dn (by decide) q.2).1
    exact ⟨h1, by rw [(hS.2.1 _ (SZ_IX hS a)).2.2.1 _ hs]; rfl, SZ_uX hS (SZ_IX hS a) hs⟩
  · obtain ⟨rfl, hx⟩ := hx
    exact ⟨hS, XN_3 hK hx⟩
theorem d_refer (G : am_G) (l : Launch) (htr : l.stackTraces = false) (h : am_H) {σ : z_Sg} (hS : SZ h σ) (D : Int32) (P : Int32) (O : Int32) (b : Bool) : am_Met G l yX5_refer (.code yX5_refer cX5_refer 8 (some .boolean)) 9 8 48 [.ref (3), .int (D), .int (P), .int (O), .int (b2i b)] h (fun v h' => z_kR σ D P O b = 0 ∧ v = some (.int (b2i (z_R σ (dn D) (dn O)))) ∧ SZ h' (z_uR σ (dn D) (dn O) b)) (fun X h' => SZ h' σ ∧ XN X (z_kR σ D P O b)) := by
  have hK : k3 (IX (z_n σ) D && IX (z_n σ) O) (IX 6 P) (decide (chg h (dn D) = P) && !(b && ldF (rC h) 6 (dn O) (dn D))) = z_kR σ D P O b := k3_cg (fun a _ => by
    rw [Bool.and_eq_true] at a
    rw [SZ_ch hS (SZ_IX hS a.1), SZ_ld hS (SZ_IX hS a.2)])
  refine am_mono (c_X5_refer G l htr h _ _ _ hS.1 D P O b) (fun v h' hle hp => ?_) (fun X h' hle hx => ?_)
  · obtain ⟨h1, rfl, rfl⟩ := hp
    rw [hK] at h1
    obtain ⟨a, q, c⟩ := k3_z h1
    rw [Bool.and_eq_true] at a
    have ho := SZ_IX hS a.2
    exact ⟨h1, by rw [(hS.2.1 _ (SZ_IX hS a.1)).2.2.2.1 _ (by have := (SZ_6 hS).1; omega)]; rfl, SZ_uR hS (SZ_IX hS a.1) ho⟩
  · obtain ⟨rfl, hx⟩ := hx
    exact ⟨hS, XN_3 hK hx⟩
theorem d_side (G : am_G) (l : Launch) (htr : l.stackTraces = false) (h : am_H) {σ : z_Sg} (hS : SZ h σ) (D : Int32) (S : Int32) : am_Met G l yX5_side (.code yX5_side cX5_side 4 (some .int)) 9 8 48 [.ref (3), .int (D), .int (S)] h (fun v h' => z_kS σ D S = 0 ∧ v = some (.int (z_sdS σ (dn D) (dn S))) ∧ SZ h' σ) (fun X h' => SZ h' σ ∧ XN X (z_kS σ D S)) := by
  have hK : k3 (IX (z_n σ) D) (IX 40 S) true = z_kS σ D S := rfl
  refine am_mono (c_X5_side G l htr h _ _ _ hS.1 D S) (fun v h' hle hp => ?_) (fun X h' hle hx => ?_)
  · obtain ⟨h1, rfl, rfl⟩ := hp
    obtain ⟨a, q, c⟩ := k3_z h1
    have hs := (IX_dn (by decide) q).1
    exact ⟨h1, by rw [SZ_sdS hS (SZ_IX hS a) _ hs], hS⟩
  · obtain ⟨rfl, hx⟩ := hx
    exact ⟨hS, XN_3 hK hx⟩
theorem d_hasExit (G : am_G) (l : Launch) (htr : l.stackTraces = false) (h : am_H) {σ : z_Sg} (hS : SZ h σ) (D : Int32) (S : Int32) : am_Met G l yX5_hasExit (.code yX5_hasExit cX5_hasExit 4 (some .boolean)) 9 8 48 [.ref (3), .int (D), .int (S)] h (fun v h' => z_kC σ D S = 0 ∧ v = some (.int (b2i (z_exS σ (dn D) (dn S)))) ∧ SZ h' σ) (fun X h' => SZ h' σ ∧ XN X (z_kC σ D S)) := by
  have hK : k3 (IX (z_n σ) D) (IX 25 S) true = z_kC σ D S := rfl
  refine am_mono (c_X5_hasExit G l htr h _ _ _ hS.1 D S) (fun v h' hle hp => ?_) (fun X h' hle hx => ?_)
  · obtain ⟨h1, rfl, rfl⟩ := hp
    obtain ⟨a, q, c⟩ := k3_z h1
    have hs := (IX_dn (by decide) q).1
    exact ⟨h1, by rw [SZ_exS hS (SZ_IX hS a) _ hs], hS⟩
  · obtain ⟨rfl, hx⟩ := hx
    exact ⟨hS, XN_3 hK hx⟩
theorem d_canChange (G : am_G) (l : Launch) (htr : l.stackTraces = false) (h : am_H) {σ : z_Sg} (hS : SZ h σ) (D : Int32) : am_Met G l yX5_canChange (.code yX5_canChange cX5_canChange 2 (some .int)) 9 8 48 [.ref (3), .int (D)] h (fun v h' => z_kN σ D = 0 ∧ v = some (.int (z_ch σ (dn D))) ∧ SZ h' σ) (fun X h' => SZ h' σ ∧ XN X (z_kN σ D)) := by
  have hK : k3 (IX (z_n σ) D) true true = z_kN σ D := rfl
  refine am_mono (c_X5_canChange G l htr h _ _ _ hS.1 D) (fun v h' hle hp => ?_) (fun X h' hle hx => ?_)
  · obtain ⟨h1, rfl, rfl⟩ := hp
    obtain ⟨a, q, c⟩ := k3_z h1
    exact ⟨h1, by rw [SZ_ch hS (SZ_IX hS a)], hS⟩
  · obtain ⟨rfl, hx⟩ := hx
    exact ⟨hS, XN_3 hK hx⟩
theorem d_permitOf (G : am_G) (l : Launch) (htr : l.stackTraces = false) (h : am_H) {σ : z_Sg} (hS : SZ h σ) (P : Int32) : am_Met G l yX5_permitOf (.code yX5_permitOf cX5_permitOf 2 (some .int)) 9 8 48 [.ref (3), .int (P)] h (fun v h' => z_kQ σ P = 0 ∧ v = some (.int ((z_gQ σ (dn P)).2.2.2)) ∧ SZ h' σ) (fun X h' => SZ h' σ ∧ XN X (z_kQ σ P)) := by
  have hK : k3 (IX (z_nq σ) P) true true = z_kQ σ P := rfl
  refine am_mono (c_X5_permitOf G l htr h _ _ _ hS.1 P) (fun v h' hle hp => ?_) (fun X h' hle hx => ?_)
  · obtain ⟨h1, e, rfl⟩ := hp
    subst e
    obtain ⟨a, q, c⟩ := k3_z h1
    exact ⟨h1, by rw [(hS.2.2.2 _ (SZ_IQ hS a)).2.2.2], hS⟩
  · obtain ⟨rfl, hx⟩ := hx
    exact ⟨hS, XN_3 hK hx⟩
theorem d_lock (G : am_G) (l : Launch) (htr : l.stackTraces = false) (h : am_H) {σ : z_Sg} (hS : SZ h σ) (D : Int32) (P : Int32) : am_Met G l yX5_lock (.code yX5_lock cX5_lock 4 none) 9 8 48 [.ref (3), .int (D), .int (P)] h (fun v h' => z_kL σ D P = 0 ∧ v = none ∧ SZ h' (z_uL σ (dn D) P)) (fun X h' => SZ h' σ ∧ XN X (z_kL σ D P)) := by
  have hK : k3 (IX (z_n σ) D) (IX 6 P) (decide (hi_ h (100 + 4 * dn D) 3 = -1)) = z_kL σ D P := k3_cg (fun a _ => by rw [(hS.2.1 _ (SZ_IX hS a)).2.2.2.2.1]; rfl)
  refine am_mono (c_X5_lock G l htr h _ _ _ hS.1 D P) (fun v h' hle hp => ?_) (fun X h' hle hx => ?_)
  · obtain ⟨h1, rfl, rfl⟩ := hp
    rw [hK] at h1
    obtain ⟨a, q, c⟩ := k3_z h1
    exact ⟨h1, rfl, SZ_uL hS (SZ_IX hS a)⟩
  · obtain ⟨rfl, hx⟩ := hx
    exact ⟨hS, XN_3 hK hx⟩
theorem d_unlock (G : am_G) (l : Launch) (htr : l.stackTraces = false) (h : am_H) {σ : z_Sg} (hS : SZ h σ) (D : Int32) (P : Int32) : am_Met G l yX5_unlock (.code yX5_unlock cX5_unlock 4 none) 9 8 48 [.ref (3), .int (D), .int (P)] h (fun v h' => z_kU σ D P = 0 ∧ v = none ∧ SZ h' (z_uL σ (dn D) (-1))) (fun X h' => SZ h' σ ∧ XN X (z_kU σ D P)) := by
  have hK : k3 (IX (z_n σ) D) (IX 6 P) (decide (hi_ h (100 + 4 * dn D) 3 = P) && decide (hi_ h (100 + 4 * dn D) 4 = -1)) = z_kU σ D P := k3_cg (fun a _ => by rw [(hS.2.1 _ (SZ_IX hS a)).2.2.2.2.1, (hS.2.1 _ (SZ_IX hS a)).2.2.2.2.2]; rfl)
  refine am_mono (c_X5_unlock G l htr h _ _ _ hS.1 D P) (fun v h' hle hp => ?_) (fun X h' hle hx => ?_)
  · obtain ⟨h1, rfl, rfl⟩ := hp
    rw [hK] at h1
    obtain ⟨a, q, c⟩ := k3_z h1
    exact ⟨h1, rfl, SZ_uL hS (SZ_IX hS a)⟩
  · obtain ⟨rfl, hx⟩ := hx
    exact ⟨hS, XN_3 hK hx⟩
theorem d_lend (G : am_G) (l : Launch) (htr : l.stackTraces = false) (h : am_H) {σ : z_Sg} (hS : SZ h σ) (D : Int32) (P : Int32) (O : Int32) : am_Met G l yX5_lend (.code yX5_lend cX5_lend 6 (some .int)) 9 8 48 [.ref (3), .int (D), .int (P), .int (O)] h (fun v h' => z_kD σ D P O = 0 ∧ v = some (.int (z_B σ (dn D))) ∧ SZ h' (z_uB σ (dn D) O)) (fun X h' => SZ h' σ ∧ XN X (z_kD σ D P O)) := by
  have hK : k3 (IX (z_n σ) D) (IX 6 P && ((decide (O = -1) || IX 6 O) && !decide (P = O))) (decide (hi_ h (100 + 4 * dn D) 3 = P)) = z_kD σ D P O := k3_cg (fun a _ => by rw [(hS.2.1 _ (SZ_IX hS a)).2.2.2.2.1]; rfl)
  refine am_mono (c_X5_lend G l htr h _ _ _ hS.1 D P O) (fun v h' hle hp => ?_) (fun X h' hle hx => ?_)
  · obtain ⟨h1, rfl, rfl⟩ := hp
    rw [hK] at h1
    obtain ⟨a, q, c⟩ := k3_z h1
    exact ⟨h1, by rw [(hS.2.1 _ (SZ_IX hS a)).2.2.2.2.2]; rfl, SZ_uB hS (SZ_IX hS a)⟩
  · obtain ⟨rfl, hx⟩ := hx
    exact ⟨hS, XN_3 hK hx⟩
theorem d_rooms (G : am_G) (l : Launch) (htr : l.stackTraces = false) (h : am_H) {σ : z_Sg} (hS : SZ h σ) (D : Int32) : am_Met G l yX5_rooms (.code yX5_rooms cX5_rooms 2 (some .int)) 11 8 48 [.ref (3), .int (D)] h (fun v h' => z_kN σ D = 0 ∧ SZ h' σ ∧ ∃ x, v = some (.int x) ∧ VR (z_sdS σ (dn D)) x) (fun X h' => SZ h' σ ∧ XN X (z_kN σ D)) := by
  refine am_mono (c_X5_rooms G l htr h _ _ _ hS.1 D) (fun v h' hle hp => ?_) (fun X h' hle hx => ?_)
  · obtain ⟨h1, e, x, rfl, hV⟩ := hp
    obtain ⟨a, q, c⟩ := k3_z h1
    exact ⟨h1, SZ_FS e hle hS, x, rfl, VR_cg (SZ_sdS hS (SZ_IX hS a)) hV⟩
  · obtain ⟨rfl, hx⟩ := hx
    exact ⟨hS, XN_3 rfl hx⟩
theorem d_room (G : am_G) (l : Launch) (htr : l.stackTraces = false) (h : am_H) {σ : z_Sg} (hS : SZ h σ) (D : Int32) (C : Int32) : am_Met G l yX5_room (.code yX5_room cX5_room 4 (some .int)) 11 8 48 [.ref (3), .int (D), .int (C)] h (fun v h' => z_kC σ D C = 0 ∧ SZ h' σ ∧ ∃ x, v = some (.int x) ∧ VM (z_sdS σ (dn D)) (dn C) x) (fun X h' => SZ h' σ ∧ XN X (z_kC σ D C)) := by
  refine am_mono (c_X5_room G l htr h _ _ _ hS.1 D C) (fun v h' hle hp => ?_) (fun X h' hle hx => ?_)
  · obtain ⟨h1, e, x, rfl, hV⟩ := hp
    obtain ⟨a, q, c⟩ := k3_z h1
    exact ⟨h1, SZ_FS e hle hS, x, rfl, VM_cg (SZ_sdS hS (SZ_IX hS a)) hV⟩
  · obtain ⟨rfl, hx⟩ := hx
    exact ⟨hS, XN_3 rfl hx⟩
theorem d_size (G : am_G) (l : Launch) (htr : l.stackTraces = false) (h : am_H) {σ : z_Sg} (hS : SZ h σ) (D : Int32) (C : Int32) : am_Met G l yX5_size (.code yX5_size cX5_size 4 (some .int)) 11 8 48 [.ref (3), .int (D), .int (C)] h (fun v h' => z_kC σ D C = 0 ∧ SZ h' σ ∧ ∃ x, v = some (.int x) ∧ VS (z_sdS σ (dn D)) (dn C) x) (fun X h' => SZ h' σ ∧ XN X (z_kC σ D C)) := by
  refine am_mono (c_X5_size G l htr h _ _ _ hS.1 D C) (fun v h' hle hp => ?_) (fun X h' hle hx => ?_)
  · obtain ⟨h1, e, x, rfl, hV⟩ := hp
    obtain ⟨a, q, c⟩ := k3_z h1
    exact ⟨h1, SZ_FS e hle hS, x, rfl, VS_cg (SZ_sdS hS (SZ_IX hS a)) hV⟩
  · obtain ⟨rfl, hx⟩ := hx
    exact ⟨hS, XN_3 rfl hx⟩
theorem d_doorsOut (G : am_G) (l : Launch) (htr : l.stackTraces = false) (h : am_H) {σ : z_Sg} (hS : SZ h σ) (D : Int32) (C : Int32) : am_Met G l yX5_doorsOut (.code yX5_doorsOut cX5_doorsOut 4 (some .int)) 11 8 48 [.ref (3), .int (D), .int (C)] h (fun v h' => z_kC σ D C = 0 ∧ SZ h' σ ∧ ∃ x, v = some (.int x) ∧ VD (z_sdS σ (dn D)) (z_exS σ (dn D)) (dn C) x) (fun X h' => SZ h' σ ∧ XN X (z_kC σ D C)) := by
  refine am_mono (c_X5_doorsOut G l htr h _ _ _ hS.1 D C) (fun v h' hle hp => ?_) (fun X h' hle hx => ?_)
  · obtain ⟨h1, e, x, rfl, hV⟩ := hp
    obtain ⟨a, q, c⟩ := k3_z h1
    exact ⟨h1, SZ_FS e hle hS, x, rfl, VD_cg (SZ_sdS hS (SZ_IX hS a)) (SZ_exS hS (SZ_IX hS a)) hV⟩
  · obtain ⟨rfl, hx⟩ := hx
    exact ⟨hS, XN_3 rfl hx⟩
theorem d_doorThatHelps (G : am_G) (l : Launch) (htr : l.stackTraces = false) (h : am_H) {σ : z_Sg} (hS : SZ h σ) (D : Int32) (C : Int32) : am_Met G l yX5_doorThatHelps (.code yX5_doorThatHelps cX5_doorThatHelps 4 (some .int)) 11 8 48 [.ref (3), .int (D), .int (C)] h (fun v h' => z_kC σ D C = 0 ∧ SZ h' σ ∧ ∃ x, v = some (.int x) ∧ VH (z_sdS σ (dn D)) (z_exS σ (dn D)) (dn C) x) (fun X h' => SZ h' σ ∧ XN X (z_kC σ D C)) := by
  refine am_mono (c_X5_doorThatHelps G l htr h _ _ _ hS.1 D C) (fun v h' hle hp => ?_) (fun X h' hle hx => ?_)
  · obtain ⟨h1, e, x, rfl, hV⟩ := hp
    obtain ⟨a, q, c⟩ := k3_z h1
    exact ⟨h1, SZ_FS e hle hS, x, rfl, VH_cg (SZ_sdS hS (SZ_IX hS a)) (SZ_exS hS (SZ_IX hS a)) hV⟩
  · obtain ⟨rfl, hx⟩ := hx
    exact ⟨hS, XN_3 rfl hx⟩
theorem d_holds (G : am_G) (l : Launch) (htr : l.stackTraces = false) (h : am_H) {σ : z_Sg} (hS : SZ h σ) (P : Int32) : am_Met G l yX5_holds (.code yX5_holds cX5_holds 2 (some .boolean)) 11 8 48 [.ref (3), .int (P)] h (fun v h' => z_kH σ P = 0 ∧ v = some (.int (b2i (z_pok σ (dn P)))) ∧ SZ h' σ) (fun X h' => SZ h' σ ∧ XN X (z_kH σ P)) := by
  refine am_mono (c_X5_holds G l htr h _ _ _ hS.1 P) (fun v h' hle hp => ?_) (fun X h' hle hx => ?_)
  · obtain ⟨h1, rfl, R, rfl, hR⟩ := hp
    obtain ⟨a, q, c⟩ := k3_z h1
    exact ⟨h1, by rw [z_tf hR (SZ_pok hS (SZ_IP hS a))], hS⟩
  · obtain ⟨rfl, hx⟩ := hx
    exact ⟨hS, XN_3 rfl hx⟩
theorem d_isGood (G : am_G) (l : Launch) (htr : l.stackTraces = false) (h : am_H) {σ : z_Sg} (hS : SZ h σ) (P : Int32) : am_Met G l yX5_isGood (.code yX5_isGood cX5_isGood 3 (some .boolean)) 11 8 48 [.ref (3), .int (P)] h (fun v h' => z_kQ σ P = 0 ∧ v = some (.int (b2i (z_good σ (dn P)))) ∧ SZ h' σ) (fun X h' => SZ h' σ ∧ XN X (z_kQ σ P)) := by
  refine am_mono (c_X5_isGood G l htr h _ _ _ hS.1 P) (fun v h' hle hp => ?_) (fun X h' hle hx => ?_)
  · obtain ⟨h1, rfl, R, rfl, hR⟩ := hp
    obtain ⟨a, q, c⟩ := k3_z h1
    exact ⟨h1, by rw [SZ_good hS (SZ_IQ hS a) hR], hS⟩
  · obtain ⟨rfl, hx⟩ := hx
    exact ⟨hS, XN_3 rfl hx⟩
theorem d_drawings (G : am_G) (l : Launch) (htr : l.stackTraces = false) (h : am_H) {σ : z_Sg} (hS : SZ h σ) : am_Met G l yX5_drawings (.code yX5_drawings cX5_drawings 1 (some .int)) 2 0 0 [.ref (3)] h (fun v h' => v = some (.int (nI (z_n σ))) ∧ SZ h' σ) (am_no) := by
  refine am_mono (c_X5_drawings G l htr h _ _ _ hS.1) (fun v h' hle hp => ?_) (fun X h' hle hx => ?_)
  · obtain ⟨rfl, rfl⟩ := hp
    exact ⟨rfl, hS⟩
  · exact hx
theorem d_old (G : am_G) (l : Launch) (htr : l.stackTraces = false) (h : am_H) {σ : z_Sg} (hS : SZ h σ) : am_Met G l yX5_old (.code yX5_old cX5_old 3 (some .int)) 11 0 0 [.ref (3)] h (fun v h' => v = some (.int (z_old σ)) ∧ SZ h' σ) (am_no) := by
  refine am_mono (c_X5_old G l htr h _ _ _ hS.1) (fun v h' hle hp => ?_) (fun X h' hle hx => ?_)
  · obtain ⟨rfl, p, hp, rfl⟩ := hp
    exact ⟨by rw [SZ_old hS hp], hS⟩
  · exact hx
theorem d_begin (G : am_G) (l : Launch) (htr : l.stackTraces = false) (h : am_H) {σ : z_Sg} (hS : SZ h σ) : am_Met G l yX5_begin (.code yX5_begin cX5_begin 2 (some .int)) 9 8 160 [.ref (3)] h (fun v h' => z_kB σ = 0 ∧ v = some (.int (nI (z_n σ))) ∧ SZ h' (z_begin σ)) (fun X h' => SZ h' σ ∧ XN X (z_kB σ)) := by
  refine am_mono (c_X5_begin G l htr h _ _ _ hS.1) (fun v h' hle hp => ?_) (fun X h' hle hx => ?_)
  · obtain ⟨h1, rfl, e, -, hc, hn⟩ := hp
    exact ⟨if_pos (k3_z h1).1, rfl, SZ_begin hS e hc hn⟩
  · obtain ⟨rfl, hx⟩ := hx
    exact ⟨hS, XN_1 hx⟩
theorem z_VWx (sd : Nat → Int32) (ex : Nat → Bool) : ∃ R, VW sd ex R := by
  have key : ∀ i, i ≤ 40 → ∃ ro, PR sd i ro := fun i => by
    induction i with
    | zero => exact fun _ => ⟨_, PR_0 sd⟩
    | succ i ih =>
      intro hi
      obtain ⟨ro, hr⟩ := ih (by omega)
      by_cases ho : opn (sd i)
      · exact ⟨_, PR_join hr (by omega) ho⟩
      · exact ⟨ro, PR_skip hr ho⟩
  obtain ⟨ro, hr⟩ := key 40 (Nat.le_refl 40)
  obtain ⟨D, hD⟩ := Dist_ex 25 (exR ex ro) (adjD sd ro)
  by_cases z : ∀ c, c < 25 → D (ro c) ≠ none
  · exact ⟨true, ro, D, hr, hD, ⟨fun _ => z, fun _ => rfl⟩⟩
  · exact ⟨false, ro, D, hr, hD, ⟨fun q => absurd q (by decide), fun q => absurd q z⟩⟩
theorem d_grant (G : am_G) (l : Launch) (htr : l.stackTraces = false) (h : am_H) {σ : z_Sg} (hS : SZ h σ) (D : Int32) (R : Bool) (hR : IX (z_n σ) D = true → VW (z_sdS σ (dn D)) (z_exS σ (dn D)) R) : am_Met G l yX5_grant (.code yX5_grant cX5_grant 4 (some .int)) 11 10 190 [.ref (3), .int (D)] h (fun v h' => z_kG σ D R = 0 ∧ v = some (.int (nI (z_np σ))) ∧ SZ h' (z_grant σ (dn D))) (fun X h' => SZ h' σ ∧ XN X (z_kG σ D R)) := by
  refine am_mono (c_X5_grant G l htr h _ _ _ hS.1 D) (fun v h' hle hp => ?_) (fun X h' hle hx => ?_)
  · obtain ⟨h1, rfl, e, -, hc, p0, p1, p2⟩ := hp
    obtain ⟨R9, hR9⟩ := z_VWx (sdH h (dn D)) (exH h (dn D))
    have a := (k3_z (h1 R9 hR9)).1
    exact ⟨k3_k2 (h1 R (VW_cg (fun s hs => (SZ_sdS hS (SZ_IX hS a) s hs).symm) (fun c hc => (SZ_exS hS (SZ_IX hS a) c hc).symm) (hR a))), rfl, SZ_grant hS (SZ_IX hS a) e hc p0 p1 p2⟩
  · obtain ⟨e, -, hx⟩ := hx
    refine ⟨SZ_FS e hle hS, ?_⟩
    by_cases a : IX (z_n σ) D = true
    · exact XN_2 (hx R (VW_cg (fun s hs => (SZ_sdS hS (SZ_IX hS a) s hs).symm) (fun c hc => (SZ_exS hS (SZ_IX hS a) c hc).symm) (hR a)))
    · obtain ⟨R9, hR9⟩ := z_VWx (sdH h (dn D)) (exH h (dn D))
      have q := XN_2 (hx R9 hR9)
      have a : IX (z_n σ) D = false := by simpa using a
      unfold z_kG
      rw [a] at q ⊢
      exact q
theorem d_print (G : am_G) (l : Launch) (htr : l.stackTraces = false) (h : am_H) {σ : z_Sg} (hS : SZ h σ) (D : Int32) : am_Met G l yX5_print (.code yX5_print cX5_print 4 (some .int)) 12 10 190 [.ref (3), .int (D)] h (fun v h' => z_kP σ D = 0 ∧ v = some (.int (nI (z_nq σ))) ∧ SZ h' (z_print σ (dn D) (z_hp σ (dn D) (z_np σ)))) (fun X h' => SZ h' σ ∧ XN X (z_kP σ D)) := by
  refine am_mono (c_X5_print G l htr h _ _ _ hS.1 D) (fun v h' hle hp => ?_) (fun X h' hle hx => ?_)
  · obtain ⟨h1, rfl, e, -, hc, p0, p1, p2, p3⟩ := hp
    have a := (k3_z h1).1
    have q := SZ_print hS (SZ_IX hS a) e hc p0 p1 p2
    rw [SZ_hp hS p3] at q
    exact ⟨k3_k2 h1, rfl, q⟩
  · obtain ⟨rfl, hx⟩ := hx
    exact ⟨hS, XN_2 hx⟩
