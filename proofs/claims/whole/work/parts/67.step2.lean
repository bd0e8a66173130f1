/-! ===== a step of each call ===== -/
def RESN (h : am_H) (K : Nat) : Prop := FM h ∧ hi_ h 14 19 = nI K ∧ OA h ∧ ∃ n np nq, INV h n np nq
theorem RES_ch {g h1 h2 : am_H} {n np nq R k : Nat} {Y x V : Int32} (hR : 15 ≤ R ∧ R < 20) (e1 : h1 = am_sL g 40 0 x.toInt64) (mh : h2 = am_sI (am_sI h1 14 19 (nI 0)) R k Y) (mm : MI g h2 n np nq) (hc : CI g n np nq) (ho : OA h1) (hx : x = V) : RES h2 0 V := by
  have hle : am_le g h2 := by rw [mh, e1]; exact fun _ _ => ⟨rfl, rfl⟩
  have ho2 : OA h2 := by rw [mh]; exact ho
  have e : am_eq (fun q => 9 ≤ q ∧ q < 100) g h2 := by
    rw [mh, e1]
    exact am_eq_tr (am_eq_sL (by decide)) (am_eq_tr (am_eq_sI (by decide)) (am_eq_sI (by omega)))
  have i2 := INV_fin (fun r hr => hr) hc mm e hle ho2
  refine ⟨i2.2.1.1.1, ?_, fun _ => ?_, ho2, n, np, nq, i2⟩
  · rw [mh, hi_sI, if_neg (by omega)]; exact hi_sI_s _ _ _ _
  · rw [mh, e1, ← hx]; exact hl_sL_s g 40 0 _
theorem RESN_ch {g h2 : am_H} {n np nq R k : Nat} {Y : Int32} (hR : 15 ≤ R ∧ R < 20) (mh : h2 = am_sI (am_sI g 14 19 (nI 0)) R k Y) (mm : MI g h2 n np nq) (hc : CI g n np nq) (ho : OA g) : RESN h2 0 := by
  have hle : am_le g h2 := by rw [mh]; exact fun _ _ => ⟨rfl, rfl⟩
  have ho2 : OA h2 := by rw [mh]; exact ho
  have e : am_eq (fun q => 9 ≤ q ∧ q < 100) g h2 := by
    rw [mh]
    exact am_eq_tr (am_eq_sI (by decide)) (am_eq_sI (by omega))
  have i2 := INV_fin (fun r hr => hr) hc mm e hle ho2
  refine ⟨i2.2.1.1.1, ?_, ho2, n, np, nq, i2⟩
  rw [mh, hi_sI, if_neg (by omega)]; exact hi_sI_s _ _ _ _
theorem RES_N {h : am_H} {K : Nat} {V : Int32} (r : RES h K V) : RESN h K := ⟨r.1, r.2.1, r.2.2.2.1, r.2.2.2.2⟩
theorem hpd_ {h h1 : am_H} {n np nq : Nat} (hI : INV h n np nq) (m : MI h h1 n np nq) : ∀ p, p < np → pdH h p < n ∧ hi_ h1 25 p = nI (pdH h p) := fun p hp => ⟨pd_lt (hI.1.2.2.2.1.1 p hp), (m.2.2.2.2.1 p hp).1⟩
theorem hqd_ {h h1 : am_H} {n np nq : Nat} (hI : INV h n np nq) (m : MI h h1 n np nq) : ∀ p, p < nq → qdH h p < n ∧ hi_ h1 29 p = nI (qdH h p) := fun p hp => ⟨qd_lt (hI.1.2.2.2.1.2 p hp), (m.2.2.2.2.2 p hp).1⟩
theorem MK_P {h h1 : am_H} {n np nq p : Nat} (hI : INV h n np nq) (m : MI h h1 n np nq) (hp : p < np) : MK h1 (tC h) (xX h) (rX h) 27 26 p (pdH h p) ↔ KPm h p := by
  obtain ⟨-, m2, m3, m4⟩ := m.2.2.2.2.1 p hp
  exact MK_KP hI.1.1.2.1 (pd_lt (hI.1.2.2.2.1.1 p hp)) m2 m3 m4
theorem MK_Q {h h1 : am_H} {n np nq p : Nat} (hI : INV h n np nq) (m : MI h h1 n np nq) (hp : p < nq) : MK h1 (tC h) (xX h) (rX h) 31 30 p (qdH h p) ↔ KQm h p := by
  obtain ⟨-, m2, m3, m4, -⟩ := m.2.2.2.2.2 p hp
  exact MK_KP hI.1.1.2.1 (qd_lt (hI.1.2.2.2.1.2 p hp)) m2 m3 m4
theorem b_iff {a b : Bool} {p q : Prop} (h1 : a = true ↔ p) (h2 : b = true ↔ q) (h : p ↔ q) : a = b := by
  have e : (a = true) ↔ (b = true) := h1.trans (h.trans h2.symm)
  cases a <;> cases b
  · rfl
  · exact absurd (e.mpr rfl) (by decide)
  · exact absurd (e.mp rfl) (by decide)
  · rfl
theorem st_tell {h h1 h2 : am_H} {n np nq : Nat} {D P S W V : Int32} (hI : INV h n np nq) (p1 : (k3 (IX n D) (IX 6 P && IX 40 S && IW W) (decide (chg h (dn D) = P))) ≠ 0 → am_eq FS h h1 ∧ am_le h h1) (p2 : (k3 (IX n D) (IX 6 P && IX 40 S && IW W) (decide (chg h (dn D) = P))) = 0 → ∃ (x : Int32) (h' : am_H), am_le h h' ∧ h1 = am_sL h' 40 0 x.toInt64 ∧ x = tC h (dn D) (dn S) ∧ h' = am_sI h (101 + 4 * dn D) (dn S) W) (hm : ((k3 (IX n D) (IX 6 P && IX 40 S && IW W) (decide (chM h1 (dn D) = P))) ≠ 0 → h2 = am_sI h1 14 19 (nI (k3 (IX n D) (IX 6 P && IX 40 S && IW W) (decide (chM h1 (dn D) = P))))) ∧ ((k3 (IX n D) (IX 6 P && IX 40 S && IW W) (decide (chM h1 (dn D) = P))) = 0 → V = hi_ h1 15 (40 * dn D + dn S) ∧ h2 = am_sI (am_sI h1 14 19 (nI 0)) 15 (40 * dn D + dn S) W)) : RES h2 (k3 (IX n D) (IX 6 P && IX 40 S && IW W) (decide (chg h (dn D) = P))) V := by
  have n6 := hI.1.2.1.1
  have hp := hI.1.2.1.2.1
  have hq := hI.1.2.1.2.2
  have hD := hI.1.1.2.1
  obtain ⟨mA, oA, leA⟩ := PO_A hI p1 p2 (fun x h' q => by rw [q.2]; exact am_eq_sI (Or.inr (by omega)))
  have hK : k3 (IX n D) (IX 6 P && IX 40 S && IW W) (decide (chM h1 (dn D) = P)) = k3 (IX n D) (IX 6 P && IX 40 S && IW W) (decide (chg h (dn D) = P)) := k3_cg (fun a _ => by rw [ch_X mA a])
  rw [hK] at hm
  by_cases z : k3 (IX n D) (IX 6 P && IX 40 S && IW W) (decide (chg h (dn D) = P)) = 0
  · obtain ⟨x, h', hle, e1, qx, qh⟩ := p2 z
    obtain ⟨mV, mh⟩ := hm.2 z
    obtain ⟨a, b9, c9⟩ := k3_z z
    obtain ⟨hd, -⟩ := IX_dn (by omega) a
    rw [Bool.and_eq_true, Bool.and_eq_true] at b9
    obtain ⟨hs, -⟩ := IX_dn (by decide) b9.1.2
    have mm := MI_tell hd hs (OKs_IW b9.2) hp hq (MI_th (v := nI 0) mA)
    rw [← mh, ← qh] at mm
    have hc : CI h' n np nq := by rw [qh]; exact CI_sI (by omega) (fun d _ => by omega) hI.1
    rw [z]
    exact RES_ch (by decide) e1 mh mm hc oA (by rw [qx, mV]; exact (mA.1.2.2.2.1 _ hd _ hs).1.symm)
  · exact RES_n z hI p1 (by rw [hm.1 z]; exact am_eq_rf _ _) (by rw [hm.1 z]; exact am_le_sI _ _ _ _)
theorem st_setExit {h h1 h2 : am_H} {n np nq : Nat} {D P S V : Int32} {b : Bool} (hI : INV h n np nq) (p1 : (k3 (IX n D) (IX 6 P && IX 25 S) (decide (chg h (dn D) = P))) ≠ 0 → am_eq FS h h1 ∧ am_le h h1) (p2 : (k3 (IX n D) (IX 6 P && IX 25 S) (decide (chg h (dn D) = P))) = 0 → ∃ (x : Int32) (h' : am_H), am_le h h' ∧ h1 = am_sL h' 40 0 x.toInt64 ∧ x = b2i (xC h (dn D) (dn S)) ∧ h' = am_sI h (102 + 4 * dn D) (dn S) (b2i b)) (hm : ((k3 (IX n D) (IX 6 P && IX 25 S) (decide (chM h1 (dn D) = P))) ≠ 0 → h2 = am_sI h1 14 19 (nI (k3 (IX n D) (IX 6 P && IX 25 S) (decide (chM h1 (dn D) = P))))) ∧ ((k3 (IX n D) (IX 6 P && IX 25 S) (decide (chM h1 (dn D) = P))) = 0 → V = b2i (bt (hi_ h1 16 (dn D)) (dn S)) ∧ h2 = am_sI (am_sI h1 14 19 (nI 0)) 16 (dn D) (if b = true then hi_ h1 16 (dn D) ||| ((nI 1) <<< ((nI (dn S)) &&& 31)) else hi_ h1 16 (dn D) &&& (((nI 1) <<< ((nI (dn S)) &&& 31)) ^^^ -1)))) : RES h2 (k3 (IX n D) (IX 6 P && IX 25 S) (decide (chg h (dn D) = P))) V ∧ ((k3 (IX n D) (IX 6 P && IX 25 S) (decide (chg h (dn D) = P))) = 0 → ∃ B, V = b2i B) := by
  have n6 := hI.1.2.1.1
  have hp := hI.1.2.1.2.1
  have hq := hI.1.2.1.2.2
  have hD := hI.1.1.2.1
  obtain ⟨mA, oA, leA⟩ := PO_A hI p1 p2 (fun x h' q => by rw [q.2]; exact am_eq_sI (Or.inr (by omega)))
  have hK : k3 (IX n D) (IX 6 P && IX 25 S) (decide (chM h1 (dn D) = P)) = k3 (IX n D) (IX 6 P && IX 25 S) (decide (chg h (dn D) = P)) := k3_cg (fun a _ => by rw [ch_X mA a])
  rw [hK] at hm
  refine ⟨?_, fun z => ⟨_, (hm.2 z).1⟩⟩
  by_cases z : k3 (IX n D) (IX 6 P && IX 25 S) (decide (chg h (dn D) = P)) = 0
  · obtain ⟨x, h', hle, e1, qx, qh⟩ := p2 z
    obtain ⟨mV, mh⟩ := hm.2 z
    obtain ⟨a, b9, c9⟩ := k3_z z
    obtain ⟨hd, -⟩ := IX_dn (by omega) a
    rw [Bool.and_eq_true] at b9
    obtain ⟨hs, -⟩ := IX_dn (by decide) b9.2
    have mm := MI_exit (b := b) hd hs hp hq (MI_th (v := nI 0) mA)
    rw [show hi_ (am_sI h1 14 19 (nI 0)) 16 (dn D) = hi_ h1 16 (dn D) from by rw [hi_sI, if_neg (by omega)]] at mm
    rw [← mh, ← qh] at mm
    have hc : CI h' n np nq := by rw [qh]; exact CI_x hI.1
    rw [z]
    exact RES_ch (by decide) e1 mh mm hc oA (by rw [qx, mV]; rw [mA.1.2.2.2.2.1 _ hd _ (by omega)]; unfold xX; rw [decide_eq_true hs]; rfl)
  · exact RES_n z hI p1 (by rw [hm.1 z]; exact am_eq_rf _ _) (by rw [hm.1 z]; exact am_le_sI _ _ _ _)
theorem st_refer {h h1 h2 : am_H} {n np nq : Nat} {D P O V : Int32} {b : Bool} (hI : INV h n np nq) (p1 : (k3 (IX n D && IX n O) (IX 6 P) (decide (chg h (dn D) = P) && !(b && ldF (rC h) 6 (dn O) (dn D)))) ≠ 0 → am_eq FS h h1 ∧ am_le h h1) (p2 : (k3 (IX n D && IX n O) (IX 6 P) (decide (chg h (dn D) = P) && !(b && ldF (rC h) 6 (dn O) (dn D)))) = 0 → ∃ (x : Int32) (h' : am_H), am_le h h' ∧ h1 = am_sL h' 40 0 x.toInt64 ∧ x = b2i (rC h (dn D) (dn O)) ∧ h' = am_sR h (103 + 4 * dn D) (dn O) (if b = true then 100 + 4 * dn O else 0)) (hm : ((k3 (IX n D && IX n O) (IX 6 P) (decide (chM h1 (dn D) = P) && !(b && ldF (rX h) 6 (dn O) (dn D)))) ≠ 0 → h2 = am_sI h1 14 19 (nI (k3 (IX n D && IX n O) (IX 6 P) (decide (chM h1 (dn D) = P) && !(b && ldF (rX h) 6 (dn O) (dn D)))))) ∧ ((k3 (IX n D && IX n O) (IX 6 P) (decide (chM h1 (dn D) = P) && !(b && ldF (rX h) 6 (dn O) (dn D)))) = 0 → V = b2i (rX h (dn D) (dn O)) ∧ h2 = am_sI (am_sI h1 14 19 (nI 0)) 17 (dn D) (if b = true then hi_ h1 17 (dn D) ||| ((nI 1) <<< ((nI (dn O)) &&& 31)) else hi_ h1 17 (dn D) &&& (((nI 1) <<< ((nI (dn O)) &&& 31)) ^^^ -1)))) : RES h2 (k3 (IX n D && IX n O) (IX 6 P) (decide (chg h (dn D) = P) && !(b && ldF (rC h) 6 (dn O) (dn D)))) V ∧ ((k3 (IX n D && IX n O) (IX 6 P) (decide (chg h (dn D) = P) && !(b && ldF (rC h) 6 (dn O) (dn D)))) = 0 → ∃ B, V = b2i B) := by
  have n6 := hI.1.2.1.1
  have hp := hI.1.2.1.2.1
  have hq := hI.1.2.1.2.2
  have hD := hI.1.1.2.1
  obtain ⟨mA, oA, leA⟩ := PO_A hI p1 p2 (fun x h' q => by rw [q.2]; exact am_eq_sR (Or.inr (by omega)))
  have hK : k3 (IX n D && IX n O) (IX 6 P) (decide (chM h1 (dn D) = P) && !(b && ldF (rX h) 6 (dn O) (dn D))) = k3 (IX n D && IX n O) (IX 6 P) (decide (chg h (dn D) = P) && !(b && ldF (rC h) 6 (dn O) (dn D))) := k3_cg (fun a _ => by rw [Bool.and_eq_true] at a; rw [ch_X mA a.1, ldX hD (IX_dn (by omega) a.2).1])
  rw [hK] at hm
  refine ⟨?_, fun z => ⟨_, (hm.2 z).1⟩⟩
  by_cases z : k3 (IX n D && IX n O) (IX 6 P) (decide (chg h (dn D) = P) && !(b && ldF (rC h) 6 (dn O) (dn D))) = 0
  · obtain ⟨x, h', hle, e1, qx, qh⟩ := p2 z
    obtain ⟨mV, mh⟩ := hm.2 z
    obtain ⟨a, b9, c9⟩ := k3_z z
    rw [Bool.and_eq_true] at a c9
    obtain ⟨hd, -⟩ := IX_dn (by omega) a.1
    obtain ⟨ho, -⟩ := IX_dn (by omega) a.2
    replace c9 := c9.2
    have mm := MI_ref (b := b) hd ho hp hq (fun hb => by rw [hb, Bool.true_and, ← ldX hD ho] at c9; revert c9; cases ldF (rX h) 6 (dn O) (dn D) <;> simp) (MI_th (v := nI 0) mA)
    rw [show hi_ (am_sI h1 14 19 (nI 0)) 17 (dn D) = hi_ h1 17 (dn D) from by rw [hi_sI, if_neg (by omega)]] at mm
    rw [← mh, ← qh] at mm
    have hc : CI h' n np nq := by rw [qh]; exact CI_r (by omega) hd (by cases b; exact Or.inl (if_neg (by decide)); exact Or.inr ⟨ho, if_pos rfl⟩) hI.1
    rw [z]
    exact RES_ch (by decide) e1 mh mm hc oA (by rw [qx, mV]; rw [rX_rC (by omega)])
  · exact RES_n z hI p1 (by rw [hm.1 z]; exact am_eq_rf _ _) (by rw [hm.1 z]; exact am_le_sI _ _ _ _)
theorem st_lock {h h1 h2 : am_H} {n np nq : Nat} {D P : Int32} (hI : INV h n np nq) (p1 : (k3 (IX n D) (IX 6 P) (decide (hi_ h (100 + 4 * dn D) 3 = -1))) ≠ 0 → am_eq FS h h1 ∧ am_le h h1) (p2 : (k3 (IX n D) (IX 6 P) (decide (hi_ h (100 + 4 * dn D) 3 = -1))) = 0 → am_le h h1 ∧ (fun h' => h' = am_sI h (100 + 4 * dn D) 3 P) h1) (hm : ((k3 (IX n D) (IX 6 P) (decide (hi_ h1 18 (dn D) < 0))) ≠ 0 → h2 = am_sI h1 14 19 (nI (k3 (IX n D) (IX 6 P) (decide (hi_ h1 18 (dn D) < 0))))) ∧ ((k3 (IX n D) (IX 6 P) (decide (hi_ h1 18 (dn D) < 0))) = 0 → h2 = am_sI (am_sI h1 14 19 (nI 0)) 18 (dn D) P)) : RESN h2 (k3 (IX n D) (IX 6 P) (decide (hi_ h (100 + 4 * dn D) 3 = -1))) := by
  have n6 := hI.1.2.1.1
  have hp := hI.1.2.1.2.1
  have hq := hI.1.2.1.2.2
  have hD := hI.1.1.2.1
  obtain ⟨mA, oA, leA⟩ := PN_A (Q := fun h' => h' = am_sI h (100 + 4 * dn D) 3 P) hI p1 p2 (fun h' q => by rw [show h' = _ from q]; exact am_eq_sI (Or.inr (by omega)))
  have hK : k3 (IX n D) (IX 6 P) (decide (hi_ h1 18 (dn D) < 0)) = k3 (IX n D) (IX 6 P) (decide (hi_ h (100 + 4 * dn D) 3 = -1)) := k3_cg (fun a _ => by obtain ⟨l1, -, l3, -⟩ := mA.2.2.1 _ (IX_dn (by omega) a).1; rw [OKs_neg l3, l1])
  rw [hK] at hm
  by_cases z : k3 (IX n D) (IX 6 P) (decide (hi_ h (100 + 4 * dn D) 3 = -1)) = 0
  · obtain ⟨hle, qh⟩ := p2 z
    obtain mh := hm.2 z
    obtain ⟨a, b9, c9⟩ := k3_z z
    obtain ⟨hd, -⟩ := IX_dn (by omega) a
    have mm := MI_lock hd (OKs_IX b9) hp hq (MI_th (v := nI 0) mA)
    rw [← mh, ← qh] at mm
    have hc : CI h1 n np nq := by rw [qh]; exact CI_sI (by omega) (fun d _ => by omega) hI.1
    rw [z]
    exact RESN_ch (by decide) mh mm hc oA
  · exact RES_N (RES_n (V := 0) z hI p1 (by rw [hm.1 z]; exact am_eq_rf _ _) (by rw [hm.1 z]; exact am_le_sI _ _ _ _))
theorem st_unlock {h h1 h2 : am_H} {n np nq : Nat} {D P : Int32} (hI : INV h n np nq) (p1 : (k3 (IX n D) (IX 6 P) (decide (hi_ h (100 + 4 * dn D) 3 = P) && decide (hi_ h (100 + 4 * dn D) 4 = -1))) ≠ 0 → am_eq FS h h1 ∧ am_le h h1) (p2 : (k3 (IX n D) (IX 6 P) (decide (hi_ h (100 + 4 * dn D) 3 = P) && decide (hi_ h (100 + 4 * dn D) 4 = -1))) = 0 → am_le h h1 ∧ (fun h' => h' = am_sI h (100 + 4 * dn D) 3 (-1)) h1) (hm : ((k3 (IX n D) (IX 6 P) (decide (hi_ h1 18 (dn D) = P) && decide (hi_ h1 19 (dn D) < 0))) ≠ 0 → h2 = am_sI h1 14 19 (nI (k3 (IX n D) (IX 6 P) (decide (hi_ h1 18 (dn D) = P) && decide (hi_ h1 19 (dn D) < 0))))) ∧ ((k3 (IX n D) (IX 6 P) (decide (hi_ h1 18 (dn D) = P) && decide (hi_ h1 19 (dn D) < 0))) = 0 → h2 = am_sI (am_sI h1 14 19 (nI 0)) 18 (dn D) (-1))) : RESN h2 (k3 (IX n D) (IX 6 P) (decide (hi_ h (100 + 4 * dn D) 3 = P) && decide (hi_ h (100 + 4 * dn D) 4 = -1))) := by
  have n6 := hI.1.2.1.1
  have hp := hI.1.2.1.2.1
  have hq := hI.1.2.1.2.2
  have hD := hI.1.1.2.1
  obtain ⟨mA, oA, leA⟩ := PN_A (Q := fun h' => h' = am_sI h (100 + 4 * dn D) 3 (-1)) hI p1 p2 (fun h' q => by rw [show h' = _ from q]; exact am_eq_sI (Or.inr (by omega)))
  have hK : k3 (IX n D) (IX 6 P) (decide (hi_ h1 18 (dn D) = P) && decide (hi_ h1 19 (dn D) < 0)) = k3 (IX n D) (IX 6 P) (decide (hi_ h (100 + 4 * dn D) 3 = P) && decide (hi_ h (100 + 4 * dn D) 4 = -1)) := k3_cg (fun a _ => by obtain ⟨l1, l2, l3, l4⟩ := mA.2.2.1 _ (IX_dn (by omega) a).1; rw [OKs_neg l4, l1, l2])
  rw [hK] at hm
  by_cases z : k3 (IX n D) (IX 6 P) (decide (hi_ h (100 + 4 * dn D) 3 = P) && decide (hi_ h (100 + 4 * dn D) 4 = -1)) = 0
  · obtain ⟨hle, qh⟩ := p2 z
    obtain mh := hm.2 z
    obtain ⟨a, b9, c9⟩ := k3_z z
    obtain ⟨hd, -⟩ := IX_dn (by omega) a
    have mm := MI_lock hd (Or.inl rfl) hp hq (MI_th (v := nI 0) mA)
    rw [← mh, ← qh] at mm
    have hc : CI h1 n np nq := by rw [qh]; exact CI_sI (by omega) (fun d _ => by omega) hI.1
    rw [z]
    exact RESN_ch (by decide) mh mm hc oA
  · exact RES_N (RES_n (V := 0) z hI p1 (by rw [hm.1 z]; exact am_eq_rf _ _) (by rw [hm.1 z]; exact am_le_sI _ _ _ _))
theorem st_lend {h h1 h2 : am_H} {n np nq : Nat} {D P O V : Int32} (hI : INV h n np nq) (p1 : (k3 (IX n D) (IX 6 P && ((decide (O = -1) || IX 6 O) && !decide (P = O))) (decide (hi_ h (100 + 4 * dn D) 3 = P))) ≠ 0 → am_eq FS h h1 ∧ am_le h h1) (p2 : (k3 (IX n D) (IX 6 P && ((decide (O = -1) || IX 6 O) && !decide (P = O))) (decide (hi_ h (100 + 4 * dn D) 3 = P))) = 0 → ∃ (x : Int32) (h' : am_H), am_le h h' ∧ h1 = am_sL h' 40 0 x.toInt64 ∧ x = hi_ h (100 + 4 * dn D) 4 ∧ h' = am_sI h (100 + 4 * dn D) 4 O) (hm : ((k3 (IX n D) (IX 6 P && ((decide (O = -1) || IX 6 O) && !decide (P = O))) (decide (hi_ h1 18 (dn D) = P))) ≠ 0 → h2 = am_sI h1 14 19 (nI (k3 (IX n D) (IX 6 P && ((decide (O = -1) || IX 6 O) && !decide (P = O))) (decide (hi_ h1 18 (dn D) = P))))) ∧ ((k3 (IX n D) (IX 6 P && ((decide (O = -1) || IX 6 O) && !decide (P = O))) (decide (hi_ h1 18 (dn D) = P))) = 0 → V = hi_ h1 19 (dn D) ∧ h2 = am_sI (am_sI h1 14 19 (nI 0)) 19 (dn D) O)) : RES h2 (k3 (IX n D) (IX 6 P && ((decide (O = -1) || IX 6 O) && !decide (P = O))) (decide (hi_ h (100 + 4 * dn D) 3 = P))) V := by
  have n6 := hI.1.2.1.1
  have hp := hI.1.2.1.2.1
  have hq := hI.1.2.1.2.2
  have hD := hI.1.1.2.1
  obtain ⟨mA, oA, leA⟩ := PO_A hI p1 p2 (fun x h' q => by rw [q.2]; exact am_eq_sI (Or.inr (by omega)))
  have hK : k3 (IX n D) (IX 6 P && ((decide (O = -1) || IX 6 O) && !decide (P = O))) (decide (hi_ h1 18 (dn D) = P)) = k3 (IX n D) (IX 6 P && ((decide (O = -1) || IX 6 O) && !decide (P = O))) (decide (hi_ h (100 + 4 * dn D) 3 = P)) := k3_cg (fun a _ => by rw [(mA.2.2.1 _ (IX_dn (by omega) a).1).1])
  rw [hK] at hm
  by_cases z : k3 (IX n D) (IX 6 P && ((decide (O = -1) || IX 6 O) && !decide (P = O))) (decide (hi_ h (100 + 4 * dn D) 3 = P)) = 0
  · obtain ⟨x, h', hle, e1, qx, qh⟩ := p2 z
    obtain ⟨mV, mh⟩ := hm.2 z
    obtain ⟨a, b9, c9⟩ := k3_z z
    obtain ⟨hd, -⟩ := IX_dn (by omega) a
    have mm := MI_lend hd (by rw [Bool.and_eq_true, Bool.and_eq_true, Bool.or_eq_true, decide_eq_true_iff] at b9; rcases b9.2.1 with e | e; exact Or.inl e; exact OKs_IX e) hp hq (MI_th (v := nI 0) mA)
    rw [← mh, ← qh] at mm
    have hc : CI h' n np nq := by rw [qh]; exact CI_sI (by omega) (fun d _ => by omega) hI.1
    rw [z]
    exact RES_ch (by decide) e1 mh mm hc oA (by rw [qx, mV]; exact (mA.2.2.1 _ hd).2.1.symm)
  · exact RES_n z hI p1 (by rw [hm.1 z]; exact am_eq_rf _ _) (by rw [hm.1 z]; exact am_le_sI _ _ _ _)
theorem st_side {h h1 h2 : am_H} {n np nq : Nat} {D S V : Int32} (hI : INV h n np nq) (p1 : (k3 (IX n D) (IX 40 S) true) ≠ 0 → am_eq FS h h1 ∧ am_le h h1) (p2 : (k3 (IX n D) (IX 40 S) true) = 0 → ∃ (x : Int32) (h' : am_H), am_le h h' ∧ h1 = am_sL h' 40 0 x.toInt64 ∧ x = sdH h (dn D) (dn S) ∧ h' = h) (hm : ((k3 (IX n D) (IX 40 S) true) ≠ 0 → h2 = am_sI h1 14 19 (nI (k3 (IX n D) (IX 40 S) true))) ∧ ((k3 (IX n D) (IX 40 S) true) = 0 → V = sdF (tC h) (rX h) 6 (dn D) (dn S) ∧ am_eq S4 (am_sI h1 14 19 (nI 0)) h2 ∧ am_le h1 h2)) : RES h2 (k3 (IX n D) (IX 40 S) true) V := by
  have n6 := hI.1.2.1.1
  have hp := hI.1.2.1.2.1
  have hq := hI.1.2.1.2.2
  have hD := hI.1.1.2.1
  obtain ⟨mA, oA, leA⟩ := PO_A hI p1 p2 (fun x h' q => by rw [q.2]; exact am_eq_rf _ _)
  obtain ⟨f1, f2⟩ := mform hm.1 hm.2
  refine RES_s hI p1 p2 (fun x h' z q => ?_) f1 f2
  obtain ⟨a, b9, -⟩ := k3_z z
  obtain ⟨hd, -⟩ := IX_dn (by omega) a
  refine ⟨by rw [q.2]; exact am_eq_rf _ _, ?_⟩
  rw [q.1, (hm.2 z).1, sdX hD hd]
theorem st_hasExit {h h1 h2 : am_H} {n np nq : Nat} {D S V : Int32} (hI : INV h n np nq) (p1 : (k3 (IX n D) (IX 25 S) true) ≠ 0 → am_eq FS h h1 ∧ am_le h h1) (p2 : (k3 (IX n D) (IX 25 S) true) = 0 → ∃ (x : Int32) (h' : am_H), am_le h h' ∧ h1 = am_sL h' 40 0 x.toInt64 ∧ x = b2i (exH h (dn D) (dn S)) ∧ h' = h) (hm : ((k3 (IX n D) (IX 25 S) true) ≠ 0 → h2 = am_sI h1 14 19 (nI (k3 (IX n D) (IX 25 S) true))) ∧ ((k3 (IX n D) (IX 25 S) true) = 0 → V = b2i (exF (xX h) (rX h) 6 (dn D) (dn S)) ∧ am_eq S4 (am_sI h1 14 19 (nI 0)) h2 ∧ am_le h1 h2)) : RES h2 (k3 (IX n D) (IX 25 S) true) V ∧ ((k3 (IX n D) (IX 25 S) true) = 0 → ∃ B, V = b2i B) := by
  have n6 := hI.1.2.1.1
  have hp := hI.1.2.1.2.1
  have hq := hI.1.2.1.2.2
  have hD := hI.1.1.2.1
  obtain ⟨mA, oA, leA⟩ := PO_A hI p1 p2 (fun x h' q => by rw [q.2]; exact am_eq_rf _ _)
  refine ⟨?_, fun z => ⟨_, (hm.2 z).1⟩⟩
  obtain ⟨f1, f2⟩ := mform hm.1 hm.2
  refine RES_s hI p1 p2 (fun x h' z q => ?_) f1 f2
  obtain ⟨a, b9, -⟩ := k3_z z
  obtain ⟨hd, -⟩ := IX_dn (by omega) a
  obtain ⟨hs, -⟩ := IX_dn (by decide) b9
  refine ⟨by rw [q.2]; exact am_eq_rf _ _, ?_⟩
  rw [q.1, (hm.2 z).1, exX hD hd hs]
theorem st_canChange {h h1 h2 : am_H} {n np nq : Nat} {D V : Int32} (hI : INV h n np nq) (p1 : (k3 (IX n D) true true) ≠ 0 → am_eq FS h h1 ∧ am_le h h1) (p2 : (k3 (IX n D) true true) = 0 → ∃ (x : Int32) (h' : am_H), am_le h h' ∧ h1 = am_sL h' 40 0 x.toInt64 ∧ x = chg h (dn D) ∧ h' = h) (hm : ((k3 (IX n D) true true) ≠ 0 → h2 = am_sI h1 14 19 (nI (k3 (IX n D) true true))) ∧ ((k3 (IX n D) true true) = 0 → V = chM h1 (dn D) ∧ h2 = am_sI h1 14 19 (nI 0))) : RES h2 (k3 (IX n D) true true) V := by
  have n6 := hI.1.2.1.1
  have hp := hI.1.2.1.2.1
  have hq := hI.1.2.1.2.2
  have hD := hI.1.1.2.1
  obtain ⟨mA, oA, leA⟩ := PO_A hI p1 p2 (fun x h' q => by rw [q.2]; exact am_eq_rf _ _)
  obtain ⟨f1, f2⟩ := mform (A := V = chM h1 (dn D)) hm.1 (fun z => ⟨(hm.2 z).1, by rw [(hm.2 z).2]; exact am_eq_rf _ _, by rw [(hm.2 z).2]; exact am_le_sI _ _ _ _⟩)
  refine RES_s hI p1 p2 (fun x h' z q => ?_) f1 f2
  obtain ⟨a, -, -⟩ := k3_z z
  refine ⟨by rw [q.2]; exact am_eq_rf _ _, ?_⟩
  rw [q.1, (hm.2 z).1, ch_X mA a]
theorem st_rooms {h h1 h2 : am_H} {n np nq : Nat} {D V : Int32} (hI : INV h n np nq) (p1 : (k3 (IX n D) true true) ≠ 0 → am_eq FS h h1 ∧ am_le h h1) (p2 : (k3 (IX n D) true true) = 0 → ∃ (x : Int32) (h' : am_H), am_le h h' ∧ h1 = am_sL h' 40 0 x.toInt64 ∧ am_eq FS h h' ∧ VR (sdH h (dn D)) x) (hm : ((k3 (IX n D) true true) ≠ 0 → h2 = am_sI h1 14 19 (nI (k3 (IX n D) true true))) ∧ ((k3 (IX n D) true true) = 0 → VR (fun s => sdF (tC h) (rX h) 6 (dn D) s) V ∧ am_eq S4 (am_sI h1 14 19 (nI 0)) h2 ∧ am_le h1 h2)) : RES h2 (k3 (IX n D) true true) V := by
  have n6 := hI.1.2.1.1
  have hp := hI.1.2.1.2.1
  have hq := hI.1.2.1.2.2
  have hD := hI.1.1.2.1
  obtain ⟨mA, oA, leA⟩ := PO_A hI p1 p2 (fun x h' q => FS_SC q.1)
  obtain ⟨f1, f2⟩ := mform hm.1 hm.2
  refine RES_s hI p1 p2 (fun x h' z q => ?_) f1 f2
  obtain ⟨a, b9, -⟩ := k3_z z
  obtain ⟨hd, -⟩ := IX_dn (by omega) a
  have v := (hm.2 z).1
  rw [sdXf hD hd] at v
  exact ⟨q.1, VR_u q.2 v⟩
theorem st_room {h h1 h2 : am_H} {n np nq : Nat} {D C V : Int32} (hI : INV h n np nq) (p1 : (k3 (IX n D) (IX 25 C) true) ≠ 0 → am_eq FS h h1 ∧ am_le h h1) (p2 : (k3 (IX n D) (IX 25 C) true) = 0 → ∃ (x : Int32) (h' : am_H), am_le h h' ∧ h1 = am_sL h' 40 0 x.toInt64 ∧ am_eq FS h h' ∧ VM (sdH h (dn D)) (dn C) x) (hm : ((k3 (IX n D) (IX 25 C) true) ≠ 0 → h2 = am_sI h1 14 19 (nI (k3 (IX n D) (IX 25 C) true))) ∧ ((k3 (IX n D) (IX 25 C) true) = 0 → VM (fun s => sdF (tC h) (rX h) 6 (dn D) s) (dn C) V ∧ am_eq S4 (am_sI h1 14 19 (nI 0)) h2 ∧ am_le h1 h2)) : RES h2 (k3 (IX n D) (IX 25 C) true) V := by
  have n6 := hI.1.2.1.1
  have hp := hI.1.2.1.2.1
  have hq := hI.1.2.1.2.2
  have hD := hI.1.1.2.1
  obtain ⟨mA, oA, leA⟩ := PO_A hI p1 p2 (fun x h' q => FS_SC q.1)
  obtain ⟨f1, f2⟩ := mform hm.1 hm.2
  refine RES_s hI p1 p2 (fun x h' z q => ?_) f1 f2
  obtain ⟨a, b9, -⟩ := k3_z z
  obtain ⟨hd, -⟩ := IX_dn (by omega) a
  obtain ⟨hs, -⟩ := IX_dn (by decide) b9
  have v := (hm.2 z).1
  rw [sdXf hD hd] at v
  exact ⟨q.1, VM_u hs q.2 v⟩
theorem st_size {h h1 h2 : am_H} {n np nq : Nat} {D C V : Int32} (hI : INV h n np nq) (p1 : (k3 (IX n D) (IX 25 C) true) ≠ 0 → am_eq FS h h1 ∧ am_le h h1) (p2 : (k3 (IX n D) (IX 25 C) true) = 0 → ∃ (x : Int32) (h' : am_H), am_le h h' ∧ h1 = am_sL h' 40 0 x.toInt64 ∧ am_eq FS h h' ∧ VS (sdH h (dn D)) (dn C) x) (hm : ((k3 (IX n D) (IX 25 C) true) ≠ 0 → h2 = am_sI h1 14 19 (nI (k3 (IX n D) (IX 25 C) true))) ∧ ((k3 (IX n D) (IX 25 C) true) = 0 → VS (fun s => sdF (tC h) (rX h) 6 (dn D) s) (dn C) V ∧ am_eq S4 (am_sI h1 14 19 (nI 0)) h2 ∧ am_le h1 h2)) : RES h2 (k3 (IX n D) (IX 25 C) true) V := by
  have n6 := hI.1.2.1.1
  have hp := hI.1.2.1.2.1
  have hq := hI.1.2.1.2.2
  have hD := hI.1.1.2.1
  obtain ⟨mA, oA, leA⟩ := PO_A hI p1 p2 (fun x h' q => FS_SC q.1)
  obtain ⟨f1, f2⟩ := mform hm.1 hm.2
  refine RES_s hI p1 p2 (fun x h' z q => ?_) f1 f2
  obtain ⟨a, b9, -⟩ := k3_z z
  obtain ⟨hd, -⟩ := IX_dn (by omega) a
  obtain ⟨hs, -⟩ := IX_dn (by decide) b9
  have v := (hm.2 z).1
  rw [sdXf hD hd] at v
  exact ⟨q.1, VS_u hs q.2 v⟩
theorem st_doorsOut {h h1 h2 : am_H} {n np nq : Nat} {D C V : Int32} (hI : INV h n np nq) (p1 : (k3 (IX n D) (IX 25 C) true) ≠ 0 → am_eq FS h h1 ∧ am_le h h1) (p2 : (k3 (IX n D) (IX 25 C) true) = 0 → ∃ (x : Int32) (h' : am_H), am_le h h' ∧ h1 = am_sL h' 40 0 x.toInt64 ∧ am_eq FS h h' ∧ VD (sdH h (dn D)) (exH h (dn D)) (dn C) x) (hm : ((k3 (IX n D) (IX 25 C) true) ≠ 0 → h2 = am_sI h1 14 19 (nI (k3 (IX n D) (IX 25 C) true))) ∧ ((k3 (IX n D) (IX 25 C) true) = 0 → VD (fun s => sdF (tC h) (rX h) 6 (dn D) s) (fun c => exF (xX h) (rX h) 6 (dn D) c) (dn C) V ∧ am_eq S4 (am_sI h1 14 19 (nI 0)) h2 ∧ am_le h1 h2)) : RES h2 (k3 (IX n D) (IX 25 C) true) V := by
  have n6 := hI.1.2.1.1
  have hp := hI.1.2.1.2.1
  have hq := hI.1.2.1.2.2
  have hD := hI.1.1.2.1
  obtain ⟨mA, oA, leA⟩ := PO_A hI p1 p2 (fun x h' q => FS_SC q.1)
  obtain ⟨f1, f2⟩ := mform hm.1 hm.2
  refine RES_s hI p1 p2 (fun x h' z q => ?_) f1 f2
  obtain ⟨a, b9, -⟩ := k3_z z
  obtain ⟨hd, -⟩ := IX_dn (by omega) a
  obtain ⟨hs, -⟩ := IX_dn (by decide) b9
  exact ⟨q.1, VD_u hs q.2 (VD_X hD hd (hm.2 z).1)⟩
theorem st_doorThatHelps {h h1 h2 : am_H} {n np nq : Nat} {D C V : Int32} (hI : INV h n np nq) (p1 : (k3 (IX n D) (IX 25 C) true) ≠ 0 → am_eq FS h h1 ∧ am_le h h1) (p2 : (k3 (IX n D) (IX 25 C) true) = 0 → ∃ (x : Int32) (h' : am_H), am_le h h' ∧ h1 = am_sL h' 40 0 x.toInt64 ∧ am_eq FS h h' ∧ VH (sdH h (dn D)) (exH h (dn D)) (dn C) x) (hm : ((k3 (IX n D) (IX 25 C) true) ≠ 0 → h2 = am_sI h1 14 19 (nI (k3 (IX n D) (IX 25 C) true))) ∧ ((k3 (IX n D) (IX 25 C) true) = 0 → VH (fun s => sdF (tC h) (rX h) 6 (dn D) s) (fun c => exF (xX h) (rX h) 6 (dn D) c) (dn C) V ∧ am_eq S4 (am_sI h1 14 19 (nI 0)) h2 ∧ am_le h1 h2)) : RES h2 (k3 (IX n D) (IX 25 C) true) V := by
  have n6 := hI.1.2.1.1
  have hp := hI.1.2.1.2.1
  have hq := hI.1.2.1.2.2
  have hD := hI.1.1.2.1
  obtain ⟨mA, oA, leA⟩ := PO_A hI p1 p2 (fun x h' q => FS_SC q.1)
  obtain ⟨f1, f2⟩ := mform hm.1 hm.2
  refine RES_s hI p1 p2 (fun x h' z q => ?_) f1 f2
  obtain ⟨a, b9, -⟩ := k3_z z
  obtain ⟨hd, -⟩ := IX_dn (by omega) a
  obtain ⟨hs, -⟩ := IX_dn (by decide) b9
  exact ⟨q.1, VH_u hs q.2 (VH_X hD hd (hm.2 z).1)⟩
theorem st_holds {h h1 h2 : am_H} {n np nq : Nat} {P V : Int32} (hI : INV h n np nq) (p1 : (k3 (IX np P) true true) ≠ 0 → am_eq FS h h1 ∧ am_le h h1) (p2 : (k3 (IX np P) true true) = 0 → ∃ (x : Int32) (h' : am_H), am_le h h' ∧ h1 = am_sL h' 40 0 x.toInt64 ∧ ∃ R : Bool, x = b2i R ∧ (R = true ↔ KPm h (dn P)) ∧ h' = h) (hm : am_eq S4 (am_sI h1 14 19 (nI (k3 (IX np P) true true))) h2 ∧ am_le h1 h2 ∧ ((k3 (IX np P) true true) = 0 → ∃ R : Bool, V = b2i R ∧ (R = true ↔ MK h1 (tC h) (xX h) (rX h) 27 26 (dn P) (pdH h (dn P))))) : RES h2 (k3 (IX np P) true true) V ∧ ((k3 (IX np P) true true) = 0 → ∃ B, V = b2i B) := by
  have n6 := hI.1.2.1.1
  have hp := hI.1.2.1.2.1
  have hq := hI.1.2.1.2.2
  have hD := hI.1.1.2.1
  obtain ⟨mA, oA, leA⟩ := PO_A hI p1 p2 (fun x h' q => by obtain ⟨R, -, -, e⟩ := q; rw [e]; exact am_eq_rf _ _)
  refine ⟨?_, fun z => by obtain ⟨R, e, -⟩ := hm.2.2 z; exact ⟨R, e⟩⟩
  obtain ⟨f1, f2⟩ := (⟨hm.1, hm.2.1⟩ : _ ∧ _)
  refine RES_s hI p1 p2 (fun x h' z q => ?_) f1 f2
  obtain ⟨a, -, -⟩ := k3_z z
  obtain ⟨hd, -⟩ := IX_dn (by omega) a
  obtain ⟨R, hx, hR, e⟩ := q
  obtain ⟨R2, hV, hR2⟩ := hm.2.2 z
  refine ⟨by rw [e]; exact am_eq_rf _ _, ?_⟩
  rw [hx, hV, b_iff hR hR2 (MK_P hI mA hd).symm]
theorem st_permitOf {h h1 h2 : am_H} {n np nq : Nat} {P V : Int32} (hI : INV h n np nq) (p1 : (k3 (IX nq P) true true) ≠ 0 → am_eq FS h h1 ∧ am_le h h1) (p2 : (k3 (IX nq P) true true) = 0 → ∃ (x : Int32) (h' : am_H), am_le h h' ∧ h1 = am_sL h' 40 0 x.toInt64 ∧ x = hi_ h (300 + 4 * dn P) 2 ∧ h' = h) (hm : am_eq S4 (am_sI h1 14 19 (nI (k3 (IX nq P) true true))) h2 ∧ am_le h1 h2 ∧ ((k3 (IX nq P) true true) = 0 → V = hi_ h1 32 (dn P))) : RES h2 (k3 (IX nq P) true true) V := by
  have n6 := hI.1.2.1.1
  have hp := hI.1.2.1.2.1
  have hq := hI.1.2.1.2.2
  have hD := hI.1.1.2.1
  obtain ⟨mA, oA, leA⟩ := PO_A hI p1 p2 (fun x h' q => by rw [q.2]; exact am_eq_rf _ _)
  obtain ⟨f1, f2⟩ := (⟨hm.1, hm.2.1⟩ : _ ∧ _)
  refine RES_s hI p1 p2 (fun x h' z q => ?_) f1 f2
  obtain ⟨a, -, -⟩ := k3_z z
  obtain ⟨hd, -⟩ := IX_dn (by omega) a
  refine ⟨by rw [q.2]; exact am_eq_rf _ _, ?_⟩
  rw [q.1, hm.2.2 z]
  exact (mA.2.2.2.2.2 _ hd).2.2.2.2.1.symm
theorem st_isGood {h h1 h2 : am_H} {n np nq : Nat} {P V : Int32} (hI : INV h n np nq) (p1 : (k3 (IX nq P) true true) ≠ 0 → am_eq FS h h1 ∧ am_le h h1) (p2 : (k3 (IX nq P) true true) = 0 → ∃ (x : Int32) (h' : am_H), am_le h h' ∧ h1 = am_sL h' 40 0 x.toInt64 ∧ ∃ R : Bool, x = b2i R ∧ (R = true ↔ hi_ h (300 + 4 * dn P) 2 ≠ -1 ∧ KQm h (dn P)) ∧ h' = h) (hm : am_eq S4 (am_sI h1 14 19 (nI (k3 (IX nq P) true true))) h2 ∧ am_le h1 h2 ∧ ((k3 (IX nq P) true true) = 0 → ∃ R : Bool, V = b2i R ∧ (R = true ↔ ¬ hi_ h1 32 (dn P) < 0 ∧ MK h1 (tC h) (xX h) (rX h) 31 30 (dn P) (qdH h (dn P))))) : RES h2 (k3 (IX nq P) true true) V ∧ ((k3 (IX nq P) true true) = 0 → ∃ B, V = b2i B) := by
  have n6 := hI.1.2.1.1
  have hp := hI.1.2.1.2.1
  have hq := hI.1.2.1.2.2
  have hD := hI.1.1.2.1
  obtain ⟨mA, oA, leA⟩ := PO_A hI p1 p2 (fun x h' q => by obtain ⟨R, -, -, e⟩ := q; rw [e]; exact am_eq_rf _ _)
  refine ⟨?_, fun z => by obtain ⟨R, e, -⟩ := hm.2.2 z; exact ⟨R, e⟩⟩
  obtain ⟨f1, f2⟩ := (⟨hm.1, hm.2.1⟩ : _ ∧ _)
  refine RES_s hI p1 p2 (fun x h' z q => ?_) f1 f2
  obtain ⟨a, -, -⟩ := k3_z z
  obtain ⟨hd, -⟩ := IX_dn (by omega) a
  obtain ⟨R, hx, hR, e⟩ := q
  obtain ⟨R2, hV, hR2⟩ := hm.2.2 z
  refine ⟨by rw [e]; exact am_eq_rf _ _, ?_⟩
  obtain ⟨-, -, -, -, w1, w2⟩ := mA.2.2.2.2.2 _ hd
  have e9 : (¬ hi_ h1 32 (dn P) < 0) ↔ hi_ h (300 + 4 * dn P) 2 ≠ -1 := by
    rw [← w1]
    have := OKs_neg w2
    rw [decide_eq_decide] at this
    exact not_congr this
  rw [hx, hV, b_iff hR hR2 (and_congr e9.symm (MK_Q hI mA hd).symm)]
theorem st_begin {h h1 h2 : am_H} {n np nq : Nat} {V : Int32} (hI : INV h n np nq) (p1 : (k3 (decide (n < 6)) true true) ≠ 0 → am_eq FS h h1 ∧ am_le h h1) (p2 : (k3 (decide (n < 6)) true true) = 0 → ∃ (x : Int32) (h' : am_H), am_le h h' ∧ h1 = am_sL h' 40 0 x.toInt64 ∧ x = nI n ∧ am_eq (SB n) h h' ∧ CI h' (n + 1) np nq ∧ ND h' n) (hm : ((k3 (decide (n < 6)) true true) ≠ 0 → h2 = am_sI h1 14 19 (nI (k3 (decide (n < 6)) true true))) ∧ ((k3 (decide (n < 6)) true true) = 0 → V = nI n ∧ am_eq (fun q => q = 14 ∨ q = 15 ∨ q = 18 ∨ q = 19) h1 h2 ∧ FM h2 ∧ hi_ h2 14 19 = nI 0 ∧ hi_ h2 14 0 = nI (n + 1) ∧ (∀ j, j ≠ 0 → j ≠ 19 → hi_ h2 14 j = hi_ h1 14 j) ∧ (∀ s, s < 40 → hi_ h2 15 (40 * n + s) = -1) ∧ (∀ b, b < 40 * n → hi_ h2 15 b = hi_ h1 15 b) ∧ hi_ h2 18 n = -1 ∧ hi_ h2 19 n = -1 ∧ (∀ b, b ≠ n → hi_ h2 18 b = hi_ h1 18 b ∧ hi_ h2 19 b = hi_ h1 19 b))) : RES h2 (k3 (decide (n < 6)) true true) V := by
  have n6 := hI.1.2.1.1
  have hp := hI.1.2.1.2.1
  have hq := hI.1.2.1.2.2
  have hD := hI.1.1.2.1
  obtain ⟨mA, oA, leA⟩ := PO_A hI p1 p2 (fun x h' q => am_eq_mono (fun r hr => Or.elim hr (fun z => by unfold SL at z; unfold SC; omega) (fun z => by unfold SC; omega)) q.2.1)
  by_cases z : k3 (decide (n < 6)) true true = 0
  · obtain ⟨x, h', hle, e1, qx, q1, q2, q3⟩ := p2 z
    obtain ⟨mV, m1, m2, m3, m4, m5, m6, m7, m8, m9, m10⟩ := hm.2 z
    have hn : n < 6 := of_decide_eq_true (k3_z z).1
    have mm := MI_begin hn hp hq q1 q3 mA m1 m2 m4 m5 m6 m7 m8 m9 m10
    have e : am_eq (fun q => 9 ≤ q ∧ q < 100) h' h2 := am_eq_tr (by rw [e1]; exact am_eq_sL (by decide)) (am_eq_mono (fun r hr => by omega) m1)
    have hle2 : am_le h1 h2 := fun r hr => by
      by_cases w : r = 14 ∨ r = 15 ∨ r = 18 ∨ r = 19
      · have key : ∀ q ∈ rp_KM, hk_ h2 q.1 = hk_ h1 q.1 ∧ hn_ h2 q.1 = hn_ h1 q.1 := fun q hq => ⟨(m2.1 q hq).1.trans (mA.1.1.1 q hq).1.symm, (m2.1 q hq).2.trans (mA.1.1.1 q hq).2.symm⟩
        rcases w with rfl | rfl | rfl | rfl
        · exact key (14, 8, 0) (by decide)
        · exact key (15, 9, 240) (by decide)
        · exact key (18, 9, 6) (by decide)
        · exact key (19, 9, 6) (by decide)
      · exact ⟨(m1 r w).1, (m1 r w).2.1⟩
    have ho2 : OA h2 := OA_le hle2 oA
    have hle3 : am_le h' h2 := am_le_tr (by rw [e1]; exact am_le_sL _ _ _ _) hle2
    have i2 := INV_fin (fun r hr => hr) q2 mm e hle3 ho2
    rw [z]
    refine ⟨m2, m3, fun _ => ?_, ho2, n + 1, np, nq, i2⟩
    rw [(m1 40 (by omega)).2.2.2.2 0, e1, hl_sL_s, qx, mV]
  · exact RES_n z hI p1 (by rw [hm.1 z]; exact am_eq_rf _ _) (by rw [hm.1 z]; exact am_le_sI _ _ _ _)
theorem st_grant {h h1 h2 : am_H} {n np nq : Nat} {D V : Int32} {R R' : Bool} (hVR : VW (sdH h (dn D)) (exH h (dn D)) R) (hI : INV h n np nq) (p1 : (k3 (IX n D) (decide (np < 20) && R) true) ≠ 0 → am_eq FS h h1 ∧ am_le h h1) (p2 : (k3 (IX n D) (decide (np < 20) && R) true) = 0 → ∃ (x : Int32) (h' : am_H), am_le h h' ∧ h1 = am_sL h' 40 0 x.toInt64 ∧ x = nI np ∧ am_eq (SG np) h h' ∧ CI h' n (np + 1) nq ∧ pdH h' np = dn D ∧ (∀ s, s < 40 → hi_ h' (202 + 4 * np) s = sdH h (dn D) s) ∧ ∀ k, k < 25 → hi_ h' (203 + 4 * np) k = b2i (exH h (dn D) k)) (hm : am_le h1 h2 ∧ (IX n D = true → VW (fun s => sdF (tC h) (rX h) 6 (dn D) s) (fun c => exF (xX h) (rX h) 6 (dn D) c) R') ∧ ((k3 (IX n D) (decide (np < 20) && R') true) ≠ 0 → am_eq S4 (am_sI h1 14 19 (nI (k3 (IX n D) (decide (np < 20) && R') true))) h2) ∧ ((k3 (IX n D) (decide (np < 20) && R') true) = 0 → V = nI np ∧ am_eq (fun q => q = 14 ∨ S4 q ∨ S7 q) h1 h2 ∧ FM h2 ∧ hi_ h2 14 19 = nI 0 ∧ hi_ h2 14 10 = nI (np + 1) ∧ (∀ j, j ≠ 10 → j ≠ 19 → hi_ h2 14 j = hi_ h1 14 j) ∧ hi_ h2 25 np = D ∧ (∀ c, c < 32 → bt (hi_ h2 27 np) c = exF (xX h) (rX h) 6 (dn D) c) ∧ (∀ b, b ≠ np → hi_ h2 25 b = hi_ h1 25 b ∧ hi_ h2 27 b = hi_ h1 27 b) ∧ (∀ s, s < 40 → hi_ h2 26 (40 * np + s) = sdF (tC h) (rX h) 6 (dn D) s) ∧ ∀ b, b < 40 * np → hi_ h2 26 b = hi_ h1 26 b)) : RES h2 (k3 (IX n D) (decide (np < 20) && R) true) V := by
  have n6 := hI.1.2.1.1
  have hp := hI.1.2.1.2.1
  have hq := hI.1.2.1.2.2
  have hD := hI.1.1.2.1
  obtain ⟨mA, oA, leA⟩ := PO_A hI p1 p2 (fun x h' q => am_eq_mono (fun r hr => by unfold SG SL FS at hr; unfold SC; omega) q.2.1)
  obtain ⟨hle2, hW, ha, hb⟩ := hm
  have hK : k3 (IX n D) (decide (np < 20) && R') true = k3 (IX n D) (decide (np < 20) && R) true := by
    cases c : IX n D
    · rfl
    · rw [VW_u hVR (VW_X hD (IX_dn (by omega) c).1 (hW c))]
  rw [hK] at ha hb
  by_cases z : k3 (IX n D) (decide (np < 20) && R) true = 0
  · obtain ⟨x, h', hle, e1, qx, q1, q2, q3, q4, q5⟩ := p2 z
    obtain ⟨mV, m1, m2, m3, m4, m5, m6, m7, m8, m9, m10⟩ := hb z
    obtain ⟨a, b9, -⟩ := k3_z z
    obtain ⟨hd, eD⟩ := IX_dn (by omega) a
    rw [Bool.and_eq_true] at b9
    have hn : np < 20 := of_decide_eq_true b9.1
    have mm := MI_grant hn hq hd hD q1 q3 q4 q5 mA m1 m2 m4 m5 (m6.trans eD) m7 m8 m9 m10
    have e : am_eq (fun q => 9 ≤ q ∧ q < 100) h' h2 := am_eq_tr (by rw [e1]; exact am_eq_sL (by decide)) (am_eq_mono (fun r hr => by unfold S4 S7 at hr; omega) m1)
    have ho2 : OA h2 := OA_le hle2 oA
    have hle3 : am_le h' h2 := am_le_tr (by rw [e1]; exact am_le_sL _ _ _ _) hle2
    have i2 := INV_fin (fun r hr => hr) q2 mm e hle3 ho2
    rw [z]
    refine ⟨m2, m3, fun _ => ?_, ho2, n, np + 1, nq, i2⟩
    rw [(m1 40 (by unfold S4 S7; omega)).2.2.2.2 0, e1, hl_sL_s, qx, mV]
  · exact RES_n z hI p1 (ha z) hle2
theorem HPk_m {h h1 : am_H} {n np nq d : Nat} {R : Int32} (hI : INV h n np nq) (m : MI h h1 n np nq) (a : HPk (fun k => pdH h k = d ∧ MK h1 (tC h) (xX h) (rX h) 27 26 k (pdH h k)) np R) : HPm h np d R := by
  rcases a with ⟨e, w⟩ | ⟨j, hj, e, ⟨w1, w2⟩, w3⟩
  · exact Or.inl ⟨e, fun k hk q => w k hk ⟨q.1, (MK_P hI m hk).mpr q.2⟩⟩
  · exact Or.inr ⟨j, hj, e, ⟨w1, (MK_P hI m hj).mp w2⟩, fun i h1 h2 q => w3 i h1 h2 ⟨q.1, (MK_P hI m h2).mpr q.2⟩⟩
theorem HPk_ok {Q : Nat → Prop} {k : Nat} {R : Int32} (hk : k < 2 ^ 31) (a : HPk Q k R) : OKs R := by
  rcases a with ⟨e, -⟩ | ⟨j, hj, e, -⟩
  · exact Or.inl e
  · rw [e]; exact Or.inr (nI_pos (by omega))
theorem st_print {h h1 h2 : am_H} {n np nq : Nat} {D V : Int32} (hI : INV h n np nq) (p1 : (k3 (IX n D) (decide (nq < 30)) true) ≠ 0 → am_eq FS h h1 ∧ am_le h h1) (p2 : (k3 (IX n D) (decide (nq < 30)) true) = 0 → ∃ (x : Int32) (h' : am_H), am_le h h' ∧ h1 = am_sL h' 40 0 x.toInt64 ∧ x = nI nq ∧ am_eq (SP nq) h h' ∧ CI h' n np (nq + 1) ∧ qdH h' nq = dn D ∧ (∀ s, s < 40 → hi_ h' (302 + 4 * nq) s = sdH h (dn D) s) ∧ (∀ k, k < 25 → hi_ h' (303 + 4 * nq) k = b2i (exH h (dn D) k)) ∧ HPm h np (dn D) (hi_ h' (300 + 4 * nq) 2)) (hm : am_le h1 h2 ∧ ((k3 (IX n D) (decide (nq < 30)) true) ≠ 0 → h2 = am_sI h1 14 19 (nI (k3 (IX n D) (decide (nq < 30)) true))) ∧ ((k3 (IX n D) (decide (nq < 30)) true) = 0 → V = nI nq ∧ am_eq (fun q => q = 14 ∨ S4 q ∨ S8 q) h1 h2 ∧ FM h2 ∧ hi_ h2 14 19 = nI 0 ∧ hi_ h2 14 14 = nI (nq + 1) ∧ (∀ j, j ≠ 14 → j ≠ 19 → hi_ h2 14 j = hi_ h1 14 j) ∧ hi_ h2 29 nq = D ∧ (∀ c, c < 32 → bt (hi_ h2 31 nq) c = exF (xX h) (rX h) 6 (dn D) c) ∧ (∀ b, b ≠ nq → hi_ h2 29 b = hi_ h1 29 b ∧ hi_ h2 31 b = hi_ h1 31 b ∧ hi_ h2 32 b = hi_ h1 32 b) ∧ (∀ s, s < 40 → hi_ h2 30 (40 * nq + s) = sdF (tC h) (rX h) 6 (dn D) s) ∧ (∀ b, b < 40 * nq → hi_ h2 30 b = hi_ h1 30 b) ∧ HPk (fun k => pdH h k = dn D ∧ MK h1 (tC h) (xX h) (rX h) 27 26 k (pdH h k)) np (hi_ h2 32 nq))) : RES h2 (k3 (IX n D) (decide (nq < 30)) true) V := by
  have n6 := hI.1.2.1.1
  have hp := hI.1.2.1.2.1
  have hq := hI.1.2.1.2.2
  have hD := hI.1.1.2.1
  obtain ⟨mA, oA, leA⟩ := PO_A hI p1 p2 (fun x h' q => am_eq_mono (fun r hr => by unfold SP SL at hr; unfold SC; omega) q.2.1)
  obtain ⟨hle2, ha, hb⟩ := hm
  by_cases z : k3 (IX n D) (decide (nq < 30)) true = 0
  · obtain ⟨x, h', hle, e1, qx, q1, q2, q3, q4, q5, q6⟩ := p2 z
    obtain ⟨mV, m1, m2, m3, m4, m5, m6, m7, m8, m9, m10, m11⟩ := hb z
    obtain ⟨a, b9, -⟩ := k3_z z
    obtain ⟨hd, eD⟩ := IX_dn (by omega) a
    have hn : nq < 30 := of_decide_eq_true b9
    have mm := MI_print hp hn hd hD q1 q3 q4 q5 mA m1 m2 m4 m5 (m6.trans eD) m7 m8 m9 m10 (HPm_u (by omega) (HPk_m hI mA m11) q6) (HPk_ok (by omega) m11)
    have e : am_eq (fun q => 9 ≤ q ∧ q < 100) h' h2 := am_eq_tr (by rw [e1]; exact am_eq_sL (by decide)) (am_eq_mono (fun r hr => by unfold S4 S8 at hr; omega) m1)
    have ho2 : OA h2 := OA_le hle2 oA
    have hle3 : am_le h' h2 := am_le_tr (by rw [e1]; exact am_le_sL _ _ _ _) hle2
    have i2 := INV_fin (fun r hr => hr) q2 mm e hle3 ho2
    rw [z]
    refine ⟨m2, m3, fun _ => ?_, ho2, n, np, nq + 1, i2⟩
    rw [(m1 40 (by unfold S4 S8; omega)).2.2.2.2 0, e1, hl_sL_s, qx, mV]
  · exact RES_n z hI p1 (by rw [ha z]; exact am_eq_rf _ _) hle2
