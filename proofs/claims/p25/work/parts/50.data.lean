/-! ===== a state of the class as plain data ===== -/
/-- codes of what a side is: 0 nothing, 1 OPEN, 2 WALL, 3 (and more) DOOR -/
def z_cd (k : Nat) : Int32 := if k = 0 then -1 else if k = 1 then 0 else if k = 2 then 1 else 2
def z_ec (w : Int32) : Nat := if w = -1 then 0 else if w = 0 then 1 else if w = 1 then 2 else 3
def z_cq (a b : Nat) : Bool := decide (min a 3 = min b 3)
theorem z_cd_min (a : Nat) : z_cd a = z_cd (min a 3) := by
  by_cases h : a ≤ 3
  · rw [Nat.min_eq_left h]
  · rw [Nat.min_eq_right (by omega)]
    unfold z_cd
    rw [if_neg (by omega), if_neg (by omega), if_neg (by omega)]
    rfl
theorem z_cq_iff {a b : Nat} : z_cq a b = true ↔ z_cd a = z_cd b := by
  unfold z_cq
  rw [decide_eq_true_iff, z_cd_min a, z_cd_min b]
  have key : ∀ x, x < 4 → ∀ y, y < 4 → (x = y ↔ z_cd x = z_cd y) := by decide
  exact key _ (by omega) _ (by omega)
theorem z_cd_0 {a : Nat} : z_cd a = -1 ↔ a = 0 := by
  rw [z_cd_min a]
  have key : ∀ x, x < 4 → (z_cd x = -1 ↔ x = 0) := by decide
  have := key (min a 3) (by omega)
  rw [this]
  omega
theorem z_cd_2 {a : Nat} : z_cd a = 1 ↔ a = 2 := by
  rw [z_cd_min a]
  have key : ∀ x, x < 4 → (z_cd x = 1 ↔ x = 2) := by decide
  rw [key (min a 3) (by omega)]
  omega
theorem z_cd_3 {a : Nat} : z_cd a = 2 ↔ 3 ≤ a := by
  rw [z_cd_min a]
  have key : ∀ x, x < 4 → (z_cd x = 2 ↔ x = 3) := by decide
  rw [key (min a 3) (by omega)]
  omega
theorem z_cd_o {a : Nat} : opn (z_cd a) ↔ a ≤ 1 := by
  unfold opn
  rw [z_cd_min a]
  have key : ∀ x, x < 4 → ((z_cd x = -1 ∨ z_cd x = 0) ↔ x ≤ 1) := by decide
  rw [key (min a 3) (by omega)]
  omega
theorem z_IW {w : Int32} (h : IW w = true) : w = -1 ∨ w = 0 ∨ w = 1 ∨ w = 2 := by
  unfold IW at h
  rw [Bool.and_eq_true, decide_eq_true_iff, decide_eq_true_iff] at h
  have a := Int32.le_iff_toInt_le.mp h.1
  have b := Int32.le_iff_toInt_le.mp h.2
  have c : (-1 : Int32).toInt = -1 := by decide
  have d : (0 : Int32).toInt = 0 := by decide
  have e : (1 : Int32).toInt = 1 := by decide
  have f : (2 : Int32).toInt = 2 := by decide
  rw [c] at a
  rw [f] at b
  rcases (by omega : w.toInt = -1 ∨ w.toInt = 0 ∨ w.toInt = 1 ∨ w.toInt = 2) with q | q | q | q
  · exact Or.inl (Int32.toInt_inj.mp (q.trans c.symm))
  · exact Or.inr (Or.inl (Int32.toInt_inj.mp (q.trans d.symm)))
  · exact Or.inr (Or.inr (Or.inl (Int32.toInt_inj.mp (q.trans e.symm))))
  · exact Or.inr (Or.inr (Or.inr (Int32.toInt_inj.mp (q.trans f.symm))))
theorem z_cd_ec {w : Int32} (h : IW w = true) : z_cd (z_ec w) = w := by
  rcases z_IW h with rfl | rfl | rfl | rfl <;> decide
/-- what a side is over references, in codes -/
def z_fst (g : Nat → Nat) : Nat → Nat → Nat
  | _, 0 => 0
  | i, m + 1 => if g i = 0 then z_fst g (i + 1) m else g i
def z_sdF (t : Nat → Nat → Nat) (r : Nat → Nat → Bool) : Nat → Nat → Nat → Nat
  | 0, d, s => t d s
  | f + 1, d, s => if t d s = 0 then z_fst (fun k => if r d k = true then z_sdF t r f k s else 0) 0 6 else t d s
theorem z_fst_cd (g : Nat → Nat) : ∀ (m i : Nat), fst6 (fun k => z_cd (g k)) i m = z_cd (z_fst g i m)
  | 0, _ => rfl
  | m + 1, i => by
    show (if z_cd (g i) = -1 then _ else _) = z_cd (if g i = 0 then _ else _)
    by_cases h : g i = 0
    · rw [if_pos (z_cd_0.mpr h), if_pos h, z_fst_cd g m (i + 1)]
    · rw [if_neg (fun q => h (z_cd_0.mp q)), if_neg h]
theorem z_sd_cd (t : Nat → Nat → Nat) (r : Nat → Nat → Bool) (s : Nat) : ∀ (f d : Nat), sdF (fun d s => z_cd (t d s)) r f d s = z_cd (z_sdF t r f d s)
  | 0, _ => rfl
  | f + 1, d => by
    show (if z_cd (t d s) = -1 then fst6 (fun k => if r d k = true then sdF (fun d s => z_cd (t d s)) r f k s else -1) 0 6 else _) = z_cd (if t d s = 0 then _ else _)
    have e : (fun k => if r d k = true then sdF (fun d s => z_cd (t d s)) r f k s else -1) = fun k => z_cd (if r d k = true then z_sdF t r f k s else 0) := by
      funext k
      by_cases h : r d k = true
      · rw [if_pos h, if_pos h, z_sd_cd t r s f k]
      · rw [if_neg h, if_neg h]
        rfl
    rw [e, z_fst_cd]
    by_cases h : t d s = 0
    · rw [if_pos (z_cd_0.mpr h), if_pos h]
    · rw [if_neg (fun q => h (z_cd_0.mp q)), if_neg h]
/-! a drawing: what it tells, its exits, its references, who locked it, to whom it is lent; a permit: drawing, sides, exits; a print: the same, and its permit -/
abbrev z_Dr : Type := (List Nat × List Bool) × List Bool × Int32 × Int32
abbrev z_Pm : Type := Nat × List Nat × List Bool
abbrev z_Pq : Type := Nat × List Nat × List Bool × Int32
abbrev z_Sg : Type := List z_Dr × List z_Pm × List z_Pq
def z_gD (σ : z_Sg) (d : Nat) : z_Dr := σ.1.getD d (([], []), [], -1, -1)
def z_gP (σ : z_Sg) (i : Nat) : z_Pm := σ.2.1.getD i (0, [], [])
def z_gQ (σ : z_Sg) (i : Nat) : z_Pq := σ.2.2.getD i (0, [], [], -1)
def z_T (σ : z_Sg) (d s : Nat) : Nat := (z_gD σ d).1.1.getD s 0
def z_X (σ : z_Sg) (d c : Nat) : Bool := (z_gD σ d).1.2.getD c false
def z_R (σ : z_Sg) (d k : Nat) : Bool := (z_gD σ d).2.1.getD k false
def z_L (σ : z_Sg) (d : Nat) : Int32 := (z_gD σ d).2.2.1
def z_B (σ : z_Sg) (d : Nat) : Int32 := (z_gD σ d).2.2.2
def z_ch (σ : z_Sg) (d : Nat) : Int32 := if z_B σ d = -1 then z_L σ d else z_B σ d
def z_n (σ : z_Sg) : Nat := σ.1.length
def z_np (σ : z_Sg) : Nat := σ.2.1.length
def z_nq (σ : z_Sg) : Nat := σ.2.2.length
def z_wD (x : z_Dr) : Prop := x.1.1.length = 40 ∧ x.1.2.length = 25 ∧ x.2.1.length = 6
def z_SD (h : am_H) (d : Nat) (x : z_Dr) : Prop := z_wD x ∧ (∀ s, s < 40 → tC h d s = z_cd (x.1.1.getD s 0)) ∧ (∀ c, c < 25 → xC h d c = x.1.2.getD c false) ∧ (∀ k, k < 6 → rC h d k = x.2.1.getD k false) ∧ hi_ h (100 + 4 * d) 3 = x.2.2.1 ∧ hi_ h (100 + 4 * d) 4 = x.2.2.2
def z_SP (h : am_H) (i : Nat) (p : z_Pm) : Prop := pdH h i = p.1 ∧ (∀ s, s < 40 → hi_ h (202 + 4 * i) s = z_cd (p.2.1.getD s 0)) ∧ ∀ c, c < 25 → hi_ h (203 + 4 * i) c = b2i (p.2.2.getD c false)
def z_SQ (h : am_H) (i : Nat) (q : z_Pq) : Prop := qdH h i = q.1 ∧ (∀ s, s < 40 → hi_ h (302 + 4 * i) s = z_cd (q.2.1.getD s 0)) ∧ (∀ c, c < 25 → hi_ h (303 + 4 * i) c = b2i (q.2.2.1.getD c false)) ∧ hi_ h (300 + 4 * i) 2 = q.2.2.2
/-- the class's objects in h are as σ says -/
def SZ (h : am_H) (σ : z_Sg) : Prop := CI h (z_n σ) (z_np σ) (z_nq σ) ∧ (∀ d, d < z_n σ → z_SD h d (z_gD σ d)) ∧ (∀ i, i < z_np σ → z_SP h i (z_gP σ i)) ∧ ∀ i, i < z_nq σ → z_SQ h i (z_gQ σ i)
theorem SZ_3 {h : am_H} {σ : z_Sg} (hS : SZ h σ) : hk_ h 3 = 7 := (hS.1.1.1.1 (3, 7, 0) (by decide)).1
theorem SZ_6 {h : am_H} {σ : z_Sg} (hS : SZ h σ) : z_n σ ≤ 6 ∧ z_np σ ≤ 20 ∧ z_nq σ ≤ 30 := hS.1.2.1
/-! frames -/
theorem z_SD_e {S : Nat → Prop} {h h' : am_H} {d : Nat} {x : z_Dr} (h0 : ¬ S (100 + 4 * d)) (h1 : ¬ S (101 + 4 * d)) (h2 : ¬ S (102 + 4 * d)) (h3 : ¬ S (103 + 4 * d)) (e : am_eq S h h') (hd : z_SD h d x) : z_SD h' d x := by
  obtain ⟨w, a, b, c, f, g⟩ := hd
  refine ⟨w, fun s hs => ((e _ h1).2.2.1 s).trans (a s hs), fun k hk => ?_, fun k hk => ?_, ((e _ h0).2.2.1 3).trans f, ((e _ h0).2.2.1 4).trans g⟩
  · unfold xC
    rw [(e _ h2).2.2.1 k]
    exact b k hk
  · unfold rC
    rw [(e _ h3).2.2.2.1 k]
    exact c k hk
theorem z_SP_e {S : Nat → Prop} {h h' : am_H} {i : Nat} {p : z_Pm} (h0 : ¬ S (200 + 4 * i)) (h2 : ¬ S (202 + 4 * i)) (h3 : ¬ S (203 + 4 * i)) (e : am_eq S h h') (hp : z_SP h i p) : z_SP h' i p := by
  obtain ⟨a, b, c⟩ := hp
  refine ⟨?_, fun s hs => ((e _ h2).2.2.1 s).trans (b s hs), fun s hs => ((e _ h3).2.2.1 s).trans (c s hs)⟩
  unfold pdH
  rw [(e _ h0).2.2.2.1 0]
  exact a
theorem z_SQ_e {S : Nat → Prop} {h h' : am_H} {i : Nat} {q : z_Pq} (h0 : ¬ S (300 + 4 * i)) (h2 : ¬ S (302 + 4 * i)) (h3 : ¬ S (303 + 4 * i)) (e : am_eq S h h') (hq : z_SQ h i q) : z_SQ h' i q := by
  obtain ⟨a, b, c, f⟩ := hq
  refine ⟨?_, fun s hs => ((e _ h2).2.2.1 s).trans (b s hs), fun s hs => ((e _ h3).2.2.1 s).trans (c s hs), ((e _ h0).2.2.1 2).trans f⟩
  unfold qdH
  rw [(e _ h0).2.2.2.1 0]
  exact a
/-- nothing but the floor's rows has changed -/
theorem SZ_eq {S : Nat → Prop} {h h' : am_H} {σ : z_Sg} (hs : ∀ r, S r → 9 ≤ r ∧ r < 100) (e : am_eq S h h') (hle : am_le h h') (hS : SZ h σ) : SZ h' σ := by
  have no : ∀ r, 100 ≤ r → ¬ S r := fun r hr z => by have := hs r z; omega
  exact ⟨CI_eq hs e hle hS.1, fun d hd => z_SD_e (no _ (by omega)) (no _ (by omega)) (no _ (by omega)) (no _ (by omega)) e (hS.2.1 d hd), fun i hi => z_SP_e (no _ (by omega)) (no _ (by omega)) (no _ (by omega)) e (hS.2.2.1 i hi), fun i hi => z_SQ_e (no _ (by omega)) (no _ (by omega)) (no _ (by omega)) e (hS.2.2.2 i hi)⟩
theorem SZ_FS {h h' : am_H} {σ : z_Sg} (e : am_eq FS h h') (hle : am_le h h') (hS : SZ h σ) : SZ h' σ := SZ_eq (fun r hr => by unfold FS at hr; omega) e hle hS
/-! what follows over references -/
theorem SZ_sd {h : am_H} {σ : z_Sg} (hS : SZ h σ) {d s : Nat} (hd : d < z_n σ) (hs : s < 40) : sdH h d s = z_cd (z_sdF (z_T σ) (z_R σ) 6 d s) := by
  rw [← z_sd_cd]
  exact sdF_congr (n := z_n σ) (rC_lt hS.1.1.2.1) (fun d hd => (hS.2.1 d hd).2.1 s hs) (fun d hd k hk => (hS.2.1 d hd).2.2.2.1 k hk) 6 d hd
theorem SZ_ex {h : am_H} {σ : z_Sg} (hS : SZ h σ) {d c : Nat} (hd : d < z_n σ) (hc : c < 25) : exH h d c = exF (z_X σ) (z_R σ) 6 d c :=
  exF_congr (n := z_n σ) (rC_lt hS.1.1.2.1) (fun d hd => (hS.2.1 d hd).2.2.1 c hc) (fun d hd k hk => (hS.2.1 d hd).2.2.2.1 k hk) 6 d hd
theorem SZ_ld {h : am_H} {σ : z_Sg} (hS : SZ h σ) {d e : Nat} (hd : d < z_n σ) : ldF (rC h) 6 d e = ldF (z_R σ) 6 d e :=
  ldF_congr (n := z_n σ) (rC_lt hS.1.1.2.1) (fun d hd k hk => (hS.2.1 d hd).2.2.2.1 k hk) 6 d hd
theorem SZ_ch {h : am_H} {σ : z_Sg} (hS : SZ h σ) {d : Nat} (hd : d < z_n σ) : chg h d = z_ch σ d := by
  unfold chg z_ch z_B z_L
  rw [(hS.2.1 d hd).2.2.2.2.1, (hS.2.1 d hd).2.2.2.2.2]
/-- all sides, all exits of a drawing -/
def z_sl (σ : z_Sg) (d : Nat) : List Nat := (List.range 40).map (fun s => z_sdF (z_T σ) (z_R σ) 6 d s)
def z_xl (σ : z_Sg) (d : Nat) : List Bool := (List.range 25).map (fun c => exF (z_X σ) (z_R σ) 6 d c)
theorem z_mapr {α : Type} (f : Nat → α) (a : α) {N i : Nat} (hi : i < N) : ((List.range N).map f).getD i a = f i := by
  rw [List.getD_eq_getElem?_getD, List.getElem?_map, List.getElem?_range hi]
  rfl
theorem z_sl_at (σ : z_Sg) (d : Nat) {s : Nat} (hs : s < 40) : (z_sl σ d).getD s 0 = z_sdF (z_T σ) (z_R σ) 6 d s := z_mapr _ _ hs
theorem z_xl_at (σ : z_Sg) (d : Nat) {c : Nat} (hc : c < 25) : (z_xl σ d).getD c false = exF (z_X σ) (z_R σ) 6 d c := z_mapr _ _ hc
/-! updates -/
theorem z_gset {α : Type} (l : List α) (i j : Nat) (a b : α) (hi : i < l.length) : (l.set i a).getD j b = if j = i then a else l.getD j b := by
  rw [List.getD_eq_getElem?_getD, List.getD_eq_getElem?_getD]
  by_cases h : j = i
  · rw [if_pos h, h, List.getElem?_set_self hi]
    rfl
  · rw [if_neg h, List.getElem?_set_ne (Ne.symm h)]
theorem z_gapp {α : Type} (l : List α) (a b : α) (j : Nat) (hj : j < l.length + 1) : (l ++ [a]).getD j b = if j = l.length then a else l.getD j b := by
  rw [List.getD_eq_getElem?_getD, List.getD_eq_getElem?_getD]
  by_cases h : j = l.length
  · rw [if_pos h, h, List.getElem?_append_right (Nat.le_refl _), Nat.sub_self]
    rfl
  · rw [if_neg h, List.getElem?_append_left (by omega)]
def z_uD (σ : z_Sg) (d : Nat) (x : z_Dr) : z_Sg := (σ.1.set d x, σ.2)
theorem z_n_uD (σ : z_Sg) (d : Nat) (x : z_Dr) : z_n (z_uD σ d x) = z_n σ := List.length_set
theorem z_gD_uD {σ : z_Sg} {d : Nat} (x : z_Dr) (hd : d < z_n σ) (e : Nat) : z_gD (z_uD σ d x) e = if e = d then x else z_gD σ e := z_gset _ _ _ _ _ hd
/-- drawing d's own rows change, as x says -/
theorem SZ_uD {h h' : am_H} {σ : z_Sg} {d : Nat} {x : z_Dr} (hS : SZ h σ) (hd : d < z_n σ) (hc : CI h' (z_n σ) (z_np σ) (z_nq σ)) (e : am_eq (fun r => 100 + 4 * d ≤ r ∧ r < 104 + 4 * d) h h') (hx : z_SD h' d x) : SZ h' (z_uD σ d x) := by
  have n6 := (SZ_6 hS).1
  refine ⟨by rw [z_n_uD]; exact hc, fun f hf => ?_, fun i hi => z_SP_e (by omega) (by omega) (by omega) e (hS.2.2.1 i hi), fun i hi => z_SQ_e (by omega) (by omega) (by omega) e (hS.2.2.2 i hi)⟩
  rw [z_n_uD] at hf
  rw [z_gD_uD x hd]
  by_cases z : f = d
  · rw [if_pos z, z]
    exact hx
  · rw [if_neg z]
    exact z_SD_e (by omega) (by omega) (by omega) (by omega) e (hS.2.1 f hf)
def z_uT (σ : z_Sg) (d s w : Nat) : z_Sg := z_uD σ d (((z_gD σ d).1.1.set s w, (z_gD σ d).1.2), (z_gD σ d).2)
def z_uX (σ : z_Sg) (d c : Nat) (b : Bool) : z_Sg := z_uD σ d (((z_gD σ d).1.1, (z_gD σ d).1.2.set c b), (z_gD σ d).2)
def z_uR (σ : z_Sg) (d k : Nat) (b : Bool) : z_Sg := z_uD σ d ((z_gD σ d).1, (z_gD σ d).2.1.set k b, (z_gD σ d).2.2)
def z_uL (σ : z_Sg) (d : Nat) (p : Int32) : z_Sg := z_uD σ d ((z_gD σ d).1, (z_gD σ d).2.1, p, (z_gD σ d).2.2.2)
def z_uB (σ : z_Sg) (d : Nat) (p : Int32) : z_Sg := z_uD σ d ((z_gD σ d).1, (z_gD σ d).2.1, (z_gD σ d).2.2.1, p)
def z_fresh : z_Dr := ((List.replicate 40 0, List.replicate 25 false), List.replicate 6 false, -1, -1)
def z_begin (σ : z_Sg) : z_Sg := (σ.1 ++ [z_fresh], σ.2)
def z_grant (σ : z_Sg) (d : Nat) : z_Sg := (σ.1, σ.2.1 ++ [(d, z_sl σ d, z_xl σ d)], σ.2.2)
def z_print (σ : z_Sg) (d : Nat) (R : Int32) : z_Sg := (σ.1, σ.2.1, σ.2.2 ++ [(d, z_sl σ d, z_xl σ d, R)])
theorem SZ_uT {h : am_H} {σ : z_Sg} {d s : Nat} {W : Int32} (hS : SZ h σ) (hd : d < z_n σ) (hs : s < 40) (hW : IW W = true) : SZ (am_sI h (101 + 4 * d) s W) (z_uT σ d s (z_ec W)) := by
  obtain ⟨⟨w1, w2, w3⟩, a, b, c, f, g⟩ := hS.2.1 d hd
  refine SZ_uD hS hd (CI_sI (by omega) (fun d _ => by omega) hS.1) (am_eq_sI (by omega)) ⟨⟨by rw [List.length_set]; exact w1, w2, w3⟩, fun t ht => ?_, fun k hk => ?_, c, ?_, ?_⟩
  · show hi_ (am_sI h (101 + 4 * d) s W) (101 + 4 * d) t = _
    rw [hi_sI]
    show _ = z_cd (((z_gD σ d).1.1.set s (z_ec W)).getD t 0)
    rw [z_gset _ _ _ _ _ (by rw [w1]; exact hs)]
    by_cases z : t = s
    · rw [if_pos ⟨rfl, z⟩, if_pos z, z_cd_ec hW]
    · rw [if_neg (fun q => z q.2), if_neg z]
      exact a t ht
  · unfold xC
    rw [hi_sI, if_neg (fun q => by omega)]
    exact b k hk
  · rw [hi_sI, if_neg (fun q => by omega)]; exact f
  · rw [hi_sI, if_neg (fun q => by omega)]; exact g
theorem SZ_uX {h : am_H} {σ : z_Sg} {d s : Nat} {B : Bool} (hS : SZ h σ) (hd : d < z_n σ) (hs : s < 25) : SZ (am_sI h (102 + 4 * d) s (b2i B)) (z_uX σ d s B) := by
  obtain ⟨⟨w1, w2, w3⟩, a, b, c, f, g⟩ := hS.2.1 d hd
  refine SZ_uD hS hd (CI_x hS.1) (am_eq_sI (by omega)) ⟨⟨w1, by rw [List.length_set]; exact w2, w3⟩, fun t ht => ?_, fun k hk => ?_, c, ?_, ?_⟩
  · show hi_ (am_sI h (102 + 4 * d) s (b2i B)) (101 + 4 * d) t = _
    rw [hi_sI, if_neg (fun q => by omega)]
    exact a t ht
  · unfold xC
    rw [hi_sI]
    show _ = ((z_gD σ d).1.2.set s B).getD k false
    rw [z_gset _ _ _ _ _ (by rw [w2]; exact hs)]
    by_cases z : k = s
    · rw [if_pos ⟨rfl, z⟩, if_pos z]
      cases B <;> rfl
    · rw [if_neg (fun q => z q.2), if_neg z]
      exact b k hk
  · rw [hi_sI, if_neg (fun q => by omega)]; exact f
  · rw [hi_sI, if_neg (fun q => by omega)]; exact g
theorem SZ_uR {h : am_H} {σ : z_Sg} {d k : Nat} {B : Bool} (hS : SZ h σ) (hd : d < z_n σ) (hk : k < z_n σ) : SZ (am_sR h (103 + 4 * d) k (if B = true then 100 + 4 * k else 0)) (z_uR σ d k B) := by
  have n6 := (SZ_6 hS).1
  obtain ⟨⟨w1, w2, w3⟩, a, b, c, f, g⟩ := hS.2.1 d hd
  refine SZ_uD hS hd (CI_r (by omega) hd (by cases B; exact Or.inl rfl; exact Or.inr ⟨hk, rfl⟩) hS.1) (am_eq_sR (by omega)) ⟨⟨w1, w2, by rw [List.length_set]; exact w3⟩, a, b, fun j hj => ?_, f, g⟩
  unfold rC
  rw [hr_sR]
  show _ = ((z_gD σ d).2.1.set k B).getD j false
  rw [z_gset _ _ _ _ _ (by rw [w3]; omega)]
  by_cases z : j = k
  · rw [if_pos ⟨rfl, z⟩, if_pos z]
    cases B
    · rfl
    · rw [if_pos rfl]
      exact decide_eq_true (by omega)
  · rw [if_neg (fun q => z q.2), if_neg z]
    exact c j hj
theorem SZ_uL {h : am_H} {σ : z_Sg} {d : Nat} {P : Int32} (hS : SZ h σ) (hd : d < z_n σ) : SZ (am_sI h (100 + 4 * d) 3 P) (z_uL σ d P) := by
  obtain ⟨w, a, b, c, f, g⟩ := hS.2.1 d hd
  refine SZ_uD hS hd (CI_sI (by omega) (fun d _ => by omega) hS.1) (am_eq_sI (by omega)) ⟨w, fun t ht => ?_, fun k hk => ?_, c, ?_, ?_⟩
  · show hi_ (am_sI h (100 + 4 * d) 3 P) (101 + 4 * d) t = _
    rw [hi_sI, if_neg (fun q => by omega)]
    exact a t ht
  · unfold xC
    rw [hi_sI, if_neg (fun q => by omega)]
    exact b k hk
  · rw [hi_sI, if_pos ⟨rfl, rfl⟩]
  · rw [hi_sI, if_neg (fun q => by omega)]; exact g
theorem SZ_uB {h : am_H} {σ : z_Sg} {d : Nat} {P : Int32} (hS : SZ h σ) (hd : d < z_n σ) : SZ (am_sI h (100 + 4 * d) 4 P) (z_uB σ d P) := by
  obtain ⟨w, a, b, c, f, g⟩ := hS.2.1 d hd
  refine SZ_uD hS hd (CI_sI (by omega) (fun d _ => by omega) hS.1) (am_eq_sI (by omega)) ⟨w, fun t ht => ?_, fun k hk => ?_, c, ?_, ?_⟩
  · show hi_ (am_sI h (100 + 4 * d) 4 P) (101 + 4 * d) t = _
    rw [hi_sI, if_neg (fun q => by omega)]
    exact a t ht
  · unfold xC
    rw [hi_sI, if_neg (fun q => by omega)]
    exact b k hk
  · rw [hi_sI, if_neg (fun q => by omega)]; exact f
  · rw [hi_sI, if_pos ⟨rfl, rfl⟩]
theorem SZ_begin {h h' : am_H} {σ : z_Sg} (hS : SZ h σ) (e : am_eq (SB (z_n σ)) h h') (hc : CI h' (z_n σ + 1) (z_np σ) (z_nq σ)) (hn : ND h' (z_n σ)) : SZ h' (z_begin σ) := by
  have n6 : z_n σ + 1 ≤ 6 := hc.2.1.1
  have hs : ∀ r, SB (z_n σ) r → r = 4 ∨ 1400 ≤ r ∨ (100 + 4 * z_n σ ≤ r ∧ r < 104 + 4 * z_n σ) := fun r z => by
    rcases z with z | z
    · have := SL_lo (by decide) (by decide) z
      omega
    · omega
  have hp := (SZ_6 hS).2
  have el : z_n (z_begin σ) = z_n σ + 1 := by
    show (σ.1 ++ [z_fresh]).length = _
    rw [List.length_append]
    rfl
  refine ⟨by rw [el]; exact hc, fun d hd => ?_, fun i hi => ?_, fun i hi => ?_⟩
  · rw [el] at hd
    have eg : z_gD (z_begin σ) d = if d = z_n σ then z_fresh else z_gD σ d := z_gapp _ _ _ _ hd
    rw [eg]
    by_cases z : d = z_n σ
    · rw [if_pos z, z]
      obtain ⟨a, b, c, f, g⟩ := hn
      refine ⟨⟨rfl, rfl, rfl⟩, fun s hs => (a s hs).trans ?_, fun k hk => (b k hk).trans ?_, fun k hk => (c k).trans ?_, f, g⟩
      · show _ = z_cd ((List.replicate 40 0).getD s 0)
        rw [List.getD_eq_getElem?_getD, List.getElem?_replicate, if_pos hs]
        rfl
      · show _ = (List.replicate 25 false).getD k false
        rw [List.getD_eq_getElem?_getD, List.getElem?_replicate, if_pos hk]
        rfl
      · show _ = (List.replicate 6 false).getD k false
        rw [List.getD_eq_getElem?_getD, List.getElem?_replicate, if_pos hk]
        rfl
    · rw [if_neg z]
      have hd' : d < z_n σ := by omega
      exact z_SD_e (fun q => by have := hs _ q; omega) (fun q => by have := hs _ q; omega) (fun q => by have := hs _ q; omega) (fun q => by have := hs _ q; omega) e (hS.2.1 d hd')
  · have hi' : i < z_np σ := hi
    exact z_SP_e (fun q => by have := hs _ q; omega) (fun q => by have := hs _ q; omega) (fun q => by have := hs _ q; omega) e (hS.2.2.1 i hi)
  · have hi' : i < z_nq σ := hi
    exact z_SQ_e (fun q => by have := hs _ q; omega) (fun q => by have := hs _ q; omega) (fun q => by have := hs _ q; omega) e (hS.2.2.2 i hi)
theorem SZ_grant {h h' : am_H} {σ : z_Sg} {d : Nat} (hS : SZ h σ) (hd : d < z_n σ) (e : am_eq (SG (z_np σ)) h h') (hc : CI h' (z_n σ) (z_np σ + 1) (z_nq σ)) (h0 : pdH h' (z_np σ) = d) (h1 : ∀ s, s < 40 → hi_ h' (202 + 4 * z_np σ) s = sdH h d s) (h2 : ∀ k, k < 25 → hi_ h' (203 + 4 * z_np σ) k = b2i (exH h d k)) : SZ h' (z_grant σ d) := by
  have n6 := (SZ_6 hS).1
  have np : z_np σ + 1 ≤ 20 := hc.2.1.2.1
  have hs : ∀ r, SG (z_np σ) r → r = 5 ∨ 1400 ≤ r ∨ (9 ≤ r ∧ r ≤ 13) ∨ (200 + 4 * z_np σ ≤ r ∧ r < 204 + 4 * z_np σ) := fun r z => by
    rcases z with z | z | z
    · exact Or.inr (Or.inr (Or.inl z))
    · have := SL_lo (by decide) (by decide) z
      omega
    · omega
  have hq := (SZ_6 hS).2.2
  have el : z_np (z_grant σ d) = z_np σ + 1 := by
    show (σ.2.1 ++ [_]).length = _
    rw [List.length_append]
    rfl
  refine ⟨by rw [el]; exact hc, fun f hf => ?_, fun i hi => ?_, fun i hi => ?_⟩
  · have hf' : f < z_n σ := hf
    exact z_SD_e (fun q => by have := hs _ q; omega) (fun q => by have := hs _ q; omega) (fun q => by have := hs _ q; omega) (fun q => by have := hs _ q; omega) e (hS.2.1 f hf)
  · rw [el] at hi
    have eg : z_gP (z_grant σ d) i = if i = z_np σ then (d, z_sl σ d, z_xl σ d) else z_gP σ i := z_gapp _ _ _ _ hi
    rw [eg]
    by_cases z : i = z_np σ
    · rw [if_pos z, z]
      refine ⟨h0, fun s hs => ?_, fun k hk => ?_⟩
      · rw [h1 s hs, SZ_sd hS hd hs, z_sl_at σ d hs]
      · rw [h2 k hk, SZ_ex hS hd hk, z_xl_at σ d hk]
    · rw [if_neg z]
      have hi' : i < z_np σ := by omega
      exact z_SP_e (fun q => by have := hs _ q; omega) (fun q => by have := hs _ q; omega) (fun q => by have := hs _ q; omega) e (hS.2.2.1 i hi')
  · have hi' : i < z_nq σ := hi
    exact z_SQ_e (fun q => by have := hs _ q; omega) (fun q => by have := hs _ q; omega) (fun q => by have := hs _ q; omega) e (hS.2.2.2 i hi)
theorem SZ_print {h h' : am_H} {σ : z_Sg} {d : Nat} (hS : SZ h σ) (hd : d < z_n σ) (e : am_eq (SP (z_nq σ)) h h') (hc : CI h' (z_n σ) (z_np σ) (z_nq σ + 1)) (h0 : qdH h' (z_nq σ) = d) (h1 : ∀ s, s < 40 → hi_ h' (302 + 4 * z_nq σ) s = sdH h d s) (h2 : ∀ k, k < 25 → hi_ h' (303 + 4 * z_nq σ) k = b2i (exH h d k)) : SZ h' (z_print σ d (hi_ h' (300 + 4 * z_nq σ) 2)) := by
  have n6 := (SZ_6 hS).1
  have np := (SZ_6 hS).2.1
  have hs : ∀ r, SP (z_nq σ) r → r = 6 ∨ 1400 ≤ r ∨ (300 + 4 * z_nq σ ≤ r ∧ r < 304 + 4 * z_nq σ) := fun r z => by
    rcases z with z | z
    · have := SL_lo (by decide) (by decide) z
      omega
    · omega
  have hq : z_nq σ + 1 ≤ 30 := hc.2.1.2.2
  have el : z_nq (z_print σ d (hi_ h' (300 + 4 * z_nq σ) 2)) = z_nq σ + 1 := by
    show (σ.2.2 ++ [_]).length = _
    rw [List.length_append]
    rfl
  refine ⟨by rw [el]; exact hc, fun f hf => ?_, fun i hi => ?_, fun i hi => ?_⟩
  · have hf' : f < z_n σ := hf
    exact z_SD_e (fun q => by have := hs _ q; omega) (fun q => by have := hs _ q; omega) (fun q => by have := hs _ q; omega) (fun q => by have := hs _ q; omega) e (hS.2.1 f hf)
  · have hi' : i < z_np σ := hi
    exact z_SP_e (fun q => by have := hs _ q; omega) (fun q => by have := hs _ q; omega) (fun q => by have := hs _ q; omega) e (hS.2.2.1 i hi)
  · rw [el] at hi
    have eg : z_gQ (z_print σ d (hi_ h' (300 + 4 * z_nq σ) 2)) i = if i = z_nq σ then (d, z_sl σ d, z_xl σ d, hi_ h' (300 + 4 * z_nq σ) 2) else z_gQ σ i := z_gapp _ _ _ _ hi
    rw [eg]
    by_cases z : i = z_nq σ
    · rw [if_pos z, z]
      refine ⟨h0, fun s hs => ?_, fun k hk => ?_, rfl⟩
      · rw [h1 s hs, SZ_sd hS hd hs, z_sl_at σ d hs]
      · rw [h2 k hk, SZ_ex hS hd hk, z_xl_at σ d hk]
    · rw [if_neg z]
      have hi' : i < z_nq σ := by omega
      exact z_SQ_e (fun q => by have := hs _ q; omega) (fun q => by have := hs _ q; omega) (fun q => by have := hs _ q; omega) e (hS.2.2.2 i hi')
