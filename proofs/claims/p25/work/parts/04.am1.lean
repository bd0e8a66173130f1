/-! ===== an abstract machine over the kit's rows: objects are roles (numbers), their contents are functions ===== -/
def am_TG : List Cond := lw_tbl.filter goodWord
theorem am_good : ∀ w ∈ am_TG, goodWord w = true := fun w h => (List.mem_filter.mp h).2
theorem am_inTG {w : Cond} (h : w ∈ lw_tbl) (g : goodWord w = true) : w ∈ am_TG := List.mem_filter.mpr ⟨h, g⟩
def am_isB : Cond → Bool
  | .methodLinkNest .. | .fieldLinkNest .. | .castable .. | .declares .. | .arrayOver (.object _) => true
  | _ => false
def am_bw : List Cond := lw_tbl.filter am_isB
theorem am_inB {w : Cond} (h : w ∈ lw_tbl) (g : am_isB w = true) : w ∈ am_bw := List.mem_filter.mpr ⟨h, g⟩
/-- kinds, lengths, ints, references, longs, by role and place -/
abbrev am_H : Type := (Nat → Nat) × (Nat → Nat) × (Nat → Nat → Int32) × (Nat → Nat → Nat) × (Nat → Nat → Int64)
def hk_ (h : am_H) (r : Nat) : Nat := h.1 r
def hn_ (h : am_H) (r : Nat) : Nat := h.2.1 r
def hi_ (h : am_H) (r k : Nat) : Int32 := h.2.2.1 r k
def hr_ (h : am_H) (r k : Nat) : Nat := h.2.2.2.1 r k
def hl_ (h : am_H) (r k : Nat) : Int64 := h.2.2.2.2 r k
def am_u2 {α : Type} (f : Nat → Nat → α) (r k : Nat) (x : α) : Nat → Nat → α := fun a b => if a = r ∧ b = k then x else f a b
def am_u1 {α : Type} (f : Nat → α) (r : Nat) (x : α) : Nat → α := fun a => if a = r then x else f a
def am_sI (h : am_H) (r k : Nat) (x : Int32) : am_H := (h.1, h.2.1, am_u2 h.2.2.1 r k x, h.2.2.2.1, h.2.2.2.2)
def am_sR (h : am_H) (r k : Nat) (x : Nat) : am_H := (h.1, h.2.1, h.2.2.1, am_u2 h.2.2.2.1 r k x, h.2.2.2.2)
def am_sL (h : am_H) (r k : Nat) (x : Int64) : am_H := (h.1, h.2.1, h.2.2.1, h.2.2.2.1, am_u2 h.2.2.2.2 r k x)
/-- a fresh thing of kind k and length n, all its places 0 and null -/
def am_new (h : am_H) (r k n : Nat) : am_H := (am_u1 h.1 r k, am_u1 h.2.1 r n, am_u1 h.2.2.1 r (fun _ => 0), am_u1 h.2.2.2.1 r (fun _ => 0), am_u1 h.2.2.2.2 r (fun _ => 0))
theorem hk_sI (h : am_H) (r k : Nat) (x : Int32) (a : Nat) : hk_ (am_sI h r k x) a = hk_ h a := rfl
theorem hk_sR (h : am_H) (r k : Nat) (x : Nat) (a : Nat) : hk_ (am_sR h r k x) a = hk_ h a := rfl
theorem hk_sL (h : am_H) (r k : Nat) (x : Int64) (a : Nat) : hk_ (am_sL h r k x) a = hk_ h a := rfl
theorem hn_sI (h : am_H) (r k : Nat) (x : Int32) (a : Nat) : hn_ (am_sI h r k x) a = hn_ h a := rfl
theorem hn_sR (h : am_H) (r k : Nat) (x : Nat) (a : Nat) : hn_ (am_sR h r k x) a = hn_ h a := rfl
theorem hn_sL (h : am_H) (r k : Nat) (x : Int64) (a : Nat) : hn_ (am_sL h r k x) a = hn_ h a := rfl
theorem hi_sI (h : am_H) (r k : Nat) (x : Int32) (a b : Nat) : hi_ (am_sI h r k x) a b = if a = r ∧ b = k then x else hi_ h a b := rfl
theorem hi_sR (h : am_H) (r k : Nat) (x : Nat) (a b : Nat) : hi_ (am_sR h r k x) a b = hi_ h a b := rfl
theorem hi_sL (h : am_H) (r k : Nat) (x : Int64) (a b : Nat) : hi_ (am_sL h r k x) a b = hi_ h a b := rfl
theorem hr_sI (h : am_H) (r k : Nat) (x : Int32) (a b : Nat) : hr_ (am_sI h r k x) a b = hr_ h a b := rfl
theorem hr_sR (h : am_H) (r k : Nat) (x : Nat) (a b : Nat) : hr_ (am_sR h r k x) a b = if a = r ∧ b = k then x else hr_ h a b := rfl
theorem hr_sL (h : am_H) (r k : Nat) (x : Int64) (a b : Nat) : hr_ (am_sL h r k x) a b = hr_ h a b := rfl
theorem hl_sI (h : am_H) (r k : Nat) (x : Int32) (a b : Nat) : hl_ (am_sI h r k x) a b = hl_ h a b := rfl
theorem hl_sR (h : am_H) (r k : Nat) (x : Nat) (a b : Nat) : hl_ (am_sR h r k x) a b = hl_ h a b := rfl
theorem hl_sL (h : am_H) (r k : Nat) (x : Int64) (a b : Nat) : hl_ (am_sL h r k x) a b = if a = r ∧ b = k then x else hl_ h a b := rfl
theorem hk_new (h : am_H) (r k n a : Nat) : hk_ (am_new h r k n) a = if a = r then k else hk_ h a := rfl
theorem hn_new (h : am_H) (r k n a : Nat) : hn_ (am_new h r k n) a = if a = r then n else hn_ h a := rfl
theorem hi_new (h : am_H) (r k n a b : Nat) : hi_ (am_new h r k n) a b = if a = r then 0 else hi_ h a b := by
  show am_u1 h.2.2.1 r (fun _ => 0) a b = _
  unfold am_u1
  split <;> rfl
theorem hr_new (h : am_H) (r k n a b : Nat) : hr_ (am_new h r k n) a b = if a = r then 0 else hr_ h a b := by
  show am_u1 h.2.2.2.1 r (fun _ => 0) a b = _
  unfold am_u1
  split <;> rfl
theorem hl_new (h : am_H) (r k n a b : Nat) : hl_ (am_new h r k n) a b = if a = r then 0 else hl_ h a b := by
  show am_u1 h.2.2.2.2 r (fun _ => 0) a b = _
  unfold am_u1
  split <;> rfl
/-- an abstract value's concrete one: references are roles, 0 is null -/
def am_rv (ad : Nat → Nat) (r : Nat) : Value := if r = 0 then .null else .ref (ad r)
def am_cv (ad : Nat → Nat) : Value → Value
  | .ref r => am_rv ad r
  | v => v
def am_V (h : am_H) : Value → Prop
  | .ref r => r = 0 ∨ hk_ h r ≠ 0
  | _ => True
def am_Vs (h : am_H) (vs : List Value) : Prop := ∀ v ∈ vs, am_V h v
theorem am_Vc {h : am_H} {v : Value} {vs : List Value} (a : am_V h v) (b : am_Vs h vs) : am_Vs h (v :: vs) := fun w hw => (List.mem_cons.mp hw).elim (fun e => by rw [e]; exact a) (b w)
theorem am_Vh {h : am_H} {v : Value} {vs : List Value} (b : am_Vs h (v :: vs)) : am_V h v := b v List.mem_cons_self
theorem am_Vt {h : am_H} {v : Value} {vs : List Value} (b : am_Vs h (v :: vs)) : am_Vs h vs := fun w hw => b w (List.mem_cons_of_mem _ hw)
def am_s1 : Value → Bool
  | .int _ | .ref _ => true
  | _ => false
def am_ll (ad : Nat → Nat) : Nat → List Value → List (Nat × Value)
  | _, [] => []
  | i, v :: vs => if am_s1 v then (i, am_cv ad v) :: am_ll ad (i + 1) vs else am_ll ad (i + 1) vs
theorem am_ll_mem (ad : Nat → Nat) : ∀ (vs : List Value) (i : Nat) (q : Nat × Value), q ∈ am_ll ad i vs ↔ ∃ (k : Nat) (v : Value), vs[k]? = some v ∧ am_s1 v = true ∧ q = (i + k, am_cv ad v)
  | [], i, q => by simp [am_ll]
  | v :: vs, i, q => by
    have ih := am_ll_mem ad vs (i + 1) q
    unfold am_ll
    constructor
    · intro h
      by_cases hv : am_s1 v = true
      · rw [if_pos hv] at h
        rcases List.mem_cons.mp h with h | h
        · exact ⟨0, v, rfl, hv, h⟩
        · obtain ⟨k, w, h1, h2, h3⟩ := ih.mp h
          exact ⟨k + 1, w, by simpa using h1, h2, by rw [h3]; congr 1; omega⟩
      · rw [if_neg hv] at h
        obtain ⟨k, w, h1, h2, h3⟩ := ih.mp h
        exact ⟨k + 1, w, by simpa using h1, h2, by rw [h3]; congr 1; omega⟩
    · rintro ⟨k, w, h1, h2, h3⟩
      cases k with
      | zero =>
        simp at h1
        subst h1
        rw [if_pos h2, h3]
        exact List.mem_cons_self
      | succ k =>
        have : q ∈ am_ll ad (i + 1) vs := ih.mpr ⟨k, w, by simpa using h1, h2, by rw [h3]; congr 1; omega⟩
        split
        · exact List.mem_cons_of_mem _ this
        · exact this
def am_L (ad : Nat → Nat) (n : Nat) (ls : List Value) (lc : Array Slot) : Prop := lv_has lc n (am_ll ad 0 ls)
theorem am_L_at {ad : Nat → Nat} {n : Nat} {ls : List Value} {lc : Array Slot} (h : am_L ad n ls lc) {i : Nat} {v : Value} (hv : ls[i]? = some v) (h1 : am_s1 v = true) : lc[i]? = some (.val (am_cv ad v)) :=
  h.2.2 (i, am_cv ad v) ((am_ll_mem ad ls 0 _).mpr ⟨i, v, hv, h1, by rw [Nat.zero_add]⟩)
theorem am_cat (ad : Nat → Nat) {v : Value} (h : am_s1 v = true) : (am_cv ad v).category = 1 := by
  cases v with
  | int x => rfl
  | ref r =>
    show (am_rv ad r).category = 1
    unfold am_rv
    split <;> rfl
  | _ => cases h
theorem am_L_to {ad : Nat → Nat} {n : Nat} {ls : List Value} {lc : Array Slot} {l : List (Nat × Value)} (h : lv_has lc n l) (hs : ∀ (i : Nat) (v : Value), ls[i]? = some v → am_s1 v = true → (i, am_cv ad v) ∈ l) : am_L ad n ls lc := by
  refine ⟨h.1, h.2.1, fun q hq => ?_⟩
  obtain ⟨k, v, h1, h2, h3⟩ := (am_ll_mem ad ls 0 q).mp hq
  rw [h3, Nat.zero_add]
  exact h.2.2 _ (hs k v h1 h2)
theorem am_L_set {ad : Nat → Nat} {n : Nat} {ls : List Value} {lc' : Array Slot} {i : Nat} {v : Value} (h' : lv_has lc' n ((i, am_cv ad v) :: (am_ll ad 0 ls).filter (fun q => !(q.1 == i) && !(q.1 + 1 == i && q.2.category == 2)))) : am_L ad n (ls.set i v) lc' := by
  refine am_L_to h' (fun j w hw h1 => ?_)
  by_cases hj : i = j
  · subst hj
    rw [List.getElem?_set] at hw
    simp only [if_true] at hw
    split at hw
    · cases hw
      exact List.mem_cons_self
    · cases hw
  · rw [List.getElem?_set_ne hj] at hw
    refine List.mem_cons_of_mem _ (List.mem_filter.mpr ⟨(am_ll_mem ad ls 0 _).mpr ⟨j, w, hw, h1, by rw [Nat.zero_add]⟩, ?_⟩)
    have hc := am_cat ad h1
    have h2 : (j == i) = false := by simpa using Ne.symm hj
    simp [h2, hc]
theorem am_Vset {h : am_H} {ls : List Value} {i : Nat} {v : Value} (hl : am_Vs h ls) (hv : am_V h v) : am_Vs h (ls.set i v) := by
  intro w hw
  rcases List.mem_or_eq_of_mem_set hw with h1 | h1
  · exact hl w h1
  · rw [h1]; exact hv
/-- addresses change, where the roles that occur don't -/
theorem am_cv_eq {h : am_H} {ad ad' : Nat → Nat} (he : ∀ r, hk_ h r ≠ 0 → ad' r = ad r) {v : Value} (hv : am_V h v) : am_cv ad' v = am_cv ad v := by
  cases v with
  | ref r =>
    show am_rv ad' r = am_rv ad r
    unfold am_rv
    rcases hv with hv | hv
    · rw [if_pos hv, if_pos hv]
    · rw [he r hv]
  | _ => rfl
theorem am_L_ad {h : am_H} {ad ad' : Nat → Nat} (he : ∀ r, hk_ h r ≠ 0 → ad' r = ad r) {n : Nat} {ls : List Value} {lc : Array Slot} (hL : am_L ad n ls lc) (hv : am_Vs h ls) : am_L ad' n ls lc := by
  refine am_L_to hL (fun i v h1 h2 => ?_)
  rw [am_cv_eq he (hv v (List.mem_of_getElem? h1))]
  exact (am_ll_mem ad ls 0 _).mpr ⟨i, v, h1, h2, by rw [Nat.zero_add]⟩
theorem am_map_ad {h : am_H} {ad ad' : Nat → Nat} (he : ∀ r, hk_ h r ≠ 0 → ad' r = ad r) : ∀ {vs : List Value}, am_Vs h vs → vs.map (am_cv ad') = vs.map (am_cv ad)
  | [], _ => rfl
  | v :: vs, hv => by
    rw [List.map_cons, List.map_cons, am_cv_eq he (am_Vh hv), am_map_ad he (am_Vt hv)]
theorem am_V_le {h h' : am_H} (hle : ∀ r, hk_ h r ≠ 0 → hk_ h' r = hk_ h r) {v : Value} (hv : am_V h v) : am_V h' v := by
  cases v with
  | ref r =>
    rcases hv with hv | hv
    · exact Or.inl hv
    · exact Or.inr (by rw [hle r hv]; exact hv)
  | _ => trivial
theorem am_Vs_le {h h' : am_H} (hle : ∀ r, hk_ h r ≠ 0 → hk_ h' r = hk_ h r) {vs : List Value} (hv : am_Vs h vs) : am_Vs h' vs := fun v hm => am_V_le hle (hv v hm)
/-! classes -/
abbrev am_cl : List vw_C := [(RJx4a65c, TJx4a65c, 3), (RX0, TX0, 5), (RX1, TX1, 4), (RX2, TX2, 2), (RX3, TX3, 3), (RX4, TX4, 2), (RX5, TX5, 4)]
/-- is a class's field an int: kinds 1 to 8 are the classes of am_cl -/
def am_fi (k j : Nat) : Bool := match k with
  | 1 => !(j == 1)
  | 2 => decide (3 ≤ j)
  | 5 => j == 2
  | 8 => j == 0 || j == 10 || j == 14 || j == 19
  | 9 => true
  | 10 => true
  | _ => false
def am_ty (ci : Nat) : Nat → FieldType := match ci with
  | 0 => tyJx4a65c
  | 1 => tyX0
  | 2 => tyX1
  | 3 => tyX2
  | 4 => tyX3
  | 5 => tyX4
  | _ => tyX5
/-- what lies at a place -/
def am_F (h : am_H) (ad : Nat → Nat) (r j : Nat) : Value := if hk_ h r = 13 then .long (hl_ h r j) else if am_fi (hk_ h r) j = true then .int (hi_ h r j) else am_rv ad (hr_ h r j)
/-- where what lies: the classes' numbers and slots, the array classes, the line below which nothing changes, the empty table, the class object -/
abbrev am_G : Type := va_G × (Nat → ClassId) × Nat × Nat × Nat
def am_atk (G : am_G) (k n : Nat) (F : Nat → Value) (a : Addr) (H : Heap) : Prop :=
  (k = 14 ∨ k = 15) ∨ (9 ≤ k ∧ k ≤ 13 ∧ H[a]? = some (arrV (G.2.1 (k - 9)) n F)) ∨ (k ≤ 8 ∧ ∃ q : vw_C, am_cl[k - 1]? = some q ∧ t_OB a (G.1.1 (k - 1)) q.2.2 (G.1.2 (k - 1)) H F)
theorem am_atk_kept {G : am_G} {k n : Nat} {F : Nat → Value} {a : Addr} {H H' : Heap} (h : am_atk G k n F a H) (oq : H'[a]? = H[a]?) : am_atk G k n F a H' := by
  rcases h with h | ⟨h1, h2, h3⟩ | ⟨h1, q, h2, h3⟩
  · exact Or.inl h
  · exact Or.inr (Or.inl ⟨h1, h2, oq.trans h3⟩)
  · exact Or.inr (Or.inr ⟨h1, q, h2, h3.kept oq⟩)
def am_at (G : am_G) (h : am_H) (ad : Nat → Nat) (r : Nat) (H : Heap) : Prop := am_atk G (hk_ h r) (hn_ h r) (am_F h ad r) (ad r) H
def am_A (G : am_G) (h : am_H) (ad : Nat → Nat) (H : Heap) : Prop :=
  (hk_ h 0 = 0 ∧ hk_ h 1 = 14 ∧ hk_ h 2 = 15 ∧ hn_ h 1 = 0 ∧ ad 1 = G.2.2.2.1 ∧ ad 2 = G.2.2.2.2) ∧
  (∀ r, hk_ h r ≠ 0 → am_at G h ad r H) ∧
  (∀ r, hk_ h r ≠ 0 → r = 1 ∨ r = 2 ∨ (G.2.2.1 ≤ ad r ∧ ad r < H.size ∧ hk_ h r < 14) ∨ (hk_ h r = 14 ∧ ad r < G.2.2.1)) ∧
  (∀ r q, hk_ h r ≠ 0 → hk_ h q ≠ 0 → r ≠ 2 → q ≠ 2 → ad r = ad q → r = q) ∧
  (∀ r k, hk_ h r ≠ 0 → hr_ h r k = 0 ∨ hk_ h (hr_ h r k) ≠ 0)
def am_le (h h' : am_H) : Prop := ∀ r, hk_ h r ≠ 0 → hk_ h' r = hk_ h r ∧ hn_ h' r = hn_ h r
def am_X (h : am_H) (ad : Nat → Nat) (h' : am_H) (ad' : Nat → Nat) : Prop := am_le h h' ∧ ∀ r, hk_ h r ≠ 0 → ad' r = ad r
theorem am_le_rf (h : am_H) : am_le h h := fun _ _ => ⟨rfl, rfl⟩
theorem am_le_tr {a b c : am_H} (h1 : am_le a b) (h2 : am_le b c) : am_le a c := fun r hr => by
  obtain ⟨e1, e2⟩ := h1 r hr
  obtain ⟨e3, e4⟩ := h2 r (by rw [e1]; exact hr)
  exact ⟨e3.trans e1, e4.trans e2⟩
theorem am_X_tr {a b c : am_H} {x y z : Nat → Nat} (h1 : am_X a x b y) (h2 : am_X b y c z) : am_X a x c z := ⟨am_le_tr h1.1 h2.1, fun r hr => (h2.2 r (by rw [(h1.1 r hr).1]; exact hr)).trans (h1.2 r hr)⟩
theorem am_X_rf (a : am_H) (x : Nat → Nat) : am_X a x a x := ⟨am_le_rf a, fun _ _ => rfl⟩
/-- the array classes -/
abbrev am_tys (G : am_G) : List (ClassId × FieldType) := [(G.2.1 0, .int), (G.2.1 1, .boolean), (G.2.1 2, .object "HousePlans$Drawing"), (G.2.1 3, .object "java/lang/Object")]
def am_nc : List (String × String) := [("java/lang/IllegalArgumentException", "java/lang/IndexOutOfBoundsException"), ("java/lang/IllegalStateException", "java/lang/IndexOutOfBoundsException"), ("java/lang/IllegalStateException", "java/lang/IllegalArgumentException")]
abbrev am_lo (G : am_G) : Nat → Prop := fun q => G.2.2.1 ≤ q
/-- what stands around every method: the tables' words that aren't in its own list, the classes, the statics -/
def am_E (G : am_G) (s : State) : Prop :=
  (∀ w ∈ am_bw, va_Nw w s) ∧ ((∀ q : String × Nat × String, Cond.stringRef q.1 q.2.1 q.2.2 ∈ lw_tbl → ∃ a, vk_R q.1 q.2.1 q.2.2 a s) ∧ ∀ q ∈ am_nc, va_Nc q.1 q.2 s) ∧ va_K G.1 am_cl (am_tys G) s ∧
  vx_Zq Bundle.tN "UNASSIGNED_STACK" Bundle.steD (am_lo G) s s.heap ∧ vx_Zq Bundle.tN "SUPPRESSED_SENTINEL" Bundle.listD (am_lo G) s s.heap ∧
  va_Z "java/util/ArrayList" "DEFAULTCAPACITY_EMPTY_ELEMENTDATA" "[Ljava/lang/Object;" (.ref G.2.2.2.1) (am_lo G) s s.heap ∧ (∃ f, va_T (.object "java/lang/Object") G.2.2.2.1 0 f (am_lo G) s s.heap) ∧ va_Mi "[Ljava/lang/Object;" G.2.2.2.2 s ∧ G.2.2.1 ≤ s.heap.size
theorem am_bw_warm {w : Cond} (hw : w ∈ am_bw) {s U : State} (hW : s.WarmedH U.vm) (h : va_Nw w s) : va_Nw w U := by
  have hb := (List.mem_filter.mp hw).2
  cases w with
  | methodLinkNest a i x h' => exact va_Nw.warmM hW h
  | fieldLinkNest a i b n d h' => exact va_Nw.warmF hW h
  | castable a b => exact va_Nw.warmC hW h
  | declares x => exact va_tabs rfl (rfl : (s.setVm U.vm).vm = U.vm) (by rw [Cond.declares_setVm hW.alike]; exact h)
  | arrayOver t => cases t with
    | object C => exact va_AO.moved hW.alike h
    | _ => cases hb
  | _ => cases hb
theorem am_E_moved {G : am_G} {s U : State} (hW : s.WarmedH U.vm) (hz : s.heap.size ≤ U.heap.size) (hq : ∀ a : Nat, a < s.heap.size → ¬ am_lo G a → U.heap[a]? = s.heap[a]?) (h : am_E G s) : am_E G U := by
  obtain ⟨h1, ⟨h2, h2'⟩, h3, h4, h5, h6, ⟨f, h7⟩, h8, h9⟩ := h
  exact ⟨fun w hw => am_bw_warm hw hW (h1 w hw), ⟨fun q hq => by
    obtain ⟨a, ha⟩ := h2 q hq
    exact ⟨a, vk_R.warm hW ha⟩, fun q hq => va_Nc.moved hW.alike (h2' q hq)⟩, va_K.moved hW.alike h3, (vx_Zq.moved hW.alike h4).kept hq, (vx_Zq.moved hW.alike h5).kept hq, (va_Z.moved hW.alike h6).kept hq, ⟨f, (va_T.moved hW.alike h7).kept hq⟩, va_Mi.moved hW.alike h8, Nat.le_trans h9 hz⟩
abbrev am_Z : Type := am_G × Program × Launch × Env × Room × State × MethodId × Array Value × List Frame × Method × Code × am_H × (Nat → Nat) × Nat × (State → Prop)
/-- the machine, at pc with these locals and this stack over this heap, comes to its end -/
def am_W (Z : am_Z) (kc ks pc : Nat) (ls st : List Value) (h : am_H) : Prop := match Z with
  | (G, p, l, e, R, s, m, args, below, meth, c, h0, ad0, n, Q) => ∀ (ad : Nat → Nat) (H : Heap) (locs : List Loc) (lc : Array Slot), am_A G h ad H → va_S (am_lo G) s.heap H locs → am_X h0 ad0 h ad → am_L ad n ls lc → am_Vs h ls → am_Vs h st →
    W p l e R s m args below meth c H locs kc ks Q (F0 m pc lc (st.map (am_cv ad)))
/-- an exception of class E flies at pc -/
def am_WX (Z : am_Z) (kc ks pc : Nat) (ls st : List Value) (h : am_H) (E : String) : Prop := match Z with
  | (G, p, l, e, R, s, m, args, below, meth, c, h0, ad0, n, Q) => ∀ (ad : Nat → Nat) (H : Heap) (locs : List Loc) (lc : Array Slot) (q : Addr) (ce : Cell), am_A G h ad H → va_S (am_lo G) s.heap H locs → am_X h0 ad0 h ad → am_L ad n ls lc → am_Vs h ls → am_Vs h st →
    H[q]? = some ce → ce.vm = .none → s.vm.findClass E = some ce.cls → vx_W p l e R s m args below meth c H locs kc ks Q (F0 m pc lc (st.map (am_cv ad))) q
def am_OK (Z : am_Z) (own : String) (cc : ByteArray) (n L mc ms : Nat) : Prop := match Z with
  | (G, p, l, _, R, s, m, args, _, meth, c, _, _, n', _) => n' = n ∧ CallFix p m c cc n s args am_TG own ∧ meth.locks = false ∧ am_E G s ∧ l.stackTraces = false ∧ L ≤ R.frames ∧ 100 * L ≤ R.locals ∧ mc ≤ R.cells ∧ ms ≤ R.slots
