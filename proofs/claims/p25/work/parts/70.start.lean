/-! ===== the surroundings, at the start ===== -/
def st_L : List (String × Nat) := [("HousePlans", 35), ("HousePlans", 178), ("HousePlans", 186), ("HousePlans", 188), ("HousePlans", 60), ("HousePlans", 192), ("HousePlans", 190), ("HousePlans", 180), ("HousePlans", 119), ("HousePlans", 82), ("HousePlans", 129), ("HousePlans", 194), ("HousePlans", 134), ("HousePlans", 140), ("HousePlans", 148), ("HousePlans", 158), ("HousePlans", 127)]
def st_ok : Cond → Bool
  | .stringRef a i _ => decide ((a, i) ∈ st_L)
  | _ => true
theorem st_all : lw_tbl.all st_ok = true := by decide +kernel
theorem st_in {w : Cond} {i : Nat} (h : tables_1[i]? = some w) : w ∈ lw_tbl := List.mem_append_right _ (List.mem_of_getElem? h)
def st_C : Cond := Jvm.Cond.and given_1 narrow_1
theorem st_str : ∀ q ∈ st_L, Cond.exactly (.string q.1 q.2) "java/lang/String" ∈ flatC st_C := by decide +kernel
theorem st_ex : Cond.exactly (.static "java/util/ArrayList" "DEFAULTCAPACITY_EMPTY_ELEMENTDATA" "[Ljava/lang/Object;") "[Ljava/lang/Object;" ∈ flatC st_C ∧ Cond.arrayOf (.static "java/util/ArrayList" "DEFAULTCAPACITY_EMPTY_ELEMENTDATA" "[Ljava/lang/Object;") (.object "java/lang/Object") ∈ flatC st_C ∧ Cond.eq (.length (.static "java/util/ArrayList" "DEFAULTCAPACITY_EMPTY_ELEMENTDATA" "[Ljava/lang/Object;")) (.int (0 : Int32)) ∈ flatC st_C ∧ Cond.isRef (.static "java/lang/Throwable" "UNASSIGNED_STACK" "[Ljava/lang/StackTraceElement;") ∈ flatC st_C ∧ Cond.isRef (.static "java/lang/Throwable" "SUPPRESSED_SENTINEL" "Ljava/util/List;") ∈ flatC st_C ∧ Cond.isRef (.mirror "[Ljava/lang/Object;") ∈ flatC st_C := by
  refine ⟨?_, ?_, ?_, ?_, ?_, ?_⟩ <;> decide +kernel
theorem st_nc : ∀ q ∈ am_nc, Cond.not (.castable q.1 q.2) ∈ flatC st_C := by decide +kernel
theorem st_K {s : State} {b : Nat} (hts : ∀ w ∈ lw_tbl, w.before #[Value.ref b] s = true) : ∃ f : Nat → ClassId × (Nat → Nat), ∀ (c : Nat) (q : vw_C), am_cl[c]? = some q → u_Kn s q.1 q.2.1 q.2.2 (f c).1 (f c).2 := by
  have key : ∀ c : Nat, ∃ y : ClassId × (Nat → Nat), ∀ q : vw_C, am_cl[c]? = some q → u_Kn s q.1 q.2.1 q.2.2 y.1 y.2 := by
    intro c
    match c with
    | 0 => obtain ⟨x, y, h⟩ := u_known (C := RJx4a65c) (T := TJx4a65c) (N := 3) (n := 3) hts am_u0 (hts _ (st_in (i := 31) (by decide +kernel))); exact ⟨(x, y), fun q hq => by cases hq; exact h⟩
    | 1 => obtain ⟨x, y, h⟩ := u_known (C := RX0) (T := TX0) (N := 5) (n := 5) hts am_u1' (hts _ (st_in (i := 184) (by decide +kernel))); exact ⟨(x, y), fun q hq => by cases hq; exact h⟩
    | 2 => obtain ⟨x, y, h⟩ := u_known (C := RX1) (T := TX1) (N := 4) (n := 4) hts am_u2' (hts _ (st_in (i := 57) (by decide +kernel))); exact ⟨(x, y), fun q hq => by cases hq; exact h⟩
    | 3 => obtain ⟨x, y, h⟩ := u_known (C := RX2) (T := TX2) (N := 2) (n := 2) hts am_u3 (hts _ (st_in (i := 507) (by decide +kernel))); exact ⟨(x, y), fun q hq => by cases hq; exact h⟩
    | 4 => obtain ⟨x, y, h⟩ := u_known (C := RX3) (T := TX3) (N := 3) (n := 3) hts am_u4 (hts _ (st_in (i := 541) (by decide +kernel))); exact ⟨(x, y), fun q hq => by cases hq; exact h⟩
    | 5 => obtain ⟨x, y, h⟩ := u_known (C := RX4) (T := TX4) (N := 2) (n := 2) hts am_u5 (hts _ (st_in (i := 63) (by decide +kernel))); exact ⟨(x, y), fun q hq => by cases hq; exact h⟩
    | 6 => obtain ⟨x, y, h⟩ := u_known (C := RX5) (T := TX5) (N := 4) (n := 4) hts am_u6 (hts _ (st_in (i := 23) (by decide +kernel))); exact ⟨(x, y), fun q hq => by cases hq; exact h⟩
    | c + 7 => exact ⟨(0, fun _ => 0), fun q hq => by simp [am_cl] at hq⟩
  exact Classical.axiomOfChoice key
theorem st_A {s : State} {b : Nat} (hts : ∀ w ∈ lw_tbl, w.before #[Value.ref b] s = true) : ∃ f : Nat → ClassId, ∀ (k : Nat) (q : ClassId × FieldType), [(f 0, FieldType.int), (f 1, .boolean), (f 2, .object "HousePlans$Drawing"), (f 3, .object "java/lang/Object")][k]? = some q → ArrOfT s q.1 q.2 ∧ va_RA s q.1 q.2 := by
  obtain ⟨a0, k0, p0, x0, y0, z0⟩ := Cond.arrayClass_spec (hts _ (st_in (w := Cond.arrayClass .int) (i := 77) (by decide +kernel)))
  obtain ⟨a1, k1, p1, x1, y1, z1⟩ := Cond.arrayClass_spec (hts _ (st_in (w := Cond.arrayClass .boolean) (i := 78) (by decide +kernel)))
  obtain ⟨p2, a2, k2, x2, -, y2, z2, v2⟩ := Cond.arrayOver_spec (hts _ (st_in (w := Cond.arrayOver (.object "HousePlans$Drawing")) (i := 190) (by decide +kernel)))
  obtain ⟨p3, a3, k3', x3, -, y3, z3, v3⟩ := Cond.arrayOver_spec (hts _ (st_in (w := Cond.arrayOver (.object "java/lang/Object")) (i := 262) (by decide +kernel)))
  refine ⟨fun i => if i = 0 then a0 else if i = 1 then a1 else if i = 2 then a2 else a3, fun k q hq => ?_⟩
  match k, hq with
  | 0, hq => cases hq; exact ⟨fun n z => ⟨fun k h => (by cases h), k0, y0, p0, z0⟩, x0⟩
  | 1, hq => cases hq; exact ⟨fun n z => ⟨fun k h => (by cases h), k1, y1, p1, z1⟩, x1⟩
  | 2, hq => cases hq; exact ⟨fun n z => ⟨fun k h => (by cases h), k2, y2, p2, z2⟩, ⟨k2, p2, y2, z2, x2, v2⟩⟩
  | 3, hq => cases hq; exact ⟨fun n z => ⟨fun k h => (by cases h), k3', y3, p3, z3⟩, ⟨k3', p3, y3, z3, x3, v3⟩⟩
  | k + 4, hq => simp at hq
theorem st_bw {w : Cond} (hw : w ∈ am_bw) {A : Array Value} {s : State} (h : w.before A s = true) : va_Nw w s := by
  have hb := (List.mem_filter.mp hw).2
  cases w with
  | methodLinkNest a i x h' => exact va_Nw.of rfl h
  | fieldLinkNest a i b n d h' => exact va_Nw.of rfl h
  | castable a b => exact va_Nw.of rfl h
  | declares x => exact va_Nw.of rfl h
  | arrayOver t => cases t with
    | object C => exact va_AO.of h
    | _ => cases hb
  | _ => cases hb
/-- the surroundings, the abstract heap at the start, and the script -/
theorem st_E {s : State} {b L : Nat} {xs : Nat → Int32} (hts : ∀ w ∈ lw_tbl, w.before #[Value.ref b] s = true) (hgv : (Jvm.Cond.and given_1 narrow_1).before #[Value.ref b] s = true) (hX : va_X b L xs s s.heap) (hbl : b < s.heap.size) : ∃ (G : am_G) (ad : Nat → Nat), am_E G s ∧ G.2.2.1 = s.heap.size ∧ am_A G h00 ad s.heap ∧ ad 41 = b := by
  have hq := flat_of_before st_C hgv
  have hA : ∀ a : Nat, a < s.heap.size → ¬ s.heap.size ≤ a := fun a h => Nat.not_le.mpr h
  obtain ⟨f, hf⟩ := st_K hts
  obtain ⟨ac, hac⟩ := st_A hts
  obtain ⟨q1, q2, q3, q4, q5, q6⟩ := st_ex
  obtain ⟨e0, -, -, -, ee, -⟩ := Cond.exactly_spec (hq _ q1)
  obtain ⟨mi, hmi⟩ := va_Mi.of (hq _ q6)
  obtain ⟨t, ht, hT⟩ := va_Tof (A := fun q => s.heap.size ≤ q) (N := 0) (f := fun _ => .null) (by decide) (hq _ q2) (Cond.eq_int (hq _ q3) rfl) (fun j hj => absurd hj (Nat.not_lt_zero j)) hA
  have te : t = e0 := by
    have := ht.symm.trans ee
    cases this
    rfl
  subst te
  have hne : t ≠ b := by
    rintro rfl
    obtain ⟨c1, h1, ⟨-, k1, y1, p1, z1⟩, -⟩ := hT
    obtain ⟨c2, h2, ⟨-, k2, y2, p2, z2⟩, -⟩ := hX
    rw [h1] at h2
    cases h2
    rw [y1] at y2
    cases y2
    rw [z1] at z2
    cases z2
  obtain ⟨G, hG⟩ : ∃ G : am_G, G = ((fun c => (f c).1, fun c => (f c).2), ac, s.heap.size, t, mi) := ⟨_, rfl⟩
  have g3 : G.2.2.1 = s.heap.size := by rw [hG]
  have lt : t < s.heap.size := by
    obtain ⟨c1, h1, -⟩ := hT
    exact (Array.getElem?_eq_some_iff.mp h1).1
  refine ⟨G, fun r => if r = 1 then t else if r = 2 then mi else b, ?_, g3, ?_, rfl⟩
  · rw [hG]
    refine ⟨fun w hw => st_bw hw (hts w (List.mem_filter.mp hw).1), ⟨fun q hw => ?_, fun q hw => va_Nc.of (hq _ (st_nc q hw))⟩, ⟨hf, hac⟩, vx_Zqof (hts _ (st_in (i := 142) (by decide +kernel))) (hts _ (st_in (i := 10) (by decide +kernel))) (hq _ q4) hA, vx_Zqof (hts _ (st_in (i := 144) (by decide +kernel))) (hts _ (st_in (i := 10) (by decide +kernel))) (hq _ q5) hA, va_Zref (hts _ (st_in (i := 43) (by decide +kernel))) (hts _ (st_in (i := 4) (by decide +kernel))) ee hA, ⟨_, hT⟩, hmi, Nat.le_refl _⟩
    have hin : (q.1, q.2.1) ∈ st_L := of_decide_eq_true (List.all_eq_true.mp st_all _ hw)
    obtain ⟨a, -, -, -, ea, -⟩ := Cond.exactly_spec (hq _ (st_str _ hin))
    exact ⟨a, vk_R.of (hts _ hw) ea⟩
  · have hk : ∀ r, hk_ h00 r ≠ 0 → r = 1 ∨ r = 2 ∨ r = 41 := fun r hr => by
      by_cases a1 : r = 1
      · exact Or.inl a1
      · by_cases a2 : r = 2
        · exact Or.inr (Or.inl a2)
        · by_cases a3 : r = 41
          · exact Or.inr (Or.inr a3)
          · exact absurd (hk_00 a1 a2 a3) hr
    refine ⟨⟨rfl, rfl, rfl, rfl, by rw [hG]; rfl, by rw [hG]; rfl⟩, fun r hr => ?_, fun r hr => ?_, fun r q hr hq2 hr2 hq3 e => ?_, fun r k hr => Or.inl rfl⟩
    · rcases hk r hr with rfl | rfl | rfl
      · exact Or.inl (Or.inl rfl)
      · exact Or.inl (Or.inr rfl)
      · exact Or.inl (Or.inl rfl)
    · rcases hk r hr with rfl | rfl | rfl
      · exact Or.inl rfl
      · exact Or.inr (Or.inl rfl)
      · exact Or.inr (Or.inr (Or.inr ⟨rfl, by rw [g3]; exact hbl⟩))
    · rcases hk r hr with rfl | rfl | rfl
      · rcases hk q hq2 with rfl | rfl | rfl
        · rfl
        · exact absurd rfl hq3
        · exact absurd e hne
      · exact absurd rfl hr2
      · rcases hk q hq2 with rfl | rfl | rfl
        · exact absurd e.symm hne
        · exact absurd rfl hq3
        · rfl
