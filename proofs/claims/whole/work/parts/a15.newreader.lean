/-! A NEW OBJECT OF THE CLASS, in an empty world: cells 0 .. 43 -/
def wE : zW := ([], fun _ _ => 0, fun _ _ => 0, fun _ _ => none)
def wA1 : zW := zN wE (7, 7)
def wA2 : zW := zN wA1 (3, 15)
def wA3 : zW := zN wA2 (6, 2)
def wA4 : zW := zsR (tapeW wA3 2) 1 0 (some 2)
def wA5 : zW := zN wA4 (5, 12)
def wA6 : zW := zuI (strW wA5 4) (strB (zI (strW wA5 4)) 4)
def wA7 : zW := zsR wA6 1 1 (some 4)
def wA8 : zW := zsR wA7 1 2 (some 10)
def wA9 : zW := zsR (zsR wA8 0 1 (some 1)) 0 0 (some 2)
def wB1 : zW := zN wA9 (4, 4)
def wB2 : zW := zsR (smokeW wB1 16) 0 2 (some 16)
def wB3 : zW := zN wB2 (1, 13)
def wB4 : zW := zsR (zuI (lifeW wB3 21) (lifeB (zI (lifeW wB3 21)) 21)) 0 3 (some 21)
def wB5 : zW := zsR (zN wB4 (13, 4)) 0 4 (some 30)
def wB6 : zW := zsR (zN wB5 (10, 8)) 0 5 (some 31)
def wB7 : zW := zN wB6 (5, 12)
def wB9 : zW := zsR (zuI (strW wB7 32) (strB (zI (strW wB7 32)) 32)) 0 6 (some 32)
set_option maxRecDepth 100000 in
set_option maxHeartbeats 1000000 in
theorem c_Reader_init0 (d : Nat) (hd : 4 ≤ d) : zS 14 3124 d m_Reader_init (fun rv w1 => rv = none ∧ w1 = wA8) 0 [(0, .ref 1)] [] wA2 := by
  refine z_aload_n (pc := 0) (i := 0) (j := 0) rfl rfl rfl ?_
  refine z_obj (pc := 1) rfl ol_Reader_3 (by omega) (Nat.le_of_ble_eq_true rfl) ?_
  refine z_aload_n (pc := 4) (i := 0) (j := 0) rfl rfl rfl ?_
  refine z_new (M := m_Reader_init) (idx := 9) (mc := 13) (ms := 3122) (w := wA2) (pc := 5) (c0 := 6) rfl rfl nl_Reader_9 (by decide +kernel) (Or.inr ⟨fun q hq => by rw [List.mem_singleton] at hq; subst hq; intro x hx; cases hx; exact Or.inl (by decide +kernel), fun v hv => by rw [List.mem_singleton] at hv; subst hv; intro x hx; cases hx; exact Or.inl (by decide +kernel)⟩) ?_
  change zS _ _ _ _ _ _ [(0, .ref 1)] [.ref 2, .ref 1] wA3
  refine z_dup (pc := 8) rfl rfl ?_
  refine z_cIN (pc := 9) (mc1 := 1) (ms1 := 1000) (mc2 := 12) (ms2 := 2122) (as := []) (rest := [.ref 2, .ref 1]) (o := 2) rfl ok_Tape_init rfl rfl cl_Reader_11 (show 1 < d by omega) (Nat.le_of_ble_eq_true rfl) (Nat.le_of_ble_eq_true rfl) (Nat.le_refl _) (Nat.le_refl _) (c_Tape_init (w := wA3) (o := 2) (show wA3.1[2]? = some (6, 2) by decide +kernel) (by decide +kernel) 1 (by decide)) (fun r1 w1 hp => ?_) rfl rfl
  obtain ⟨rfl, hw1⟩ := hp
  rw [hw1]
  refine ⟨⟨by decide +kernel, (Or.inr ⟨fun q hq => by rw [List.mem_singleton] at hq; subst hq; intro x hx; cases hx; exact Or.inl (by decide +kernel), fun v hv => by simp only [List.mem_cons, List.not_mem_nil, or_false] at hv; rcases hv with rfl | rfl <;> (intro x hx; cases hx; exact Or.inl (by decide +kernel))⟩)⟩, ?_⟩
  refine z_putRF (pc := 12) rfl fl_Reader_12 (show (tapeW wA3 2).1[1]? = some (3, 15) by decide +kernel) rfl (Or.inl (by decide +kernel)) rfl (fun q hq => by cases hq; rfl) ?_
  change zS _ _ _ _ _ _ [(0, .ref 1)] [] wA4
  refine z_aload_n (pc := 15) (i := 0) (j := 0) rfl rfl rfl ?_
  refine z_new (M := m_Reader_init) (idx := 18) (mc := 11) (ms := 2110) (w := wA4) (pc := 16) (c0 := 5) rfl rfl nl_Reader_18 (by decide +kernel) (Or.inr ⟨fun q hq => by rw [List.mem_singleton] at hq; subst hq; intro x hx; cases hx; exact Or.inl (by decide +kernel), fun v hv => by rw [List.mem_singleton] at hv; subst hv; intro x hx; cases hx; exact Or.inl (by decide +kernel)⟩) ?_
  change zS _ _ _ _ _ _ [(0, .ref 1)] [.ref 4, .ref 1] wA5
  refine z_dup (pc := 19) rfl rfl ?_
  refine z_cI (pc := 20) (mc1 := 11) (ms1 := 2110) (mc2 := 0) (ms2 := 0) (as := []) (rest := [.ref 4, .ref 1]) (o := 4) rfl ok_Street_init rfl rfl cl_Reader_20 (show 3 < d by omega) (Nat.le_of_ble_eq_true rfl) (Nat.le_of_ble_eq_true rfl) (Nat.le_refl _) (Nat.le_refl _) (c_Street_init (w := wA5) (o := 4) (show wA5.1[4]? = some (5, 12) by decide +kernel) (by decide +kernel) (by decide +kernel) 3 (by decide)) (fun r1 w1 hp => ?_) rfl rfl
  obtain ⟨rfl, hw1⟩ := hp
  rw [hw1]
  refine ⟨⟨by decide +kernel, (Or.inr ⟨fun q hq => by rw [List.mem_singleton] at hq; subst hq; intro x hx; cases hx; exact Or.inl (by decide +kernel), fun v hv => by simp only [List.mem_cons, List.not_mem_nil, or_false] at hv; rcases hv with rfl | rfl <;> (intro x hx; cases hx; exact Or.inl (by decide +kernel))⟩)⟩, ?_⟩
  change zS _ _ _ _ _ _ [(0, .ref 1)] [.ref 4, .ref 1] wA6
  refine z_putR (pc := 23) rfl fl_Reader_21 (show wA6.1[1]? = some (3, 15) by decide +kernel) rfl (Or.inl (by decide +kernel)) ?_
  change zS _ _ _ _ _ _ [(0, .ref 1)] [] wA7
  refine z_aload_n (pc := 26) (i := 0) (j := 0) rfl rfl rfl ?_
  refine z_aload_n (pc := 27) (i := 0) (j := 0) rfl rfl rfl ?_
  refine z_getR (pc := 28) (x := 4) rfl fl_Reader_21 (show wA7.1[1]? = some (3, 15) by decide +kernel) rfl (by decide +kernel) ?_
  refine z_getR (pc := 31) (x := 10) rfl fl_Reader_25 (show wA7.1[4]? = some (5, 12) by decide +kernel) rfl (by decide +kernel) ?_
  refine z_putR (pc := 34) rfl fl_Reader_29 (show wA7.1[1]? = some (3, 15) by decide +kernel) rfl (Or.inl (by decide +kernel)) ?_
  exact z_vret (pc := 37) rfl rfl ⟨rfl, rfl⟩
