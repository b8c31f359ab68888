/-! A NEW OBJECT OF THE CLASS: the object itself -/
set_option maxRecDepth 100000 in
set_option maxHeartbeats 1000000 in
theorem c_SW_init0 (d : Nat) (hd : 5 ≤ d) : zS 43 6880 d m_SW_init (fun rv w1 => rv = none ∧ w1 = wB9) 0 [(0, .ref 0)] [] wA1 := by
  refine z_aload_n (pc := 0) (i := 0) (j := 0) rfl rfl rfl ?_
  refine z_obj (pc := 1) rfl ol_SW_1 (by omega) (Nat.le_of_ble_eq_true rfl) ?_
  refine z_aload_n (pc := 4) (i := 0) (j := 0) rfl rfl rfl ?_
  refine z_new (M := m_SW_init) (idx := 7) (mc := 42) (ms := 6865) (w := wA1) (pc := 5) (c0 := 3) rfl rfl nl_SW_7 (by decide +kernel) (Or.inr ⟨fun q hq => by rw [List.mem_singleton] at hq; subst hq; intro x hx; cases hx; exact Or.inl (by decide +kernel), fun v hv => by rw [List.mem_singleton] at hv; subst hv; intro x hx; cases hx; exact Or.inl (by decide +kernel)⟩) ?_
  change zS _ _ _ _ _ _ [(0, .ref 0)] [.ref 1, .ref 0] wA2
  refine z_dup (pc := 8) rfl rfl ?_
  refine z_cIN (pc := 9) (mc1 := 14) (ms1 := 3124) (mc2 := 28) (ms2 := 3741) (as := []) (rest := [.ref 1, .ref 0]) (o := 1) rfl ok_Reader_init rfl rfl cl_SW_9 (show 4 < d by omega) (Nat.le_of_ble_eq_true rfl) (Nat.le_of_ble_eq_true rfl) (Nat.le_refl _) (Nat.le_refl _) (c_Reader_init0 4 (by decide)) (fun r1 w1 hp => ?_) rfl rfl
  obtain ⟨rfl, hw1⟩ := hp
  rw [hw1]
  refine ⟨⟨by decide +kernel, (Or.inr ⟨fun q hq => by rw [List.mem_singleton] at hq; subst hq; intro x hx; cases hx; exact Or.inl (by decide +kernel), fun v hv => by simp only [List.mem_cons, List.not_mem_nil, or_false] at hv; rcases hv with rfl | rfl <;> (intro x hx; cases hx; exact Or.inl (by decide +kernel))⟩)⟩, ?_⟩
  refine z_putRF (pc := 12) rfl fl_SW_10 (show (wA8).1[0]? = some (7, 7) by decide +kernel) rfl (Or.inl (by decide +kernel)) rfl (fun q hq => by cases hq; rfl) ?_
  change zS _ _ _ _ _ _ [(0, .ref 0)] [] (zsR wA8 0 1 (some 1))
  refine z_aload_n (pc := 15) (i := 0) (j := 0) rfl rfl rfl ?_
  refine z_aload_n (pc := 16) (i := 0) (j := 0) rfl rfl rfl ?_
  refine z_getR (pc := 17) (x := 1) rfl fl_SW_10 (show (zsR wA8 0 1 (some 1)).1[0]? = some (7, 7) by decide +kernel) rfl (by decide +kernel) ?_
  refine z_getR (pc := 20) (x := 2) rfl fl_SW_16 (show (zsR wA8 0 1 (some 1)).1[1]? = some (3, 15) by decide +kernel) rfl (by decide +kernel) ?_
  refine z_putRF (pc := 23) rfl fl_SW_20 (show (zsR wA8 0 1 (some 1)).1[0]? = some (7, 7) by decide +kernel) rfl (Or.inl (by decide +kernel)) rfl (fun q hq => by cases hq; rfl) ?_
  change zS _ _ _ _ _ _ [(0, .ref 0)] [] wA9
  refine z_aload_n (pc := 26) (i := 0) (j := 0) rfl rfl rfl ?_
  refine z_new (M := m_SW_init) (idx := 21) (mc := 27) (ms := 3737) (w := wA9) (pc := 27) (c0 := 4) rfl rfl nl_SW_21 (by decide +kernel) (Or.inr ⟨fun q hq => by rw [List.mem_singleton] at hq; subst hq; intro x hx; cases hx; exact Or.inl (by decide +kernel), fun v hv => by rw [List.mem_singleton] at hv; subst hv; intro x hx; cases hx; exact Or.inl (by decide +kernel)⟩) ?_
  change zS _ _ _ _ _ _ [(0, .ref 0)] [.ref 16, .ref 0] wB1
  refine z_dup (pc := 30) rfl rfl ?_
  refine z_cIN (pc := 31) (mc1 := 4) (ms1 := 264) (mc2 := 23) (ms2 := 3473) (as := []) (rest := [.ref 16, .ref 0]) (o := 16) rfl ok_Smoke_init rfl rfl cl_SW_23 (show 1 < d by omega) (Nat.le_of_ble_eq_true rfl) (Nat.le_of_ble_eq_true rfl) (Nat.le_refl _) (Nat.le_refl _) (c_Smoke_init (w := wB1) (o := 16) (show wB1.1[16]? = some (4, 4) by decide +kernel) (by decide +kernel) 1 (by decide)) (fun r1 w1 hp => ?_) rfl rfl
  obtain ⟨rfl, hw1⟩ := hp
  rw [hw1]
  refine ⟨⟨by decide +kernel, (Or.inr ⟨fun q hq => by rw [List.mem_singleton] at hq; subst hq; intro x hx; cases hx; exact Or.inl (by decide +kernel), fun v hv => by simp only [List.mem_cons, List.not_mem_nil, or_false] at hv; rcases hv with rfl | rfl <;> (intro x hx; cases hx; exact Or.inl (by decide +kernel))⟩)⟩, ?_⟩
  refine z_putRF (pc := 34) rfl fl_SW_24 (show (smokeW wB1 16).1[0]? = some (7, 7) by decide +kernel) rfl (Or.inl (by decide +kernel)) rfl (fun q hq => by cases hq; rfl) ?_
  change zS _ _ _ _ _ _ [(0, .ref 0)] [] wB2
  refine z_aload_n (pc := 37) (i := 0) (j := 0) rfl rfl rfl ?_
  refine z_new (M := m_SW_init) (idx := 28) (mc := 22) (ms := 3460) (w := wB2) (pc := 38) (c0 := 1) rfl rfl nl_SW_28 (by decide +kernel) (Or.inr ⟨fun q hq => by rw [List.mem_singleton] at hq; subst hq; intro x hx; cases hx; exact Or.inl (by decide +kernel), fun v hv => by rw [List.mem_singleton] at hv; subst hv; intro x hx; cases hx; exact Or.inl (by decide +kernel)⟩) ?_
  change zS _ _ _ _ _ _ [(0, .ref 0)] [.ref 21, .ref 0] wB3
  refine z_dup (pc := 41) rfl rfl ?_
  refine z_cI (pc := 42) (mc1 := 8) (ms1 := 1326) (mc2 := 14) (ms2 := 2134) (as := []) (rest := [.ref 21, .ref 0]) (o := 21) rfl ok_Life_init rfl rfl cl_SW_30 (show 2 < d by omega) (Nat.le_of_ble_eq_true rfl) (Nat.le_of_ble_eq_true rfl) (Nat.le_refl _) (Nat.le_refl _) (c_Life_init (w := wB3) (o := 21) (show wB3.1[21]? = some (1, 13) by decide +kernel) (by decide +kernel) (by decide +kernel) 2 (by decide)) (fun r1 w1 hp => ?_) rfl rfl
  obtain ⟨rfl, hw1⟩ := hp
  rw [hw1]
  refine ⟨⟨by decide +kernel, (Or.inr ⟨fun q hq => by rw [List.mem_singleton] at hq; subst hq; intro x hx; cases hx; exact Or.inl (by decide +kernel), fun v hv => by simp only [List.mem_cons, List.not_mem_nil, or_false] at hv; rcases hv with rfl | rfl <;> (intro x hx; cases hx; exact Or.inl (by decide +kernel))⟩)⟩, ?_⟩
  refine z_putRF (pc := 45) rfl fl_SW_31 (show (zuI (lifeW wB3 21) (lifeB (zI (lifeW wB3 21)) 21)).1[0]? = some (7, 7) by decide +kernel) rfl (Or.inl (by decide +kernel)) rfl (fun q hq => by cases hq; rfl) ?_
  change zS _ _ _ _ _ _ [(0, .ref 0)] [] wB4
  refine z_aload_n (pc := 48) (i := 0) (j := 0) rfl rfl rfl ?_
  refine z_iconst (pc := 49) (v := 4) rfl (by decide) ?_
  refine z_newq (mc := 13) (ms := 2130) (pc := 50) (N := 4) (w := wB4) rfl nl_SW_35.1 rfl (by decide) (by decide +kernel) (Or.inr ⟨fun q hq => by rw [List.mem_singleton] at hq; subst hq; intro x hx; cases hx; exact Or.inl (by decide +kernel), fun v hv => by rw [List.mem_singleton] at hv; subst hv; intro x hx; cases hx; exact Or.inl (by decide +kernel)⟩) ?_
  change zS _ _ _ _ _ _ [(0, .ref 0)] [.ref 30, .ref 0] (zN wB4 (13, 4))
  refine z_putRF (pc := 53) rfl fl_SW_37 (show (zN wB4 (13, 4)).1[0]? = some (7, 7) by decide +kernel) rfl (Or.inl (by decide +kernel)) rfl (fun q hq => by cases hq; rfl) ?_
  change zS _ _ _ _ _ _ [(0, .ref 0)] [] wB5
  refine z_aload_n (pc := 56) (i := 0) (j := 0) rfl rfl rfl ?_
  refine z_bipush (pc := 57) (v := 8) rfl (by decide) ?_
  refine z_newaI (mc := 12) (ms := 2122) (w := wB5) (pc := 59) (N := 8) rfl (by decide +kernel) rfl (by decide) (by decide +kernel) (Or.inr ⟨fun q hq => by rw [List.mem_singleton] at hq; subst hq; intro x hx; cases hx; exact Or.inl (by decide +kernel), fun v hv => by rw [List.mem_singleton] at hv; subst hv; intro x hx; cases hx; exact Or.inl (by decide +kernel)⟩) ?_
  change zS _ _ _ _ _ _ [(0, .ref 0)] [.ref 31, .ref 0] (zN wB5 (10, 8))
  refine z_putRF (pc := 61) rfl fl_SW_41 (show (zN wB5 (10, 8)).1[0]? = some (7, 7) by decide +kernel) rfl (Or.inl (by decide +kernel)) rfl (fun q hq => by cases hq; rfl) ?_
  change zS _ _ _ _ _ _ [(0, .ref 0)] [] wB6
  refine z_aload_n (pc := 64) (i := 0) (j := 0) rfl rfl rfl ?_
  refine z_new (M := m_SW_init) (idx := 45) (mc := 11) (ms := 2110) (w := wB6) (pc := 65) (c0 := 5) rfl rfl nl_SW_45 (by decide +kernel) (Or.inr ⟨fun q hq => by rw [List.mem_singleton] at hq; subst hq; intro x hx; cases hx; exact Or.inl (by decide +kernel), fun v hv => by rw [List.mem_singleton] at hv; subst hv; intro x hx; cases hx; exact Or.inl (by decide +kernel)⟩) ?_
  change zS _ _ _ _ _ _ [(0, .ref 0)] [.ref 32, .ref 0] wB7
  refine z_dup (pc := 68) rfl rfl ?_
  refine z_cI (pc := 69) (mc1 := 11) (ms1 := 2110) (mc2 := 0) (ms2 := 0) (as := []) (rest := [.ref 32, .ref 0]) (o := 32) rfl ok_Street_init rfl rfl cl_SW_47 (show 3 < d by omega) (Nat.le_of_ble_eq_true rfl) (Nat.le_of_ble_eq_true rfl) (Nat.le_refl _) (Nat.le_refl _) (c_Street_init (w := wB7) (o := 32) (show wB7.1[32]? = some (5, 12) by decide +kernel) (by decide +kernel) (by decide +kernel) 3 (by decide)) (fun r1 w1 hp => ?_) rfl rfl
  obtain ⟨rfl, hw1⟩ := hp
  rw [hw1]
  refine ⟨⟨by decide +kernel, (Or.inr ⟨fun q hq => by rw [List.mem_singleton] at hq; subst hq; intro x hx; cases hx; exact Or.inl (by decide +kernel), fun v hv => by simp only [List.mem_cons, List.not_mem_nil, or_false] at hv; rcases hv with rfl | rfl <;> (intro x hx; cases hx; exact Or.inl (by decide +kernel))⟩)⟩, ?_⟩
  refine z_putR (pc := 72) rfl fl_SW_48 (show (zuI (strW wB7 32) (strB (zI (strW wB7 32)) 32)).1[0]? = some (7, 7) by decide +kernel) rfl (Or.inl (by decide +kernel)) ?_
  exact z_vret (pc := 75) rfl rfl ⟨rfl, rfl⟩
