/-! THE LAW FROM ITS ENTRY -/
set_option maxRecDepth 100000 in
set_option maxHeartbeats 2000000 in
theorem lw_all {X : Nat × (Nat → Int32)} (hX : X.1 ≤ 3584) {k : Nat} (h1 : 7 * k ≤ X.1) (h2 : X.1 < 7 * k + 7) : zS ((22 * k + 73) + 1) ((3463 * k + 21263) + 7) 140 (m_law X) lP 0 [(0, .ref 1000030)] [] wE := by
  refine z_new (M := m_law X) (idx := 8) (mc := 22 * k + 73) (ms := 3463 * k + 21263) (w := wE) (pc := 0) (c0 := 7) rfl rfl nl_Lw_8 (by decide +kernel) (Or.inr ⟨fun q hq => by rw [List.mem_singleton] at hq; subst hq; intro x hx; cases hx; exact Or.inr (by decide +kernel), fun v hv => by cases hv⟩) ?_
  change zS _ _ _ _ _ _ [(0, .ref 1000030)] [.ref 0] wA1
  refine z_dup (pc := 3) rfl rfl ?_
  refine z_cI (pc := 4) (mc1 := 43) (ms1 := 6880) (mc2 := 22 * k + 30) (ms2 := 3463 * k + 14383) (as := []) (rest := [.ref 0]) (o := 0) rfl ok_SW_init rfl rfl cl_Lw_15 (show 5 < 140 by decide) (Nat.le_of_ble_eq_true rfl) (Nat.le_of_ble_eq_true rfl) (by omega) (by omega) (c_SW_init0 5 (by decide)) (fun r1 w1 hp => ?_) rfl rfl
  obtain ⟨rfl, hw1⟩ := hp
  rw [hw1]
  refine ⟨⟨by decide +kernel, (Or.inr ⟨fun q hq => by rw [List.mem_singleton] at hq; subst hq; intro x hx; cases hx; exact Or.inr (by decide +kernel), fun v hv => by rw [List.mem_singleton] at hv; subst hv; intro x hx; cases hx; exact Or.inl (by decide +kernel)⟩)⟩, ?_⟩
  refine z_astore_n (pc := 7) (i := 1) (ls' := [(0, .ref 1000030), (1, .ref 0)]) rfl rfl (show 1 < 7 by decide) rfl ?_
  refine z_pm (w := wB9) (by decide +kernel) (fun r w1 h => ⟨⟨1, h⟩, fun _ => h⟩) (fun ad => ?_) (fun ad => rfl) ?_
  · show [(0, Value.ref (ad (zp 1000030))), (1, Value.ref (ad (zp 0)))] = _
    rw [zp_hi (by decide)]
    rfl
  change zS _ _ _ _ _ _ [(0, .ref 1000030), (1, .ref 0)] [] wB8
  refine z_new (M := m_law X) (idx := 16) (mc := 22 * k + 29) (ms := 3463 * k + 14340) (w := wB8) (pc := 8) (c0 := 8) rfl rfl nl_Lw_16 (by decide +kernel) (Or.inr ⟨fun q hq => by simp only [List.mem_cons, List.not_mem_nil, or_false] at hq; rcases hq with rfl | rfl <;> (intro x hx; cases hx; first | exact Or.inl (by decide +kernel) | exact Or.inr (by decide +kernel)), fun v hv => by cases hv⟩) ?_
  change zS _ _ _ _ _ _ [(0, .ref 1000030), (1, .ref 0)] [.ref 44] wM0
  refine z_dup (pc := 11) rfl rfl ?_
  refine z_cI (pc := 12) (mc1 := 28) (ms1 := 14339) (mc2 := 22 * k + 1) (ms2 := 3463 * k + 1) (as := []) (rest := [.ref 44]) (o := 44) rfl ok_Mod_init rfl rfl cl_Lw_18 (show 1 < 140 by decide) (Nat.le_of_ble_eq_true rfl) (Nat.le_of_ble_eq_true rfl) (by omega) (by omega) (c_Mod_init0 1 (by decide)) (fun r1 w1 hp => ?_) rfl rfl
  obtain ⟨rfl, hw1⟩ := hp
  rw [hw1]
  refine ⟨⟨by decide +kernel, (Or.inr ⟨fun q hq => by simp only [List.mem_cons, List.not_mem_nil, or_false] at hq; rcases hq with rfl | rfl <;> (intro x hx; cases hx; first | exact Or.inl (by decide +kernel) | exact Or.inr (by decide +kernel)), fun v hv => by rw [List.mem_singleton] at hv; subst hv; intro x hx; cases hx; exact Or.inl (by decide +kernel)⟩)⟩, ?_⟩
  refine z_astore_n (pc := 15) (i := 2) (ls' := [(0, .ref 1000030), (1, .ref 0), (2, .ref 44)]) rfl rfl (show 2 < 7 by decide) rfl ?_
  refine z_iconst (pc := 16) (v := 1) rfl (by decide) ?_
  refine z_newaJ (mc := 22 * k) (ms := 3463 * k) (w := wM) (pc := 17) (N := 1) rfl ac_long rfl (by decide) (by decide +kernel) (Or.inr ⟨fun q hq => by simp only [List.mem_cons, List.not_mem_nil, or_false] at hq; rcases hq with rfl | rfl | rfl <;> (intro x hx; cases hx; first | exact Or.inl (by decide +kernel) | exact Or.inr (by decide +kernel)), fun v hv => by cases hv⟩) ?_
  change zS _ _ _ _ _ _ [(0, .ref 1000030), (1, .ref 0), (2, .ref 44)] [.ref 73] wS
  refine z_astore_n (pc := 19) (i := 3) (ls' := [(0, .ref 1000030), (1, .ref 0), (2, .ref 44), (3, .ref 73)]) rfl rfl (show 3 < 7 by decide) rfl ?_
  refine z_iconst (pc := 20) (v := 0) rfl (by decide) ?_
  refine z_istore (pc := 21) (i := 4) (ls' := lLS 0) rfl (show 4 < 7 by decide) rfl ?_
  exact lw_loop hX k 0 wS 32 (by omega) (by omega) Iv_0
