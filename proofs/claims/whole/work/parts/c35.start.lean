/-! THE WORLD AT THE LAW'S LOOP -/
def wS : zW := zN wM (11, 1)
set_option maxRecDepth 100000 in
set_option maxHeartbeats 1000000 in
theorem wS_x : zX wS 32 := by
  unfold zX zAir zLf zSt zLw
  repeat' apply And.intro
  all_goals decide +kernel
set_option maxRecDepth 100000 in
set_option maxHeartbeats 1000000 in
theorem wS_m : zMo wS := by
  refine ⟨by decide +kernel, ?_⟩
  decide +kernel
set_option maxRecDepth 100000 in
set_option maxHeartbeats 1000000 in
theorem wS_r : rdS wS 4 := by
  unfold rdS zSt zLw
  repeat' apply And.intro
  all_goals decide +kernel
set_option maxRecDepth 100000 in
theorem wS_73 : wS.1[73]? = some (11, 1) := by decide +kernel
set_option maxRecDepth 100000 in
theorem wS_len : wS.1.length = 74 := by decide +kernel
set_option maxRecDepth 100000 in
set_option maxHeartbeats 1000000 in
theorem wS_row {o : Nat} (ho : o = 2 ∨ o = 45 ∨ o = 67) : zI wS o = fun _ => 0 := by
  rcases ho with rfl | rfl | rfl <;> rfl
set_option maxRecDepth 100000 in
set_option maxHeartbeats 1000000 in
theorem wS_l : (zI wS 21 8 = 0 ∧ zI wS 21 9 = -1 ∧ zI wS 21 10 = 0 ∧ zI wS 21 11 = 0 ∧ zI wS 21 12 = 0) ∧ (∀ j : Fin 8, zI wS 22 j = 0) ∧ (∀ j : Fin 64, zI wS 23 j = 0) ∧ (∀ j : Fin 64, zI wS 24 j = 0) ∧ (∀ j : Fin 8, zI wS 25 j = 0) := by
  decide +kernel
set_option maxRecDepth 100000 in
set_option maxHeartbeats 1000000 in
theorem wS_26 : ∀ j : Fin 1152, zI wS 26 j = 0 := by decide +kernel
set_option maxRecDepth 100000 in
set_option maxHeartbeats 1000000 in
theorem wS_s : (zI wS 32 7 = nI 8 ∧ zI wS 32 8 = nI 8 ∧ zI wS 32 9 = nI 1 ∧ zI wS 32 10 = nI 0 ∧ zI wS 32 11 = nI 0) ∧ (zI wS 46 0 = nI 8 ∧ zI wS 46 1 = nI 8 ∧ zI wS 46 2 = nI 1 ∧ zI wS 46 3 = nI 0 ∧ zI wS 46 4 = nI 0) ∧ (zI wS 52 0 = nI 0 ∧ zI wS 53 0 = nI 0 ∧ zI wS 38 2 = 1 ∧ zI wS 39 0 = 0) ∧ (zI wS 52 1 = nI 0 ∧ zI wS 53 1 = nI 0 ∧ zI wS 41 2 = 1 ∧ zI wS 42 0 = -3) ∧ zI wS 1 1 = nI 0 ∧ zI wS 44 1 = nI 0 := by
  decide +kernel
set_option maxRecDepth 100000 in
set_option maxHeartbeats 1000000 in
theorem wS_k : ∀ k : Fin 4, zR wS 30 k = none ∧ zI wS 72 k = 0 := by decide +kernel
theorem Iv_0 : Iv wS 32 0 := by
  obtain ⟨s1, s2, s3, s4, s5, s6⟩ := wS_s
  obtain ⟨⟨l1, l2, l3, l4, l5⟩, r1, r2, r3, r4⟩ := wS_l
  refine ⟨⟨wS_x, wS_m, wS_73, wS_r⟩, ⟨0, by decide, s5, s6, by rw [wS_row (Or.inr (Or.inl rfl)), wS_row (Or.inl rfl)], fun k hk => absurd hk (Nat.not_lt_zero k)⟩, ⟨8, 8, 0, 1, 0, ?_, ?_⟩, fun k hk => Or.inl (wS_k ⟨k, hk⟩), ?_, by rw [wS_len]; decide⟩
  · refine ⟨by decide, s1, s2, fun h hh => absurd hh (Nat.not_lt_zero h), Or.inl s3, Or.inl s4, ?_⟩
    intro m hm e i hi
    have e1 : nI m = nI 1 := e.symm.trans s3.2.2.1
    have e2 : m = 1 := (nI_eq (by omega) (by decide)).mp e1
    have e3 : i = 0 := by omega
    rw [e3, s3.2.2.2]
    exact ⟨by decide, by decide⟩
  · exact LR_zero l1 l2 l3 l4 l5 (fun j hj => r1 ⟨j, hj⟩) (fun j hj => r2 ⟨j, hj⟩) (fun j hj => r3 ⟨j, hj⟩) (fun j hj => r4 ⟨j, hj⟩) (fun j hj => wS_26 ⟨j, hj⟩) (fun j _ => by rw [wS_row (Or.inr (Or.inr rfl))])
  · intro k j m n hk _ _ z _
    rw [(wS_k ⟨k, hk⟩).1] at z
    cases z
