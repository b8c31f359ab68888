/-! THE SAME LIFE BEHIND light, shut, clear, sight -/
theorem LR_x {f f2 : Nat → Nat → Int32} {l : Nat} {g g2 : Nat → Int32} {H N : Nat} (h : LR f l g H N) (c8 : f2 l 8 = f l 8) (c9 : f2 l 9 = f l 9) (cr : ∀ i, 1 ≤ i → i ≤ 5 → f2 (l + i) = f (l + i)) (cg : ∀ j, j < 136 ∨ j = 138 ∨ j = 139 ∨ 176 ≤ j → g2 j = g j) (h6 : g2 136 = f2 l 10) (h7 : g2 137 = f2 l 11) (hs : LRs f2 l g2 H) : LR f2 l g2 H N := by
  obtain ⟨⟨t, t1, t2, t3⟩, a2, -, -, a5, a6, a7, a8, a9⟩ := h
  refine ⟨⟨t, t1, c8.trans t2, (cg 138 (by omega)).trans t3⟩, ?_, ⟨h6, h7⟩, hs, fun a ha => ?_, fun a b ha hb => ?_, fun a b ha hb => ?_, fun h hh => ?_, fun h p hh hp => ?_⟩
  · rcases a2 with ⟨b1, b2⟩ | ⟨yv, b1, b2, b3⟩
    · exact Or.inl ⟨c9.trans b1, (cg 139 (by omega)).trans b2⟩
    · exact Or.inr ⟨yv, b1, c9.trans b2, (cg 139 (by omega)).trans b3⟩
  · rw [cr 1 (by omega) (by omega), a5 a ha]
    exact (wedTo_c (fun b hb => cg _ (by omega)) 8 (Nat.le_refl _)).symm
  · obtain ⟨v, v1, v2, v3, v4, v5⟩ := a6 a b ha hb
    exact ⟨v, v1, (cg _ (by omega)).trans v2, (cg _ (by omega)).trans v3, v4, fun z => by rw [cr 2 (by omega) (by omega)]; exact v5 z⟩
  · obtain ⟨v, v1, v2, v3, v4, v5⟩ := a7 a b ha hb
    exact ⟨v, v1, (cg _ (by omega)).trans v2, (cg _ (by omega)).trans v3, v4, by rw [cr 3 (by omega) (by omega)]; exact v5⟩
  · rw [cr 4 (by omega) (by omega)]
    exact (cg _ (by omega)).trans (a8 h hh)
  · obtain ⟨v, v1, v2, v3⟩ := a9 h p hh hp
    exact ⟨v, v1, by rw [cr 5 (by omega) (by omega)]; exact v2, (cg _ (by omega)).trans v3⟩
theorem LRs_k {f f2 : Nat → Nat → Int32} {l : Nat} {g g2 : Nat → Int32} {H : Nat} (h : LRs f l g H) (c : f2 l 12 = f l 12) (cr : ∀ i, 6 ≤ i → i ≤ 8 → f2 (l + i) = f (l + i)) (cg : ∀ j, 140 ≤ j → j < 176 → g2 j = g j) : LRs f2 l g2 H := by
  obtain ⟨n, n1, n2, n3, n4⟩ := h
  refine ⟨n, n1, c.trans n2, (cg 140 (by omega) (by omega)).trans n3, fun k hk => ?_⟩
  obtain ⟨a, b, a1, a2, a3, a4, a5, a6, a7, a8⟩ := n4 k hk
  exact ⟨a, b, a1, a2, by rw [cr 6 (by omega) (by omega)]; exact a3, (cg _ (by omega) (by omega)).trans a4, by rw [cr 7 (by omega) (by omega)]; exact a5, (cg _ (by omega) (by omega)).trans a6, by rw [cr 8 (by omega) (by omega)]; exact (cg _ (by omega) (by omega)).trans a7, by rw [cr 8 (by omega) (by omega)]; exact a8⟩
theorem LR_lit {f f2 : Nat → Nat → Int32} {l : Nat} {g : Nat → Int32} {H N : Nat} {v : Int32} (h : LR f l g H N) (c : ∀ i, i ≠ 10 → f2 l i = f l i) (c1 : f2 l 10 = v) (cr : ∀ i, 1 ≤ i → i ≤ 8 → f2 (l + i) = f (l + i)) : LR f2 l (upd g 136 v) H N :=
  LR_x h (c 8 (by omega)) (c 9 (by omega)) (fun i a b => cr i a (by omega)) (fun j hj => upd_nt g v (by omega)) ((upd_at g 136 v).trans c1.symm) ((upd_nt g v (by omega)).trans (h.2.2.1.2.trans (c 11 (by omega)).symm)) (LRs_k h.2.2.2.1 (c 12 (by omega)) (fun i a b => cr i (by omega) b) (fun j a b => upd_nt g v (by omega)))
theorem LR_shut {f f2 : Nat → Nat → Int32} {l : Nat} {g : Nat → Int32} {H N : Nat} {v : Int32} (h : LR f l g H N) (c : ∀ i, i ≠ 11 → f2 l i = f l i) (c1 : f2 l 11 = v) (cr : ∀ i, 1 ≤ i → i ≤ 8 → f2 (l + i) = f (l + i)) : LR f2 l (upd g 137 v) H N :=
  LR_x h (c 8 (by omega)) (c 9 (by omega)) (fun i a b => cr i a (by omega)) (fun j hj => upd_nt g v (by omega)) ((upd_nt g v (by omega)).trans (h.2.2.1.1.trans (c 10 (by omega)).symm)) ((upd_at g 137 v).trans c1.symm) (LRs_k h.2.2.2.1 (c 12 (by omega)) (fun i a b => cr i (by omega) b) (fun j a b => upd_nt g v (by omega)))
theorem LR_clear {f f2 : Nat → Nat → Int32} {l : Nat} {g : Nat → Int32} {H N : Nat} (h : LR f l g H N) (c : ∀ i, i ≠ 12 → f2 l i = f l i) (c1 : f2 l 12 = 0) (cr : ∀ i, 1 ≤ i → i ≤ 8 → f2 (l + i) = f (l + i)) : LR f2 l (upd g 140 0) H N :=
  LR_x h (c 8 (by omega)) (c 9 (by omega)) (fun i a b => cr i a (by omega)) (fun j hj => upd_nt g 0 (by omega)) ((upd_nt g 0 (by omega)).trans (h.2.2.1.1.trans (c 10 (by omega)).symm)) ((upd_nt g 0 (by omega)).trans (h.2.2.1.2.trans (c 11 (by omega)).symm)) ⟨0, by omega, c1, upd_at g 140 0, fun k hk => absurd hk (Nat.not_lt_zero k)⟩
theorem LR_sight {f f2 : Nat → Nat → Int32} {l n a b : Nat} {g : Nat → Int32} {H N : Nat} {t : Int32} (h : LR f l g H N) (hn : f l 12 = nI n) (hn1 : n < 10) (ha : a < H) (hb : b < H) (ht : t = 0 ∨ t = 1) (c : ∀ i, i ≠ 12 → f2 l i = f l i) (c1 : f2 l 12 = nI (n + 1)) (cr : ∀ i, 1 ≤ i → i ≤ 5 → f2 (l + i) = f (l + i)) (c6 : f2 (l + 6) = upd (f (l + 6)) n (nI a)) (c7 : f2 (l + 7) = upd (f (l + 7)) n (nI b)) (c8 : f2 (l + 8) = upd (f (l + 8)) n t) : LR f2 l (upd (upd (upd (upd g (141 + 3 * n) (nI a)) (141 + 3 * n + 1) (nI b)) (141 + 3 * n + 2) t) 140 (nI (n + 1))) H N := by
  have gk : ∀ j, (j < 140 ∨ 176 ≤ j ∨ (140 < j ∧ j < 141 + 3 * n)) → upd (upd (upd (upd g (141 + 3 * n) (nI a)) (141 + 3 * n + 1) (nI b)) (141 + 3 * n + 2) t) 140 (nI (n + 1)) j = g j := fun j hj => by
    rw [upd_nt _ _ (by omega), upd_nt _ _ (by omega), upd_nt _ _ (by omega), upd_nt _ _ (by omega)]
  refine LR_x h (c 8 (by omega)) (c 9 (by omega)) cr (fun j hj => gk j (by omega)) ((gk 136 (by omega)).trans (h.2.2.1.1.trans (c 10 (by omega)).symm)) ((gk 137 (by omega)).trans (h.2.2.1.2.trans (c 11 (by omega)).symm)) ?_
  obtain ⟨n2, n1, e2, n3, n4⟩ := h.2.2.2.1
  have en : n = n2 := (nI_eq (by omega) (by omega)).mp (hn.symm.trans e2)
  subst en
  refine ⟨n + 1, by omega, c1, upd_at _ _ _, fun k hk => ?_⟩
  by_cases q : k = n
  · subst q
    refine ⟨a, b, ha, hb, by rw [c6]; exact upd_at _ _ _, ?_, by rw [c7]; exact upd_at _ _ _, ?_, ?_, by rw [c8, upd_at]; exact ht⟩
    · rw [upd_nt _ _ (by omega), upd_nt _ _ (by omega), upd_nt _ _ (by omega), upd_at]
    · rw [upd_nt _ _ (by omega), upd_nt _ _ (by omega), upd_at]
    · rw [upd_nt _ _ (by omega), upd_at, c8, upd_at]
  · obtain ⟨a', b', a1, a2, a3, a4, a5, a6, a7, a8⟩ := n4 k (by omega)
    exact ⟨a', b', a1, a2, by rw [c6, upd_nt _ _ q]; exact a3, (gk _ (by omega)).trans a4, by rw [c7, upd_nt _ _ q]; exact a5, (gk _ (by omega)).trans a6, by rw [c8, upd_nt _ _ q]; exact (gk _ (by omega)).trans a7, by rw [c8, upd_nt _ _ q]; exact a8⟩
