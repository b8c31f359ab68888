/-! A NEW STREET -/
def lwN (w : zW) (o k : Nat) : zW := zsR (lawW (zN w (0, 3)) w.1.length) o k (some w.1.length)
theorem lawW_len (w : zW) (o : Nat) : (lawW w o).1.length = w.1.length + 2 := by
  show (stp (stp w o 0 (10, 1000)) o 1 (10, 32)).1.length = _
  rw [stp_len, stp_len]
theorem lwN_len (w : zW) (o k : Nat) : (lwN w o k).1.length = w.1.length + 3 := by
  show (lawW (zN w (0, 3)) w.1.length).1.length = _
  rw [lawW_len, zN_len]
theorem lwN_at {w : zW} {o k a : Nat} {p : Nat × Nat} (h : w.1[a]? = some p) : (lwN w o k).1[a]? = some p := stp_at (w := stp (zN w (0, 3)) w.1.length 0 (10, 1000)) (o := w.1.length) (k := 1) (stp_at (zN_at h))
theorem lwN_r (w : zW) (o k : Nat) : zR (lwN w o k) o k = some w.1.length := zR_hit _ _ _ _
theorem zN_r {w : zW} {a : Nat} (q : Nat × Nat) (b : Nat) (ha : a < w.1.length) : zR (zN w q) a b = zR w a b := by
  show (if a = w.1.length then fun _ => none else zR w a) b = _
  rw [if_neg (by omega)]
theorem lwN_ro {w : zW} {o k a b : Nat} (h : ¬ (a = o ∧ b = k)) (ha : a < w.1.length) : zR (lwN w o k) a b = zR w a b := by
  have l1 : (zN w (0, 3)).1.length = w.1.length + 1 := zN_len w (0, 3)
  have e1 : zR (lwN w o k) a b = zR (stp (stp (zN w (0, 3)) w.1.length 0 (10, 1000)) w.1.length 1 (10, 32)) a b := by
    show z2 _ o k _ a b = _
    unfold z2
    rw [if_neg h]
    rfl
  rw [e1, stp_ro (by omega) (by rw [stp_len]; omega), stp_ro (by omega) (by omega), zN_r _ _ ha]
theorem lwN_z {w : zW} {o k : Nat} (ho : o < w.1.length) : zLw (lwN w o k) w.1.length := by
  have l1 : (zN w (0, 3)).1.length = w.1.length + 1 := zN_len w (0, 3)
  have l2 : (stp (zN w (0, 3)) w.1.length 0 (10, 1000)).1.length = w.1.length + 2 := by rw [stp_len, l1]
  have k0 : (zN w (0, 3)).1[w.1.length]? = some (0, 3) := by show (w.1 ++ [(0, 3)])[w.1.length]? = _; simp
  have eR : ∀ b, zR (lwN w o k) w.1.length b = zR (stp (stp (zN w (0, 3)) w.1.length 0 (10, 1000)) w.1.length 1 (10, 32)) w.1.length b := fun b => by
    show z2 _ o k _ w.1.length b = _
    unfold z2
    rw [if_neg (by omega)]
    rfl
  refine ⟨stp_at (w := stp (zN w (0, 3)) w.1.length 0 (10, 1000)) (o := w.1.length) (k := 1) (stp_at k0), stp_at (w := stp (zN w (0, 3)) w.1.length 0 (10, 1000)) (o := w.1.length) (k := 1) (stp_nE l1.symm), stp_nE (w := stp (zN w (0, 3)) w.1.length 0 (10, 1000)) (o := w.1.length) (k := 1) l2.symm, ?_, ?_⟩
  · rw [eR, stp_ro (by omega) (by omega)]
    exact stp_rE l1.symm
  · rw [eR]
    exact stp_rE l2.symm
theorem lwN_zo {w : zW} {o k L : Nat} (h : zLw w L) (hL : L + 2 < w.1.length) (hoL : o ≠ L) : zLw (lwN w o k) L := ⟨lwN_at h.1, lwN_at h.2.1, lwN_at h.2.2.1, (lwN_ro (by omega) (by omega)).trans h.2.2.2.1, (lwN_ro (by omega) (by omega)).trans h.2.2.2.2⟩
def strW (w : zW) (o : Nat) : zW := lwN (lwN (stp (stp (stp (stp (stp w o 0 (10, 8)) o 1 (10, 8)) o 2 (10, 8)) o 3 (10, 8)) o 4 (11, 8)) o 5) o 6
set_option maxRecDepth 100000 in
set_option maxHeartbeats 400000 in
theorem strW_z {w : zW} {o : Nat} (h : w.1[o]? = some (5, 12)) (ho : o + 1 = w.1.length) : zSt (strW w o) o := by
  have l5 : (stp (stp (stp (stp (stp w o 0 (10, 8)) o 1 (10, 8)) o 2 (10, 8)) o 3 (10, 8)) o 4 (11, 8)).1.length = o + 6 := by simp only [stp_len]; omega
  have l6 : (lwN (stp (stp (stp (stp (stp w o 0 (10, 8)) o 1 (10, 8)) o 2 (10, 8)) o 3 (10, 8)) o 4 (11, 8)) o 5).1.length = o + 9 := by rw [lwN_len, l5]
  have lr5 : zR (lwN (stp (stp (stp (stp (stp w o 0 (10, 8)) o 1 (10, 8)) o 2 (10, 8)) o 3 (10, 8)) o 4 (11, 8)) o 5) o 5 = some (o + 6) := by rw [← l5]; exact lwN_r _ _ _
  have lr6 : zR (lwN (lwN (stp (stp (stp (stp (stp w o 0 (10, 8)) o 1 (10, 8)) o 2 (10, 8)) o 3 (10, 8)) o 4 (11, 8)) o 5) o 6) o 6 = some (o + 9) := by rw [← l6]; exact lwN_r _ _ _
  have z5 : zLw (lwN (stp (stp (stp (stp (stp w o 0 (10, 8)) o 1 (10, 8)) o 2 (10, 8)) o 3 (10, 8)) o 4 (11, 8)) o 5) (o + 6) := by rw [← l5]; exact lwN_z (by omega)
  have z6 : zLw (lwN (lwN (stp (stp (stp (stp (stp w o 0 (10, 8)) o 1 (10, 8)) o 2 (10, 8)) o 3 (10, 8)) o 4 (11, 8)) o 5) o 6) (o + 9) := by rw [← l6]; exact lwN_z (by omega)
  unfold strW
  exact ⟨(lwN_at (lwN_at (stp_at (stp_at (stp_at (stp_at (stp_at h))))))), (lwN_at (lwN_at (stp_at (stp_at (stp_at (stp_at (stp_nE (by omega)))))))), (lwN_at (lwN_at (stp_at (stp_at (stp_at (stp_nE (by simp only [stp_len]; omega))))))), (lwN_at (lwN_at (stp_at (stp_at (stp_nE (by simp only [stp_len]; omega)))))), (lwN_at (lwN_at (stp_at (stp_nE (by simp only [stp_len]; omega))))), (lwN_at (lwN_at (stp_nE (by simp only [stp_len]; omega)))), ((lwN_ro (by omega) (by simp only [lwN_len, stp_len]; omega)).trans ((lwN_ro (by omega) (by simp only [lwN_len, stp_len]; omega)).trans ((stp_ro (by omega) (by simp only [stp_len]; omega)).trans ((stp_ro (by omega) (by simp only [stp_len]; omega)).trans ((stp_ro (by omega) (by simp only [stp_len]; omega)).trans ((stp_ro (by omega) (by simp only [stp_len]; omega)).trans (stp_rE (by omega)))))))), ((lwN_ro (by omega) (by simp only [lwN_len, stp_len]; omega)).trans ((lwN_ro (by omega) (by simp only [lwN_len, stp_len]; omega)).trans ((stp_ro (by omega) (by simp only [stp_len]; omega)).trans ((stp_ro (by omega) (by simp only [stp_len]; omega)).trans ((stp_ro (by omega) (by simp only [stp_len]; omega)).trans (stp_rE (by simp only [stp_len]; omega))))))), ((lwN_ro (by omega) (by simp only [lwN_len, stp_len]; omega)).trans ((lwN_ro (by omega) (by simp only [lwN_len, stp_len]; omega)).trans ((stp_ro (by omega) (by simp only [stp_len]; omega)).trans ((stp_ro (by omega) (by simp only [stp_len]; omega)).trans (stp_rE (by simp only [stp_len]; omega)))))), ((lwN_ro (by omega) (by simp only [lwN_len, stp_len]; omega)).trans ((lwN_ro (by omega) (by simp only [lwN_len, stp_len]; omega)).trans ((stp_ro (by omega) (by simp only [stp_len]; omega)).trans (stp_rE (by simp only [stp_len]; omega))))), ((lwN_ro (by omega) (by simp only [lwN_len, stp_len]; omega)).trans ((lwN_ro (by omega) (by simp only [lwN_len, stp_len]; omega)).trans (stp_rE (by simp only [stp_len]; omega)))), ((lwN_ro (by omega) (by simp only [lwN_len, stp_len]; omega)).trans (lr5)), lr6, lwN_zo z5 (by omega) (by omega), z6⟩
set_option maxRecDepth 100000 in
set_option maxHeartbeats 400000 in
theorem c_Street_init {w : zW} {o : Nat} (h : w.1[o]? = some (5, 12)) (hl : o + 1 = w.1.length) (hn : w.1.length + 12 < 1000000) (d : Nat) (hd : 3 ≤ d) : zS 11 2110 d m_Street_init (fun rv w1 => rv = none ∧ w1 = zuI (strW w o) (strB (zI (strW w o)) o)) 0 [(0, .ref o)] [] w := by
  have ho : o < w.1.length := (List.getElem?_eq_some_iff.mp h).1
  have hz := strW_z h hl
  unfold strW at hz ⊢
  refine z_aload_n (pc := 0) (i := 0) (j := 0) rfl rfl rfl ?_
  refine z_obj (pc := 1) rfl ol_Street_3 (by omega) (Nat.le_of_ble_eq_true rfl) ?_
  refine z_aload_n (pc := 4) (i := 0) (j := 0) rfl rfl rfl ?_
  refine z_bipush (pc := 5) (v := 8) rfl (by decide) ?_
  refine z_newaI (mc := 10) (ms := 2102) (w := w) (pc := 7) (N := 8) rfl (by decide +kernel) rfl (by decide) (by omega) (zVl_o (by omega)) ?_
  refine z_putRF (pc := 9) rfl fl_Street_9 (zN_at h) rfl (Or.inl (by rw [zN_len]; omega)) rfl (fun q hq => by cases hq; rfl) ?_
  refine z_aload_n (pc := 12) (i := 0) (j := 0) rfl rfl rfl ?_
  refine z_bipush (pc := 13) (v := 8) rfl (by decide) ?_
  refine z_newaI (mc := 9) (ms := 2094) (w := (stp w o 0 (10, 8))) (pc := 15) (N := 8) rfl (by decide +kernel) rfl (by decide) (by simp only [stp_len]; omega) (zVl_o (by simp only [stp_len]; omega)) ?_
  refine z_putRF (pc := 17) rfl fl_Street_15 (zN_at (stp_at h)) rfl (Or.inl (by rw [zN_len]; omega)) rfl (fun q hq => by cases hq; rfl) ?_
  refine z_aload_n (pc := 20) (i := 0) (j := 0) rfl rfl rfl ?_
  refine z_bipush (pc := 21) (v := 8) rfl (by decide) ?_
  refine z_newaI (mc := 8) (ms := 2086) (w := (stp (stp w o 0 (10, 8)) o 1 (10, 8))) (pc := 23) (N := 8) rfl (by decide +kernel) rfl (by decide) (by simp only [stp_len]; omega) (zVl_o (by simp only [stp_len]; omega)) ?_
  refine z_putRF (pc := 25) rfl fl_Street_18 (zN_at (stp_at (stp_at h))) rfl (Or.inl (by rw [zN_len]; omega)) rfl (fun q hq => by cases hq; rfl) ?_
  refine z_aload_n (pc := 28) (i := 0) (j := 0) rfl rfl rfl ?_
  refine z_bipush (pc := 29) (v := 8) rfl (by decide) ?_
  refine z_newaI (mc := 7) (ms := 2078) (w := (stp (stp (stp w o 0 (10, 8)) o 1 (10, 8)) o 2 (10, 8))) (pc := 31) (N := 8) rfl (by decide +kernel) rfl (by decide) (by simp only [stp_len]; omega) (zVl_o (by simp only [stp_len]; omega)) ?_
  refine z_putRF (pc := 33) rfl fl_Street_21 (zN_at (stp_at (stp_at (stp_at h)))) rfl (Or.inl (by rw [zN_len]; omega)) rfl (fun q hq => by cases hq; rfl) ?_
  refine z_aload_n (pc := 36) (i := 0) (j := 0) rfl rfl rfl ?_
  refine z_bipush (pc := 37) (v := 8) rfl (by decide) ?_
  refine z_newaJ (mc := 6) (ms := 2070) (w := (stp (stp (stp (stp w o 0 (10, 8)) o 1 (10, 8)) o 2 (10, 8)) o 3 (10, 8))) (pc := 39) (N := 8) rfl (by decide +kernel) rfl (by decide) (by simp only [stp_len]; omega) (zVl_o (by simp only [stp_len]; omega)) ?_
  refine z_putRF (pc := 41) rfl fl_Street_24 (zN_at (stp_at (stp_at (stp_at (stp_at h))))) rfl (Or.inl (by rw [zN_len]; omega)) rfl (fun q hq => by cases hq; rfl) ?_
  have l5 : (stp (stp (stp (stp (stp w o 0 (10, 8)) o 1 (10, 8)) o 2 (10, 8)) o 3 (10, 8)) o 4 (11, 8)).1.length = w.1.length + 5 := by simp only [stp_len]
  have h5 : (stp (stp (stp (stp (stp w o 0 (10, 8)) o 1 (10, 8)) o 2 (10, 8)) o 3 (10, 8)) o 4 (11, 8)).1[o]? = some (5, 12) := (stp_at (stp_at (stp_at (stp_at (stp_at h)))))
  change zS _ _ _ _ _ _ _ _ (stp (stp (stp (stp (stp w o 0 (10, 8)) o 1 (10, 8)) o 2 (10, 8)) o 3 (10, 8)) o 4 (11, 8))
  generalize (stp (stp (stp (stp (stp w o 0 (10, 8)) o 1 (10, 8)) o 2 (10, 8)) o 3 (10, 8)) o 4 (11, 8)) = w5 at l5 h5 hz ⊢
  refine z_aload_n (pc := 44) (i := 0) (j := 0) rfl rfl rfl ?_
  refine z_new (M := m_Street_init) (idx := 28) (mc := 5) (ms := 2067) (w := w5) (pc := 45) (c0 := 0) rfl rfl ⟨by decide +kernel, by decide +kernel, by decide +kernel⟩ (by omega) (zVl_o (o := o) (by omega)) ?_
  change zS _ _ _ _ _ _ _ _ (zN w5 (0, 3))
  refine z_dup (pc := 48) rfl rfl ?_
  refine z_cIN (pc := 49) (mc1 := 2) (ms1 := 1032) (mc2 := 3) (ms2 := 1035) (as := []) (rest := [.ref w5.1.length, .ref o]) (o := w5.1.length) rfl ok_Law_init rfl rfl cl_Street_30 (show 1 < d by omega) (Nat.le_of_ble_eq_true rfl) (Nat.le_of_ble_eq_true rfl) (Nat.le_refl _) (Nat.le_refl _) (c_Law_init (w := zN w5 (0, 3)) (o := w5.1.length) (by show (w5.1 ++ [(0, 3)])[w5.1.length]? = _; simp) (by rw [zN_len]; omega) 1 (by decide)) (fun r1 w1 hp => ?_) rfl rfl
  obtain ⟨rfl, hw1⟩ := hp
  rw [hw1]
  have hA : o < (zN w5 (0, 3)).1.length := by rw [zN_len]; omega
  have hB : w5.1.length < (zN w5 (0, 3)).1.length := by rw [zN_len]; omega
  refine ⟨⟨by rw [lawW_len]; omega, Or.inr ⟨fun p hp => ?_, fun v hv => ?_⟩⟩, ?_⟩
  · rw [List.mem_singleton] at hp; subst hp; intro x hx; cases hx; exact Or.inl hA
  · simp only [List.mem_cons, List.not_mem_nil, or_false] at hv; rcases hv with rfl | rfl <;> (intro x hx; cases hx; first | exact Or.inl hA | exact Or.inl hB)
  refine z_putRF (pc := 52) rfl fl_Street_31 (stp_at (w := stp (zN w5 (0, 3)) w5.1.length 0 (10, 1000)) (o := w5.1.length) (k := 1) (stp_at (zN_at h5))) rfl (Or.inl (by rw [lawW_len, zN_len]; omega)) rfl (fun q hq => by cases hq; rfl) ?_
  change zS _ _ _ _ _ _ _ _ (lwN w5 o 5)
  have l6 : (lwN w5 o 5).1.length = w.1.length + 8 := by rw [lwN_len, l5]
  have h6 : (lwN w5 o 5).1[o]? = some (5, 12) := lwN_at h5
  refine z_aload_n (pc := 55) (i := 0) (j := 0) rfl rfl rfl ?_
  refine z_new (M := m_Street_init) (idx := 28) (mc := 2) (ms := 1032) (w := (lwN w5 o 5)) (pc := 56) (c0 := 0) rfl rfl ⟨by decide +kernel, by decide +kernel, by decide +kernel⟩ (by omega) (zVl_o (o := o) (by omega)) ?_
  change zS _ _ _ _ _ _ _ _ (zN (lwN w5 o 5) (0, 3))
  refine z_dup (pc := 59) rfl rfl ?_
  refine z_cIN (pc := 60) (mc1 := 2) (ms1 := 1032) (mc2 := 0) (ms2 := 0) (as := []) (rest := [.ref (lwN w5 o 5).1.length, .ref o]) (o := (lwN w5 o 5).1.length) rfl ok_Law_init rfl rfl cl_Street_30 (show 1 < d by omega) (Nat.le_of_ble_eq_true rfl) (Nat.le_of_ble_eq_true rfl) (Nat.le_refl _) (Nat.le_refl _) (c_Law_init (w := zN (lwN w5 o 5) (0, 3)) (o := (lwN w5 o 5).1.length) (by show ((lwN w5 o 5).1 ++ [(0, 3)])[(lwN w5 o 5).1.length]? = _; simp) (by rw [zN_len]; omega) 1 (by decide)) (fun r1 w1 hp => ?_) rfl rfl
  obtain ⟨rfl, hw1⟩ := hp
  rw [hw1]
  have hA : o < (zN (lwN w5 o 5) (0, 3)).1.length := by rw [zN_len]; omega
  have hB : (lwN w5 o 5).1.length < (zN (lwN w5 o 5) (0, 3)).1.length := by rw [zN_len]; omega
  refine ⟨⟨by rw [lawW_len]; omega, Or.inr ⟨fun p hp => ?_, fun v hv => ?_⟩⟩, ?_⟩
  · rw [List.mem_singleton] at hp; subst hp; intro x hx; cases hx; exact Or.inl hA
  · simp only [List.mem_cons, List.not_mem_nil, or_false] at hv; rcases hv with rfl | rfl <;> (intro x hx; cases hx; first | exact Or.inl hA | exact Or.inl hB)
  refine z_putRF (pc := 63) rfl fl_Street_35 (stp_at (w := stp (zN (lwN w5 o 5) (0, 3)) (lwN w5 o 5).1.length 0 (10, 1000)) (o := (lwN w5 o 5).1.length) (k := 1) (stp_at (zN_at h6))) rfl (Or.inl (by rw [lawW_len, zN_len]; omega)) rfl (fun q hq => by cases hq; rfl) ?_
  refine z_aload_n (pc := 66) (i := 0) (j := 0) rfl rfl rfl ?_
  refine z_cV (pc := 67) (mc1 := 0) (ms1 := 0) (mc2 := 0) (ms2 := 0) (as := []) (rest := []) (o := o) rfl rfl hz.1 ok_Street_begin rfl rfl cl_Street_38 (show 2 < d by omega) (Nat.le_of_ble_eq_true rfl) (Nat.le_of_ble_eq_true rfl) (Nat.le_refl _) (Nat.le_refl _) (c_Street_begin (w := lwN (lwN w5 o 5) o 6) hz 2 (by decide)) (fun r1 w1 hp => ?_) rfl rfl
  obtain ⟨rfl, hw1⟩ := hp
  rw [hw1]
  refine ⟨⟨Nat.le_refl _, Or.inl rfl⟩, ?_⟩
  exact z_vret (pc := 70) rfl rfl ⟨rfl, rfl⟩
