/-! A NEW ROW OF AN OBJECT; NEW SMOKE -/
def stp (w : zW) (o k : Nat) (q : Nat × Nat) : zW := zsR (zN w q) o k (some w.1.length)
theorem stp_len (w : zW) (o k : Nat) (q : Nat × Nat) : (stp w o k q).1.length = w.1.length + 1 := zN_len w q
theorem stp_at {w : zW} {o k a : Nat} {q p : Nat × Nat} (h : w.1[a]? = some p) : (stp w o k q).1[a]? = some p := zN_at h
theorem stp_new (w : zW) (o k : Nat) (q : Nat × Nat) : (stp w o k q).1[w.1.length]? = some q := by
  show (w.1 ++ [q])[w.1.length]? = some q
  simp
theorem stp_r (w : zW) (o k : Nat) (q : Nat × Nat) : zR (stp w o k q) o k = some w.1.length := zR_hit _ _ _ _
theorem stp_ro {w : zW} {o k a b : Nat} {q : Nat × Nat} (h : ¬ (a = o ∧ b = k)) (ha : a < w.1.length) : zR (stp w o k q) a b = zR w a b := by
  show z2 (zR (zN w q)) o k _ a b = _
  unfold z2
  rw [if_neg h]
  show (if a = w.1.length then fun _ => none else zR w a) b = _
  rw [if_neg (by omega)]
theorem stp_i {w : zW} {o k a : Nat} {q : Nat × Nat} (ha : a < w.1.length) : zI (stp w o k q) a = zI w a := by
  show (if a = w.1.length then fun _ => 0 else zI w a) = _
  rw [if_neg (by omega)]
theorem stp_i0 (w : zW) (o k : Nat) (q : Nat × Nat) : zI (stp w o k q) w.1.length = fun _ => 0 := by
  show (if w.1.length = w.1.length then fun _ => 0 else zI w w.1.length) = _
  rw [if_pos rfl]
theorem stp_l {w : zW} {o k a : Nat} {q : Nat × Nat} (ha : a < w.1.length) : zL (stp w o k q) a = zL w a := by
  show (if a = w.1.length then fun _ => 0 else zL w a) = _
  rw [if_neg (by omega)]
def smokeW (w : zW) (o : Nat) : zW := (stp (stp (stp (stp w o 0 (10, 8)) o 1 (10, 8)) o 2 (10, 104)) o 3 (10, 144))
set_option maxRecDepth 100000 in
set_option maxHeartbeats 400000 in
theorem c_Smoke_init {w : zW} {o : Nat} (h : w.1[o]? = some (4, 4)) (hn : w.1.length + 4 < 1000000) (d : Nat) (hd : 1 ≤ d) : zS 4 264 d m_Smoke_init (fun rv w1 => rv = none ∧ w1 = smokeW w o) 0 [(0, .ref o)] [] w := by
  have ho : o < w.1.length := (List.getElem?_eq_some_iff.mp h).1
  refine z_aload_n (pc := 0) (i := 0) (j := 0) rfl rfl rfl ?_
  refine z_obj (pc := 1) rfl ol_Smoke_3 hd (Nat.le_of_ble_eq_true rfl) ?_
  refine z_aload_n (pc := 4) (i := 0) (j := 0) rfl rfl rfl ?_
  refine z_bipush (pc := 5) (v := 8) rfl (by decide) ?_
  refine z_newaI (mc := 3) (ms := 256) (w := w) (pc := 7) (N := 8) rfl (by decide +kernel) rfl (by decide) (by omega) (zVl_o (by omega)) ?_
  refine z_putRF (pc := 9) rfl fl_Smoke_9 (zN_at h) rfl (Or.inl (by rw [zN_len]; omega)) rfl (fun q hq => by cases hq; rfl) ?_
  refine z_aload_n (pc := 12) (i := 0) (j := 0) rfl rfl rfl ?_
  refine z_bipush (pc := 13) (v := 8) rfl (by decide) ?_
  refine z_newaI (mc := 2) (ms := 248) (w := (stp w o 0 (10, 8))) (pc := 15) (N := 8) rfl (by decide +kernel) rfl (by decide) (by simp only [stp_len]; omega) (zVl_o (by simp only [stp_len]; omega)) ?_
  refine z_putRF (pc := 17) rfl fl_Smoke_15 (zN_at (stp_at h)) rfl (Or.inl (by rw [zN_len]; omega)) rfl (fun q hq => by cases hq; rfl) ?_
  refine z_aload_n (pc := 20) (i := 0) (j := 0) rfl rfl rfl ?_
  refine z_bipush (pc := 21) (v := 104) rfl (by decide) ?_
  refine z_newaI (mc := 1) (ms := 144) (w := (stp (stp w o 0 (10, 8)) o 1 (10, 8))) (pc := 23) (N := 104) rfl (by decide +kernel) rfl (by decide) (by simp only [stp_len]; omega) (zVl_o (by simp only [stp_len]; omega)) ?_
  refine z_putRF (pc := 25) rfl fl_Smoke_18 (zN_at (stp_at (stp_at h))) rfl (Or.inl (by rw [zN_len]; omega)) rfl (fun q hq => by cases hq; rfl) ?_
  refine z_aload_n (pc := 28) (i := 0) (j := 0) rfl rfl rfl ?_
  refine z_sipush (pc := 29) (v := 144) rfl (by decide) ?_
  refine z_newaI (mc := 0) (ms := 0) (w := (stp (stp (stp w o 0 (10, 8)) o 1 (10, 8)) o 2 (10, 104))) (pc := 32) (N := 144) rfl (by decide +kernel) rfl (by decide) (by simp only [stp_len]; omega) (zVl_o (by simp only [stp_len]; omega)) ?_
  refine z_putRF (pc := 34) rfl fl_Smoke_21 (zN_at (stp_at (stp_at (stp_at h)))) rfl (Or.inl (by rw [zN_len]; omega)) rfl (fun q hq => by cases hq; rfl) ?_
  exact z_vret (pc := 37) rfl rfl ⟨rfl, rfl⟩
