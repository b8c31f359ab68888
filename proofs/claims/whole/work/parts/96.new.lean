/-! NEW LAWS AND TAPES -/
theorem zN_len (w : zW) (q : Nat × Nat) : (zN w q).1.length = w.1.length + 1 := by simp [zN]
theorem zN_at {w : zW} {q p : Nat × Nat} {o : Nat} (h : w.1[o]? = some p) : (zN w q).1[o]? = some p := by
  have hl : o < w.1.length := (List.getElem?_eq_some_iff.mp h).1
  show (w.1 ++ [q])[o]? = some p
  rw [List.getElem?_append_left hl]
  exact h
theorem zVl_o {w : zW} {q : Nat × Nat} {o : Nat} (ho : o < w.1.length) : zVl w (zN w q) [(0, .ref o)] [.ref o] := by
  refine Or.inr ⟨fun p hp => ?_, fun v hv => ?_⟩
  · rw [List.mem_singleton] at hp; subst hp; intro x hx; cases hx; exact Or.inl ho
  · rw [List.mem_singleton] at hv; subst hv; intro x hx; cases hx; exact Or.inl ho
def lawW (w : zW) (o : Nat) : zW := zsR (zN (zsR (zN w (10, 1000)) o 0 (some w.1.length)) (10, 32)) o 1 (some (zsR (zN w (10, 1000)) o 0 (some w.1.length)).1.length)
def tapeW (w : zW) (o : Nat) : zW := zsR (zN w (9, 1000)) o 0 (some w.1.length)
set_option maxRecDepth 100000 in
set_option maxHeartbeats 400000 in
theorem c_Law_init {w : zW} {o : Nat} (h : w.1[o]? = some (0, 3)) (hn : w.1.length + 1 < 1000000) (d : Nat) (hd : 1 ≤ d) : zS 2 1032 d m_Law_init (fun rv w1 => rv = none ∧ w1 = lawW w o) 0 [(0, .ref o)] [] w := by
  have ho : o < w.1.length := (List.getElem?_eq_some_iff.mp h).1
  refine z_aload_n (pc := 0) (i := 0) (j := 0) rfl rfl rfl ?_
  refine z_obj (pc := 1) rfl ol_Law_3 hd (Nat.le_of_ble_eq_true rfl) ?_
  refine z_aload_n (pc := 4) (i := 0) (j := 0) rfl rfl rfl ?_
  refine z_sipush (pc := 5) (v := 1000) rfl (by decide) ?_
  refine z_newaI (mc := 1) (ms := 32) (pc := 8) (N := 1000) rfl (by decide +kernel) rfl (by decide) (by omega) (zVl_o ho) ?_
  refine z_putRF (pc := 10) rfl fl_Law_9 (zN_at h) rfl (Or.inl (by rw [zN_len]; omega)) rfl (fun q hq => by cases hq; rfl) ?_
  refine z_aload_n (pc := 13) (i := 0) (j := 0) rfl rfl rfl ?_
  refine z_bipush (pc := 14) (v := 32) rfl (by decide) ?_
  refine z_newaI (mc := 0) (ms := 0) (pc := 16) (N := 32) rfl (by decide +kernel) rfl (by decide) (by show (zN w (10, 1000)).1.length < 1000000; rw [zN_len]; omega) (zVl_o (by show o < (zN w (10, 1000)).1.length; rw [zN_len]; omega)) ?_
  refine z_putRF (pc := 18) rfl fl_Law_15 (zN_at (w := zsR (zN w (10, 1000)) o 0 (some w.1.length)) (zN_at h)) rfl (Or.inl (by rw [zN_len]; omega)) rfl (fun q hq => by cases hq; rfl) ?_
  exact z_vret (pc := 21) rfl rfl ⟨rfl, rfl⟩
set_option maxRecDepth 100000 in
set_option maxHeartbeats 400000 in
theorem c_Tape_init {w : zW} {o : Nat} (h : w.1[o]? = some (6, 2)) (hn : w.1.length < 1000000) (d : Nat) (hd : 1 ≤ d) : zS 1 1000 d m_Tape_init (fun rv w1 => rv = none ∧ w1 = tapeW w o) 0 [(0, .ref o)] [] w := by
  have ho : o < w.1.length := (List.getElem?_eq_some_iff.mp h).1
  refine z_aload_n (pc := 0) (i := 0) (j := 0) rfl rfl rfl ?_
  refine z_obj (pc := 1) rfl ol_Tape_3 hd (Nat.le_of_ble_eq_true rfl) ?_
  refine z_aload_n (pc := 4) (i := 0) (j := 0) rfl rfl rfl ?_
  refine z_sipush (pc := 5) (v := 1000) rfl (by decide) ?_
  refine z_newaB (mc := 0) (ms := 0) (pc := 8) (N := 1000) rfl (by decide +kernel) rfl (by decide) hn (zVl_o ho) ?_
  refine z_putRF (pc := 10) rfl fl_Tape_9 (zN_at h) rfl (Or.inl (by rw [zN_len]; omega)) rfl (fun q hq => by cases hq; rfl) ?_
  exact z_vret (pc := 13) rfl rfl ⟨rfl, rfl⟩
theorem c_Mod_thrown {w : zW} (hm : zMo w) (d : Nat) : zS 0 0 d m_Mod_thrown (fun rv w1 => rv = some (.int (zI w 44 0)) ∧ w1 = w) 0 [(0, .ref 44)] [] w := by
  refine z_aload_n (pc := 0) (i := 0) (j := 0) rfl rfl rfl ?_
  refine z_getI (pc := 1) rfl fl_Mod_100 hm.1 rfl ?_
  exact z_iret (pc := 4) rfl rfl ⟨rfl, rfl⟩
