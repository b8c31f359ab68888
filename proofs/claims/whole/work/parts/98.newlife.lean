/-! NEW LIFE -/
theorem stp_nE {w : zW} {o k m : Nat} {q : Nat × Nat} (hm : m = w.1.length) : (stp w o k q).1[m]? = some q := by rw [hm]; exact stp_new w o k q
theorem stp_rE {w : zW} {o k m : Nat} {q : Nat × Nat} (hm : m = w.1.length) : zR (stp w o k q) o k = some m := by rw [hm]; exact stp_r w o k q
def lifeW (w : zW) (o : Nat) : zW := (stp (stp (stp (stp (stp (stp (stp (stp w o 0 (10, 8)) o 1 (10, 64)) o 2 (10, 64)) o 3 (10, 8)) o 4 (10, 1152)) o 5 (10, 10)) o 6 (10, 10)) o 7 (10, 10))
set_option maxRecDepth 100000 in
set_option maxHeartbeats 400000 in
theorem lifeW_z {w : zW} {o : Nat} (h : w.1[o]? = some (1, 13)) (ho : o + 1 = w.1.length) : zLf (lifeW w o) o := by
  unfold lifeW
  exact ⟨(stp_at (stp_at (stp_at (stp_at (stp_at (stp_at (stp_at (stp_at h)))))))), (stp_at (stp_at (stp_at (stp_at (stp_at (stp_at (stp_at (stp_nE (by omega))))))))), (stp_at (stp_at (stp_at (stp_at (stp_at (stp_at (stp_nE (by simp only [stp_len]; omega)))))))), (stp_at (stp_at (stp_at (stp_at (stp_at (stp_nE (by simp only [stp_len]; omega))))))), (stp_at (stp_at (stp_at (stp_at (stp_nE (by simp only [stp_len]; omega)))))), (stp_at (stp_at (stp_at (stp_nE (by simp only [stp_len]; omega))))), (stp_at (stp_at (stp_nE (by simp only [stp_len]; omega)))), (stp_at (stp_nE (by simp only [stp_len]; omega))), (stp_nE (by simp only [stp_len]; omega)), ((stp_ro (by omega) (by simp only [stp_len]; omega)).trans ((stp_ro (by omega) (by simp only [stp_len]; omega)).trans ((stp_ro (by omega) (by simp only [stp_len]; omega)).trans ((stp_ro (by omega) (by simp only [stp_len]; omega)).trans ((stp_ro (by omega) (by simp only [stp_len]; omega)).trans ((stp_ro (by omega) (by simp only [stp_len]; omega)).trans ((stp_ro (by omega) (by simp only [stp_len]; omega)).trans (stp_rE (by omega))))))))), ((stp_ro (by omega) (by simp only [stp_len]; omega)).trans ((stp_ro (by omega) (by simp only [stp_len]; omega)).trans ((stp_ro (by omega) (by simp only [stp_len]; omega)).trans ((stp_ro (by omega) (by simp only [stp_len]; omega)).trans ((stp_ro (by omega) (by simp only [stp_len]; omega)).trans ((stp_ro (by omega) (by simp only [stp_len]; omega)).trans (stp_rE (by simp only [stp_len]; omega)))))))), ((stp_ro (by omega) (by simp only [stp_len]; omega)).trans ((stp_ro (by omega) (by simp only [stp_len]; omega)).trans ((stp_ro (by omega) (by simp only [stp_len]; omega)).trans ((stp_ro (by omega) (by simp only [stp_len]; omega)).trans ((stp_ro (by omega) (by simp only [stp_len]; omega)).trans (stp_rE (by simp only [stp_len]; omega))))))), ((stp_ro (by omega) (by simp only [stp_len]; omega)).trans ((stp_ro (by omega) (by simp only [stp_len]; omega)).trans ((stp_ro (by omega) (by simp only [stp_len]; omega)).trans ((stp_ro (by omega) (by simp only [stp_len]; omega)).trans (stp_rE (by simp only [stp_len]; omega)))))), ((stp_ro (by omega) (by simp only [stp_len]; omega)).trans ((stp_ro (by omega) (by simp only [stp_len]; omega)).trans ((stp_ro (by omega) (by simp only [stp_len]; omega)).trans (stp_rE (by simp only [stp_len]; omega))))), ((stp_ro (by omega) (by simp only [stp_len]; omega)).trans ((stp_ro (by omega) (by simp only [stp_len]; omega)).trans (stp_rE (by simp only [stp_len]; omega)))), ((stp_ro (by omega) (by simp only [stp_len]; omega)).trans (stp_rE (by simp only [stp_len]; omega))), (stp_rE (by simp only [stp_len]; omega))⟩
set_option maxRecDepth 100000 in
set_option maxHeartbeats 400000 in
theorem c_Life_init {w : zW} {o : Nat} (h : w.1[o]? = some (1, 13)) (hl : o + 1 = w.1.length) (hn : w.1.length + 8 < 1000000) (d : Nat) (hd : 2 ≤ d) : zS 8 1326 d m_Life_init (fun rv w1 => rv = none ∧ w1 = zuI (lifeW w o) (lifeB (zI (lifeW w o)) o)) 0 [(0, .ref o)] [] w := by
  have ho : o < w.1.length := (List.getElem?_eq_some_iff.mp h).1
  have hz := lifeW_z h hl
  refine z_aload_n (pc := 0) (i := 0) (j := 0) rfl rfl rfl ?_
  refine z_obj (pc := 1) rfl ol_Life_3 (by omega) (Nat.le_of_ble_eq_true rfl) ?_
  refine z_aload_n (pc := 4) (i := 0) (j := 0) rfl rfl rfl ?_
  refine z_bipush (pc := 5) (v := 8) rfl (by decide) ?_
  refine z_newaI (mc := 7) (ms := 1318) (w := w) (pc := 7) (N := 8) rfl (by decide +kernel) rfl (by decide) (by omega) (zVl_o (by omega)) ?_
  refine z_putRF (pc := 9) rfl fl_Life_9 (zN_at h) rfl (Or.inl (by rw [zN_len]; omega)) rfl (fun q hq => by cases hq; rfl) ?_
  refine z_aload_n (pc := 12) (i := 0) (j := 0) rfl rfl rfl ?_
  refine z_bipush (pc := 13) (v := 64) rfl (by decide) ?_
  refine z_newaI (mc := 6) (ms := 1254) (w := (stp w o 0 (10, 8))) (pc := 15) (N := 64) rfl (by decide +kernel) rfl (by decide) (by simp only [stp_len]; omega) (zVl_o (by simp only [stp_len]; omega)) ?_
  refine z_putRF (pc := 17) rfl fl_Life_15 (zN_at (stp_at h)) rfl (Or.inl (by rw [zN_len]; omega)) rfl (fun q hq => by cases hq; rfl) ?_
  refine z_aload_n (pc := 20) (i := 0) (j := 0) rfl rfl rfl ?_
  refine z_bipush (pc := 21) (v := 64) rfl (by decide) ?_
  refine z_newaI (mc := 5) (ms := 1190) (w := (stp (stp w o 0 (10, 8)) o 1 (10, 64))) (pc := 23) (N := 64) rfl (by decide +kernel) rfl (by decide) (by simp only [stp_len]; omega) (zVl_o (by simp only [stp_len]; omega)) ?_
  refine z_putRF (pc := 25) rfl fl_Life_18 (zN_at (stp_at (stp_at h))) rfl (Or.inl (by rw [zN_len]; omega)) rfl (fun q hq => by cases hq; rfl) ?_
  refine z_aload_n (pc := 28) (i := 0) (j := 0) rfl rfl rfl ?_
  refine z_bipush (pc := 29) (v := 8) rfl (by decide) ?_
  refine z_newaI (mc := 4) (ms := 1182) (w := (stp (stp (stp w o 0 (10, 8)) o 1 (10, 64)) o 2 (10, 64))) (pc := 31) (N := 8) rfl (by decide +kernel) rfl (by decide) (by simp only [stp_len]; omega) (zVl_o (by simp only [stp_len]; omega)) ?_
  refine z_putRF (pc := 33) rfl fl_Life_21 (zN_at (stp_at (stp_at (stp_at h)))) rfl (Or.inl (by rw [zN_len]; omega)) rfl (fun q hq => by cases hq; rfl) ?_
  refine z_aload_n (pc := 36) (i := 0) (j := 0) rfl rfl rfl ?_
  refine z_sipush (pc := 37) (v := 1152) rfl (by decide) ?_
  refine z_newaI (mc := 3) (ms := 30) (w := (stp (stp (stp (stp w o 0 (10, 8)) o 1 (10, 64)) o 2 (10, 64)) o 3 (10, 8))) (pc := 40) (N := 1152) rfl (by decide +kernel) rfl (by decide) (by simp only [stp_len]; omega) (zVl_o (by simp only [stp_len]; omega)) ?_
  refine z_putRF (pc := 42) rfl fl_Life_24 (zN_at (stp_at (stp_at (stp_at (stp_at h))))) rfl (Or.inl (by rw [zN_len]; omega)) rfl (fun q hq => by cases hq; rfl) ?_
  refine z_aload_n (pc := 45) (i := 0) (j := 0) rfl rfl rfl ?_
  refine z_bipush (pc := 46) (v := 10) rfl (by decide) ?_
  refine z_newaI (mc := 2) (ms := 20) (w := (stp (stp (stp (stp (stp w o 0 (10, 8)) o 1 (10, 64)) o 2 (10, 64)) o 3 (10, 8)) o 4 (10, 1152))) (pc := 48) (N := 10) rfl (by decide +kernel) rfl (by decide) (by simp only [stp_len]; omega) (zVl_o (by simp only [stp_len]; omega)) ?_
  refine z_putRF (pc := 50) rfl fl_Life_27 (zN_at (stp_at (stp_at (stp_at (stp_at (stp_at h)))))) rfl (Or.inl (by rw [zN_len]; omega)) rfl (fun q hq => by cases hq; rfl) ?_
  refine z_aload_n (pc := 53) (i := 0) (j := 0) rfl rfl rfl ?_
  refine z_bipush (pc := 54) (v := 10) rfl (by decide) ?_
  refine z_newaI (mc := 1) (ms := 10) (w := (stp (stp (stp (stp (stp (stp w o 0 (10, 8)) o 1 (10, 64)) o 2 (10, 64)) o 3 (10, 8)) o 4 (10, 1152)) o 5 (10, 10))) (pc := 56) (N := 10) rfl (by decide +kernel) rfl (by decide) (by simp only [stp_len]; omega) (zVl_o (by simp only [stp_len]; omega)) ?_
  refine z_putRF (pc := 58) rfl fl_Life_30 (zN_at (stp_at (stp_at (stp_at (stp_at (stp_at (stp_at h))))))) rfl (Or.inl (by rw [zN_len]; omega)) rfl (fun q hq => by cases hq; rfl) ?_
  refine z_aload_n (pc := 61) (i := 0) (j := 0) rfl rfl rfl ?_
  refine z_bipush (pc := 62) (v := 10) rfl (by decide) ?_
  refine z_newaI (mc := 0) (ms := 0) (w := (stp (stp (stp (stp (stp (stp (stp w o 0 (10, 8)) o 1 (10, 64)) o 2 (10, 64)) o 3 (10, 8)) o 4 (10, 1152)) o 5 (10, 10)) o 6 (10, 10))) (pc := 64) (N := 10) rfl (by decide +kernel) rfl (by decide) (by simp only [stp_len]; omega) (zVl_o (by simp only [stp_len]; omega)) ?_
  refine z_putRF (pc := 66) rfl fl_Life_33 (zN_at (stp_at (stp_at (stp_at (stp_at (stp_at (stp_at (stp_at h)))))))) rfl (Or.inl (by rw [zN_len]; omega)) rfl (fun q hq => by cases hq; rfl) ?_
  refine z_aload_n (pc := 69) (i := 0) (j := 0) rfl rfl rfl ?_
  refine z_cV (pc := 70) (mc1 := 0) (ms1 := 0) (mc2 := 0) (ms2 := 0) (as := []) (rest := []) (o := o) rfl rfl hz.1 ok_Life_begin rfl rfl cl_Life_36 (by omega) (Nat.le_of_ble_eq_true rfl) (Nat.le_of_ble_eq_true rfl) (Nat.le_refl _) (Nat.le_refl _) (c_Life_begin (w := lifeW w o) hz 1 (by decide)) (fun r1 w1 hp => ?_) rfl rfl
  obtain ⟨rfl, hw1⟩ := hp
  rw [hw1]
  refine ⟨⟨Nat.le_refl _, Or.inl rfl⟩, ?_⟩
  exact z_vret (pc := 73) rfl rfl ⟨rfl, rfl⟩
