/-! THE OBJECT'S SOOT: an answer, or the place of the throw -/
def m_SW_sootx : zM := (zM.y m_SW_soot, zM.cc m_SW_soot, 4, (some .int), zM.f m_SW_soot, some (5025, fun _ => 0))
set_option maxRecDepth 100000 in
set_option maxHeartbeats 4000000 in
theorem c_SW_sootx {w : zW} {s C R H : Nat} {F G : Int32 → Int32 → Int32 → Int32} (hx : zX w s) (hi : zXi (zI w) s C R H F G) (x y b : Int32) (d : Nat) (hd : 3 ≤ d) : zS 0 0 d m_SW_sootx (fun rv w1 => (∃ v, sootV (zI w) C R H x y b = some v ∧ rv = some (.int v) ∧ w1 = w) ∨ (sootV (zI w) C R H x y b = none ∧ rv = none ∧ w1 = w)) 0 [(0, .ref 0), (1, .int x), (2, .int y), (3, .int b)] [] w := by
  refine z_aload_n (pc := 0) (i := 0) (j := 0) rfl rfl rfl ?_
  refine z_getR (pc := 1) (x := s) rfl fl_SW_48 hx.1 rfl hx.2.2.2.2.2.2.2.1 ?_
  refine z_iload_n (pc := 4) (i := 1) (j := 1) rfl rfl rfl ?_
  refine z_iload_n (pc := 5) (i := 2) (j := 2) rfl rfl rfl ?_
  refine z_cV (pc := 6) (mc1 := 0) (ms1 := 0) (mc2 := 0) (ms2 := 0) (as := [.int x, .int y]) (rest := []) (o := s) rfl rfl hx.2.2.2.2.2.2.2.2.2.2.2.2.2.2.2.1.1 ok_Street_hasCell rfl rfl cl_SW_123 (by omega) (Nat.le_of_ble_eq_true rfl) (Nat.le_of_ble_eq_true rfl) (Nat.le_refl _) (Nat.le_refl _) (c_Street_hasCell (w := w) (hx.2.2.2.2.2.2.2.2.2.2.2.2.2.2.2.1) x y 0) (fun r1 w1 hp => ?_) rfl rfl
  obtain ⟨rfl, hw1⟩ := hp
  rw [hw1, hi.1, hi.2.1, cell_has hi.2.2.2.1 hi.2.2.2.2.1]
  refine ⟨⟨Nat.le_refl _, Or.inl rfl⟩, ?_⟩
  refine z_if_eq (pc := 9) (tgt := 25) rfl (by decide) (fun h9 => ?_) (fun h9 => ?_)
  · exact z_exit rfl (by decide) rfl (Or.inr ⟨by unfold sootV; rw [Option.not_isSome_iff_eq_none.mp (ite_eq h9)], rfl, rfl⟩)
  · obtain ⟨p, hp9⟩ := Option.isSome_iff_exists.mp (ite_ne h9)
    have hcy := cell_in hi.2.2.2.1 hi.2.2.2.2.1 hp9
    refine z_iload_n (pc := 12) (i := 3) (j := 3) rfl rfl rfl ?_
    refine z_iconst (pc := 13) (v := (-1)) rfl (by decide) ?_
    refine z_icmp_eq (pc := 14) (tgt := 33) rfl (by decide) (fun h14 => ?_) (fun h14 => ?_)
    · refine z_iload_n (pc := 33) (i := 3) (j := 3) rfl rfl rfl ?_
      refine z_iconst (pc := 34) (v := (-1)) rfl (by decide) ?_
      refine z_icmp_ne (pc := 35) (tgt := 50) rfl (by decide) (fun h35 => ?_) (fun h35 => ?_)
      · exact absurd h14 h35
      · refine z_aload_n (pc := 38) (i := 0) (j := 0) rfl rfl rfl ?_
        refine z_getR (pc := 39) (x := 21) rfl fl_SW_31 hx.1 rfl hx.2.2.2.2.1 ?_
        refine z_iload_n (pc := 42) (i := 1) (j := 1) rfl rfl rfl ?_
        refine z_iload_n (pc := 43) (i := 2) (j := 2) rfl rfl rfl ?_
        refine z_cV (pc := 44) (mc1 := 0) (ms1 := 0) (mc2 := 0) (ms2 := 0) (as := [.int x, .int y]) (rest := []) (o := 21) rfl rfl hx.2.2.2.2.2.2.2.2.2.2.2.2.1.1 ok_Life_drift rfl rfl cl_SW_158 (by omega) (Nat.le_of_ble_eq_true rfl) (Nat.le_of_ble_eq_true rfl) (Nat.le_refl _) (Nat.le_refl _) (c_Life_drift (w := w) (l := 21) (hx.2.2.2.2.2.2.2.2.2.2.2.2.1) hcy.2.1 hcy.1 2 (by decide)) (fun r1 w1 hp => ?_) rfl rfl
        obtain ⟨rfl, hw1⟩ := hp
        rw [hw1]
        refine ⟨⟨Nat.le_refl _, Or.inl rfl⟩, ?_⟩
        refine z_goto (pc := 47) (tgt := 64) rfl (by decide) ?_
        exact z_iret (pc := 64) rfl rfl (Or.inl ⟨_, by unfold sootV; rw [hp9]; show (if _ then _ else if _ then _ else _) = _; rw [if_pos h14], rfl, rfl⟩)
    · refine z_aload_n (pc := 17) (i := 0) (j := 0) rfl rfl rfl ?_
      refine z_iload_n (pc := 18) (i := 3) (j := 3) rfl rfl rfl ?_
      refine z_cV (pc := 19) (mc1 := 0) (ms1 := 0) (mc2 := 0) (ms2 := 0) (as := [.int b]) (rest := []) (o := 0) rfl rfl hx.1 ok_SW_isHouse rfl rfl cl_SW_72 (by omega) (Nat.le_of_ble_eq_true rfl) (Nat.le_of_ble_eq_true rfl) (Nat.le_refl _) (Nat.le_refl _) (c_SW_isHouse (w := w) hx hi.2.2.1 hi.2.2.2.2.2.1 b 0) (fun r1 w1 hp => ?_) rfl rfl
      obtain ⟨rfl, hw1⟩ := hp
      rw [hw1]
      refine ⟨⟨Nat.le_refl _, Or.inl rfl⟩, ?_⟩
      refine z_if_ne (pc := 22) (tgt := 33) rfl (by decide) (fun h22 => ?_) (fun h22 => ?_)
      · obtain ⟨j, hj, rfl⟩ := hOK_of hi.2.2.2.2.2.1 (ite_ne h22)
        have hj8 : j < 8 := Nat.lt_of_lt_of_le hj hi.2.2.2.2.2.1
        refine z_iload_n (pc := 33) (i := 3) (j := 3) rfl rfl rfl ?_
        refine z_iconst (pc := 34) (v := (-1)) rfl (by decide) ?_
        refine z_icmp_ne (pc := 35) (tgt := 50) rfl (by decide) (fun h35 => ?_) (fun h35 => ?_)
        · refine z_aload_n (pc := 50) (i := 0) (j := 0) rfl rfl rfl ?_
          refine z_getR (pc := 51) (x := 21) rfl fl_SW_31 hx.1 rfl hx.2.2.2.2.1 ?_
          refine z_getR (pc := 54) (x := 26) rfl fl_SW_161 hx.2.2.2.2.2.2.2.2.2.2.2.2.1.1 rfl hx.2.2.2.2.2.2.2.2.2.2.2.2.1.2.2.2.2.2.2.2.2.2.2.2.2.2.1 ?_
          refine z_iload_n (pc := 57) (i := 3) (j := 3) rfl rfl rfl ?_
          refine z_iload_n (pc := 58) (i := 1) (j := 1) rfl rfl rfl ?_
          refine z_iload_n (pc := 59) (i := 2) (j := 2) rfl rfl rfl ?_
          refine z_cS (pc := 60) (mc1 := 0) (ms1 := 0) (mc2 := 0) (ms2 := 0) (as := [.int (nI j), .int x, .int y]) (rest := [.ref 26]) ok_SW_sootPlace rfl rfl cl_SW_164 (by omega) (Nat.le_of_ble_eq_true rfl) (Nat.le_of_ble_eq_true rfl) (Nat.le_refl _) (Nat.le_refl _) (c_SW_sootPlace (nI j) x y 1 (by decide) _) (fun r1 w1 hp => ?_) rfl rfl
          obtain ⟨rfl, hw1⟩ := hp
          rw [hw1, hcy.2.1, show nI j * 144 + nI p = nI (144 * j + p) from by rw [show (144 : Int32) = nI 144 from rfl, pk_mul, nI_add, Nat.mul_comm]]
          refine ⟨⟨Nat.le_refl _, Or.inl rfl⟩, ?_⟩
          refine z_iald (pc := 63) rfl hx.2.2.2.2.2.2.2.2.2.2.2.2.1.2.2.2.2.2.1 (vp_in_nI (n := 144 * j + p) (N := 1152) (by have hpp : p < 144 := hcy.1; omega) (by decide)) ?_
          refine z_eqi (y := zI w 26 (144 * j + p)) (by rw [nI_clamp (by have hpp : p < 144 := hcy.1; omega)]) ?_
          exact z_iret (pc := 64) rfl rfl ((Or.inl ⟨_, by unfold sootV; rw [hp9]; show (if _ then _ else if _ then _ else _) = _; rw [if_neg h14, if_pos (ite_ne h22), nI_clamp (n := j) (by omega)], rfl, rfl⟩))
        · exact absurd h35 h14
      · exact z_exit rfl (by decide) rfl (Or.inr ⟨by unfold sootV; rw [hp9]; show (if _ then _ else if _ then _ else _) = _; rw [if_neg h14, if_neg (ite_eq h22)], rfl, rfl⟩)
