/-! SUMS OVER ROWS -/
def rsum (g : Nat → Int32) : Nat → Int32
  | 0 => 0
  | n + 1 => rsum g n + g n
set_option maxRecDepth 100000 in
set_option maxHeartbeats 4000000 in
theorem l_SW_sum {w : zW} {o N : Nat} (h1 : w.1[o]? = some (10, N)) (hN : N ≤ 10000) (d : Nat) : ∀ (m i : Nat), i ≤ N → N ≤ i + m → zS 0 0 d m_SW_sum (fun rv w1 => rv = some (.int (rsum (zI w o) N)) ∧ w1 = w) 10 [(0, .ref o), (1, .int (rsum (zI w o) i)), (2, .ref o), (3, .int (nI N)), (4, .int (nI i))] [] w := by
  have hex : zS 0 0 d m_SW_sum (fun rv w1 => rv = some (.int (rsum (zI w o) N)) ∧ w1 = w) 10 [(0, .ref o), (1, .int (rsum (zI w o) N)), (2, .ref o), (3, .int (nI N)), (4, .int (nI N))] [] w := by
    refine z_iload (pc := 10) (i := 4) (j := 4) rfl rfl ?_
    refine z_iload_n (pc := 12) (i := 3) (j := 3) rfl rfl rfl ?_
    refine z_icmp_ge (pc := 13) (tgt := 33) rfl (by decide) (fun h13 => ?_) (fun h13 => ?_)
    · refine z_iload_n (pc := 33) (i := 1) (j := 1) rfl rfl rfl ?_
      exact z_iret (pc := 34) rfl rfl ⟨rfl, rfl⟩
    · exact absurd (Int32.le_refl _) h13
  intro m
  induction m with
  | zero =>
    intro i hi hm
    obtain rfl : i = N := by omega
    exact hex
  | succ m ih =>
    intro i hi hm
    by_cases hlt : i < N
    · have kk := ih (i + 1) (by omega) (by omega)
      refine z_iload (pc := 10) (i := 4) (j := 4) rfl rfl ?_
      refine z_iload_n (pc := 12) (i := 3) (j := 3) rfl rfl rfl ?_
      refine z_icmp_ge (pc := 13) (tgt := 33) rfl (by decide) (fun h13 => ?_) (fun h13 => ?_)
      · exact absurd h13 (nI_ge (b := N) hlt (by omega))
      · refine z_aload_n (pc := 16) (i := 2) (j := 2) rfl rfl rfl ?_
        refine z_iload (pc := 17) (i := 4) (j := 4) rfl rfl ?_
        refine z_iald (pc := 19) rfl h1 (vp_in_nI hlt (by omega)) ?_
        refine z_eqi (y := zI w o i) (by rw [nI_clamp (by omega)]) ?_
        refine z_istore (pc := 20) (i := 5) (ls' := [(0, .ref o), (1, .int (rsum (zI w o) i)), (2, .ref o), (3, .int (nI N)), (4, .int (nI i)), (5, .int (zI w o i))]) rfl (by decide) rfl ?_
        refine z_iload_n (pc := 22) (i := 1) (j := 1) rfl rfl rfl ?_
        refine z_iload (pc := 23) (i := 5) (j := 5) rfl rfl ?_
        refine z_iadd (pc := 25) rfl ?_
        refine z_istore_n (pc := 26) (i := 1) (ls' := [(0, .ref o), (1, .int ((rsum (zI w o) i) + (zI w o i))), (2, .ref o), (3, .int (nI N)), (4, .int (nI i)), (5, .int (zI w o i))]) rfl rfl (by decide) rfl ?_
        refine z_iinc (pc := 27) (i := 4) (j := 4) (v := nI (i + 1)) (ls' := [(0, .ref o), (1, .int ((rsum (zI w o) i) + (zI w o i))), (2, .ref o), (3, .int (nI N)), (4, .int (nI (i + 1))), (5, .int (zI w o i))]) rfl rfl (nI_1 i) (by decide) rfl ?_
        refine z_goto (pc := 30) (tgt := 10) rfl (by decide) ?_
        refine z_drop (ls' := [(0, .ref o), (1, .int (rsum (zI w o) (i + 1))), (2, .ref o), (3, .int (nI N)), (4, .int (nI (i + 1)))]) (by simp [rsum]) kk
    · obtain rfl : i = N := by omega
      exact hex
set_option maxRecDepth 100000 in
set_option maxHeartbeats 4000000 in
theorem c_SW_sum {w : zW} {o N : Nat} (h1 : w.1[o]? = some (10, N)) (hN : N ≤ 10000) (d : Nat) : zS 0 0 d m_SW_sum (fun rv w1 => rv = some (.int (rsum (zI w o) N)) ∧ w1 = w) 0 [(0, .ref o)] [] w := by
  refine z_iconst (pc := 0) (v := 0) rfl (by decide) ?_
  refine z_istore_n (pc := 1) (i := 1) (ls' := [(0, .ref o), (1, .int 0)]) rfl rfl (by decide) rfl ?_
  refine z_aload_n (pc := 2) (i := 0) (j := 0) rfl rfl rfl ?_
  refine z_astore_n (pc := 3) (i := 2) (ls' := [(0, .ref o), (1, .int 0), (2, .ref o)]) rfl rfl (by decide) rfl ?_
  refine z_aload_n (pc := 4) (i := 2) (j := 2) rfl rfl rfl ?_
  refine z_alen (pc := 5) (v := nI N) rfl h1 (by decide) rfl ?_
  refine z_istore_n (pc := 6) (i := 3) (ls' := [(0, .ref o), (1, .int 0), (2, .ref o), (3, .int (nI N))]) rfl rfl (by decide) rfl ?_
  refine z_iconst (pc := 7) (v := nI 0) rfl rfl ?_
  refine z_istore (pc := 8) (i := 4) (ls' := [(0, .ref o), (1, .int 0), (2, .ref o), (3, .int (nI N)), (4, .int (nI 0))]) rfl (by decide) rfl ?_
  exact l_SW_sum h1 hN d N 0 (by omega) (by omega)
set_option maxRecDepth 100000 in
set_option maxHeartbeats 4000000 in
theorem l_SW_pairsIn {w : zW} {o N : Nat} (h1 : w.1[o]? = some (10, N)) (hN : N ≤ 10000) (d : Nat) (hd : 1 ≤ d) : ∀ (m i : Nat), i ≤ N → N ≤ i + m → zS 0 0 d m_SW_pairsIn (fun rv w1 => rv = some (.int (rsum (fun k => bitc (zI w o k)) N / 2)) ∧ w1 = w) 10 [(0, .ref o), (1, .int (rsum (fun k => bitc (zI w o k)) i)), (2, .ref o), (3, .int (nI N)), (4, .int (nI i))] [] w := by
  have hex : zS 0 0 d m_SW_pairsIn (fun rv w1 => rv = some (.int (rsum (fun k => bitc (zI w o k)) N / 2)) ∧ w1 = w) 10 [(0, .ref o), (1, .int (rsum (fun k => bitc (zI w o k)) N)), (2, .ref o), (3, .int (nI N)), (4, .int (nI N))] [] w := by
    refine z_iload (pc := 10) (i := 4) (j := 4) rfl rfl ?_
    refine z_iload_n (pc := 12) (i := 3) (j := 3) rfl rfl rfl ?_
    refine z_icmp_ge (pc := 13) (tgt := 36) rfl (by decide) (fun h13 => ?_) (fun h13 => ?_)
    · refine z_iload_n (pc := 36) (i := 1) (j := 1) rfl rfl rfl ?_
      refine z_iconst (pc := 37) (v := 2) rfl (by decide) ?_
      refine z_idiv (pc := 38) rfl (by decide) ?_
      exact z_iret (pc := 39) rfl rfl ⟨rfl, rfl⟩
    · exact absurd (Int32.le_refl _) h13
  intro m
  induction m with
  | zero =>
    intro i hi hm
    obtain rfl : i = N := by omega
    exact hex
  | succ m ih =>
    intro i hi hm
    by_cases hlt : i < N
    · have kk := ih (i + 1) (by omega) (by omega)
      refine z_iload (pc := 10) (i := 4) (j := 4) rfl rfl ?_
      refine z_iload_n (pc := 12) (i := 3) (j := 3) rfl rfl rfl ?_
      refine z_icmp_ge (pc := 13) (tgt := 36) rfl (by decide) (fun h13 => ?_) (fun h13 => ?_)
      · exact absurd h13 (nI_ge (b := N) hlt (by omega))
      · refine z_aload_n (pc := 16) (i := 2) (j := 2) rfl rfl rfl ?_
        refine z_iload (pc := 17) (i := 4) (j := 4) rfl rfl ?_
        refine z_iald (pc := 19) rfl h1 (vp_in_nI hlt (by omega)) ?_
        refine z_eqi (y := zI w o i) (by rw [nI_clamp (by omega)]) ?_
        refine z_istore (pc := 20) (i := 5) (ls' := [(0, .ref o), (1, .int (rsum (fun k => bitc (zI w o k)) i)), (2, .ref o), (3, .int (nI N)), (4, .int (nI i)), (5, .int (zI w o i))]) rfl (by decide) rfl ?_
        refine z_iload_n (pc := 22) (i := 1) (j := 1) rfl rfl rfl ?_
        refine z_iload (pc := 23) (i := 5) (j := 5) rfl rfl ?_
        refine z_cS (pc := 25) (mc1 := 0) (ms1 := 0) (mc2 := 0) (ms2 := 0) (as := [.int (zI w o i)]) (rest := [.int (rsum (fun k => bitc (zI w o k)) i)]) ok_Integer_bitCount rfl rfl cl_SW_275 (by omega) (Nat.le_of_ble_eq_true rfl) (Nat.le_of_ble_eq_true rfl) (Nat.le_refl _) (Nat.le_refl _) (c_Integer_bitCount _ 0 _) (fun r1 w1 hp => ?_) rfl rfl
        obtain ⟨rfl, hw1⟩ := hp
        rw [hw1]
        refine ⟨⟨Nat.le_refl _, Or.inl rfl⟩, ?_⟩
        refine z_iadd (pc := 28) rfl ?_
        refine z_istore_n (pc := 29) (i := 1) (ls' := [(0, .ref o), (1, .int ((rsum (fun k => bitc (zI w o k)) i) + (bitc (zI w o i)))), (2, .ref o), (3, .int (nI N)), (4, .int (nI i)), (5, .int (zI w o i))]) rfl rfl (by decide) rfl ?_
        refine z_iinc (pc := 30) (i := 4) (j := 4) (v := nI (i + 1)) (ls' := [(0, .ref o), (1, .int ((rsum (fun k => bitc (zI w o k)) i) + (bitc (zI w o i)))), (2, .ref o), (3, .int (nI N)), (4, .int (nI (i + 1))), (5, .int (zI w o i))]) rfl rfl (nI_1 i) (by decide) rfl ?_
        refine z_goto (pc := 33) (tgt := 10) rfl (by decide) ?_
        refine z_drop (ls' := [(0, .ref o), (1, .int (rsum (fun k => bitc (zI w o k)) (i + 1))), (2, .ref o), (3, .int (nI N)), (4, .int (nI (i + 1)))]) (by simp [rsum]) kk
    · obtain rfl : i = N := by omega
      exact hex
set_option maxRecDepth 100000 in
set_option maxHeartbeats 4000000 in
theorem c_SW_pairsIn {w : zW} {o N : Nat} (h1 : w.1[o]? = some (10, N)) (hN : N ≤ 10000) (d : Nat) (hd : 1 ≤ d) : zS 0 0 d m_SW_pairsIn (fun rv w1 => rv = some (.int (rsum (fun k => bitc (zI w o k)) N / 2)) ∧ w1 = w) 0 [(0, .ref o)] [] w := by
  refine z_iconst (pc := 0) (v := 0) rfl (by decide) ?_
  refine z_istore_n (pc := 1) (i := 1) (ls' := [(0, .ref o), (1, .int 0)]) rfl rfl (by decide) rfl ?_
  refine z_aload_n (pc := 2) (i := 0) (j := 0) rfl rfl rfl ?_
  refine z_astore_n (pc := 3) (i := 2) (ls' := [(0, .ref o), (1, .int 0), (2, .ref o)]) rfl rfl (by decide) rfl ?_
  refine z_aload_n (pc := 4) (i := 2) (j := 2) rfl rfl rfl ?_
  refine z_alen (pc := 5) (v := nI N) rfl h1 (by decide) rfl ?_
  refine z_istore_n (pc := 6) (i := 3) (ls' := [(0, .ref o), (1, .int 0), (2, .ref o), (3, .int (nI N))]) rfl rfl (by decide) rfl ?_
  refine z_iconst (pc := 7) (v := nI 0) rfl rfl ?_
  refine z_istore (pc := 8) (i := 4) (ls' := [(0, .ref o), (1, .int 0), (2, .ref o), (3, .int (nI N)), (4, .int (nI 0))]) rfl (by decide) rfl ?_
  exact l_SW_pairsIn h1 hN d hd N 0 (by omega) (by omega)
set_option maxRecDepth 100000 in
set_option maxHeartbeats 4000000 in
theorem l_SW_wedOften {w : zW} {o N : Nat} (h1 : w.1[o]? = some (10, N)) (hN : N ≤ 10000) (d : Nat) (hd : 1 ≤ d) : ∀ (m i : Nat), i ≤ N → N ≤ i + m → zS 0 0 d m_SW_wedOften (fun rv w1 => rv = some (.int (rsum (fun k => if bitc (zI w o k) < 2 then 0 else 1) N)) ∧ w1 = w) 10 [(0, .ref o), (1, .int (rsum (fun k => if bitc (zI w o k) < 2 then 0 else 1) i)), (2, .ref o), (3, .int (nI N)), (4, .int (nI i))] [] w := by
  have hex : zS 0 0 d m_SW_wedOften (fun rv w1 => rv = some (.int (rsum (fun k => if bitc (zI w o k) < 2 then 0 else 1) N)) ∧ w1 = w) 10 [(0, .ref o), (1, .int (rsum (fun k => if bitc (zI w o k) < 2 then 0 else 1) N)), (2, .ref o), (3, .int (nI N)), (4, .int (nI N))] [] w := by
    refine z_iload (pc := 10) (i := 4) (j := 4) rfl rfl ?_
    refine z_iload_n (pc := 12) (i := 3) (j := 3) rfl rfl rfl ?_
    refine z_icmp_ge (pc := 13) (tgt := 40) rfl (by decide) (fun h13 => ?_) (fun h13 => ?_)
    · refine z_iload_n (pc := 40) (i := 1) (j := 1) rfl rfl rfl ?_
      exact z_iret (pc := 41) rfl rfl ⟨rfl, rfl⟩
    · exact absurd (Int32.le_refl _) h13
  intro m
  induction m with
  | zero =>
    intro i hi hm
    obtain rfl : i = N := by omega
    exact hex
  | succ m ih =>
    intro i hi hm
    by_cases hlt : i < N
    · have kk := ih (i + 1) (by omega) (by omega)
      refine z_iload (pc := 10) (i := 4) (j := 4) rfl rfl ?_
      refine z_iload_n (pc := 12) (i := 3) (j := 3) rfl rfl rfl ?_
      refine z_icmp_ge (pc := 13) (tgt := 40) rfl (by decide) (fun h13 => ?_) (fun h13 => ?_)
      · exact absurd h13 (nI_ge (b := N) hlt (by omega))
      · refine z_aload_n (pc := 16) (i := 2) (j := 2) rfl rfl rfl ?_
        refine z_iload (pc := 17) (i := 4) (j := 4) rfl rfl ?_
        refine z_iald (pc := 19) rfl h1 (vp_in_nI hlt (by omega)) ?_
        refine z_eqi (y := zI w o i) (by rw [nI_clamp (by omega)]) ?_
        refine z_istore (pc := 20) (i := 5) (ls' := [(0, .ref o), (1, .int (rsum (fun k => if bitc (zI w o k) < 2 then 0 else 1) i)), (2, .ref o), (3, .int (nI N)), (4, .int (nI i)), (5, .int (zI w o i))]) rfl (by decide) rfl ?_
        refine z_iload (pc := 22) (i := 5) (j := 5) rfl rfl ?_
        refine z_cS (pc := 24) (mc1 := 0) (ms1 := 0) (mc2 := 0) (ms2 := 0) (as := [.int (zI w o i)]) (rest := []) ok_Integer_bitCount rfl rfl cl_SW_275 (by omega) (Nat.le_of_ble_eq_true rfl) (Nat.le_of_ble_eq_true rfl) (Nat.le_refl _) (Nat.le_refl _) (c_Integer_bitCount _ 0 _) (fun r1 w1 hp => ?_) rfl rfl
        obtain ⟨rfl, hw1⟩ := hp
        rw [hw1]
        refine ⟨⟨Nat.le_refl _, Or.inl rfl⟩, ?_⟩
        refine z_iconst (pc := 27) (v := 2) rfl (by decide) ?_
        refine z_icmp_lt (pc := 28) (tgt := 34) rfl (by decide) (fun h28 => ?_) (fun h28 => ?_)
        · refine z_iinc (pc := 34) (i := 4) (j := 4) (v := nI (i + 1)) (ls' := [(0, .ref o), (1, .int (rsum (fun k => if bitc (zI w o k) < 2 then 0 else 1) i)), (2, .ref o), (3, .int (nI N)), (4, .int (nI (i + 1))), (5, .int (zI w o i))]) rfl rfl (nI_1 i) (by decide) rfl ?_
          refine z_goto (pc := 37) (tgt := 10) rfl (by decide) ?_
          have e : rsum (fun k => if bitc (zI w o k) < 2 then 0 else 1) (i + 1) = rsum (fun k => if bitc (zI w o k) < 2 then 0 else 1) i + 0 := by show _ + (if _ then _ else _) = _; rw [if_pos h28]
          rw [e, Int32.add_zero] at kk
          refine z_drop ?_ kk
          simp
        · refine z_iinc (pc := 31) (i := 1) (j := 1) (v := (rsum (fun k => if bitc (zI w o k) < 2 then 0 else 1) i) + 1) (ls' := [(0, .ref o), (1, .int ((rsum (fun k => if bitc (zI w o k) < 2 then 0 else 1) i) + 1)), (2, .ref o), (3, .int (nI N)), (4, .int (nI i)), (5, .int (zI w o i))]) rfl rfl rfl (by decide) rfl ?_
          refine z_iinc (pc := 34) (i := 4) (j := 4) (v := nI (i + 1)) (ls' := [(0, .ref o), (1, .int ((rsum (fun k => if bitc (zI w o k) < 2 then 0 else 1) i) + 1)), (2, .ref o), (3, .int (nI N)), (4, .int (nI (i + 1))), (5, .int (zI w o i))]) rfl rfl (nI_1 i) (by decide) rfl ?_
          refine z_goto (pc := 37) (tgt := 10) rfl (by decide) ?_
          have e : rsum (fun k => if bitc (zI w o k) < 2 then 0 else 1) (i + 1) = rsum (fun k => if bitc (zI w o k) < 2 then 0 else 1) i + 1 := by show _ + (if _ then _ else _) = _; rw [if_neg h28]
          rw [e] at kk
          refine z_drop ?_ kk
          simp
    · obtain rfl : i = N := by omega
      exact hex
set_option maxRecDepth 100000 in
set_option maxHeartbeats 4000000 in
theorem c_SW_wedOften {w : zW} {o N : Nat} (h1 : w.1[o]? = some (10, N)) (hN : N ≤ 10000) (d : Nat) (hd : 1 ≤ d) : zS 0 0 d m_SW_wedOften (fun rv w1 => rv = some (.int (rsum (fun k => if bitc (zI w o k) < 2 then 0 else 1) N)) ∧ w1 = w) 0 [(0, .ref o)] [] w := by
  refine z_iconst (pc := 0) (v := 0) rfl (by decide) ?_
  refine z_istore_n (pc := 1) (i := 1) (ls' := [(0, .ref o), (1, .int 0)]) rfl rfl (by decide) rfl ?_
  refine z_aload_n (pc := 2) (i := 0) (j := 0) rfl rfl rfl ?_
  refine z_astore_n (pc := 3) (i := 2) (ls' := [(0, .ref o), (1, .int 0), (2, .ref o)]) rfl rfl (by decide) rfl ?_
  refine z_aload_n (pc := 4) (i := 2) (j := 2) rfl rfl rfl ?_
  refine z_alen (pc := 5) (v := nI N) rfl h1 (by decide) rfl ?_
  refine z_istore_n (pc := 6) (i := 3) (ls' := [(0, .ref o), (1, .int 0), (2, .ref o), (3, .int (nI N))]) rfl rfl (by decide) rfl ?_
  refine z_iconst (pc := 7) (v := nI 0) rfl rfl ?_
  refine z_istore (pc := 8) (i := 4) (ls' := [(0, .ref o), (1, .int 0), (2, .ref o), (3, .int (nI N)), (4, .int (nI 0))]) rfl (by decide) rfl ?_
  exact l_SW_wedOften h1 hN d hd N 0 (by omega) (by omega)
set_option maxRecDepth 100000 in
set_option maxHeartbeats 4000000 in
theorem c_SW_drawBelow (g : Int64) (b : Int32) (hb : ¬ (if b < 1 then 1 else b).toInt64 = 0) (d : Nat) (hd : 1 ≤ d) (w : zW) : zS 0 0 d m_SW_drawBelow (fun rv w1 => rv = some (.int ((g / 65536 - g / 65536 / (if b < 1 then 1 else b).toInt64 * (if b < 1 then 1 else b).toInt64).toInt32)) ∧ w1 = w) 0 [(0, .long g), (2, .int b)] [] w := by
  refine z_lload_n (pc := 0) (i := 0) (j := 0) rfl rfl rfl ?_
  refine z_ldc2 (pc := 1) (v := 65536) rfl kl_SW_273 ?_
  refine z_ldiv (pc := 4) rfl (by decide) ?_
  refine z_iload_n (pc := 5) (i := 2) (j := 1) rfl rfl rfl ?_
  refine z_iconst (pc := 6) (v := 1) rfl (by decide) ?_
  refine z_mmax (pc := 7) rfl ml_SW_236 (by omega) (Nat.le_of_ble_eq_true rfl) ?_
  refine z_i2l (pc := 10) rfl ?_
  refine z_lrem (pc := 11) rfl hb ?_
  refine z_l2i (pc := 12) rfl ?_
  exact z_iret (pc := 13) rfl rfl ⟨rfl, rfl⟩
