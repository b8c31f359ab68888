def fillF (f : Nat → Int32) (v : Int32) (i : Nat) : Nat → Int32 := fun k => if k < i then v else f k
theorem fillF_0 (f : Nat → Int32) (v : Int32) : fillF f v 0 = f := by funext k; simp [fillF]
theorem fillF_s (f : Nat → Int32) (v : Int32) (i : Nat) : upd (fillF f v i) i v = fillF f v (i + 1) := by
  funext k
  unfold upd fillF
  by_cases h : k = i
  · subst h; simp
  · by_cases h2 : k < i
    · have : k < i + 1 := by omega
      simp [h, h2, this]
    · have : ¬ k < i + 1 := by omega
      simp [h, h2, this]
set_option maxRecDepth 100000 in
set_option maxHeartbeats 4000000 in
theorem l_Arrays_fill {w : zW} {o N : Nat} (h1 : w.1[o]? = some (10, N)) (hN : N ≤ 10000) (v : Int32) (d : Nat) : ∀ (m i : Nat), i ≤ N → N ≤ i + m → zS 0 0 d m_Arrays_fill (fun rv w1 => rv = none ∧ w1 = zrI w o (fillF (zI w o) v N)) 5 [(0, .ref o), (1, .int v), (2, .int (nI i)), (3, .int (nI N))] [] (zrI w o (fillF (zI w o) v i)) := by
  intro m
  induction m with
  | zero =>
    intro i hi hm
    obtain rfl : i = N := by omega
    refine z_iload_n (pc := 5) (i := 2) (j := 2) rfl rfl rfl ?_
    refine z_iload_n (pc := 6) (i := 3) (j := 3) rfl rfl rfl ?_
    refine z_icmp_ge (pc := 7) (tgt := 20) rfl (by decide) (fun h7 => ?_) (fun h7 => absurd (Int32.le_refl _) h7)
    exact z_vret (pc := 20) rfl rfl ⟨rfl, rfl⟩
  | succ m ih =>
    intro i hi hm
    by_cases hlt : i < N
    · skip
      refine z_iload_n (pc := 5) (i := 2) (j := 2) rfl rfl rfl ?_
      refine z_iload_n (pc := 6) (i := 3) (j := 3) rfl rfl rfl ?_
      refine z_icmp_ge (pc := 7) (tgt := 20) rfl (by decide) (fun h7 => ?_) (fun h7 => ?_)
      · exact absurd h7 (nI_ge hlt (by omega))
      · refine z_aload_n (pc := 10) (i := 0) (j := 0) rfl rfl rfl ?_
        refine z_iload_n (pc := 11) (i := 2) (j := 2) rfl rfl rfl ?_
        refine z_iload_n (pc := 12) (i := 1) (j := 1) rfl rfl rfl ?_
        refine z_iast (pc := 13) rfl h1 (vp_in_nI hlt (by omega)) ?_
        refine z_iinc (pc := 14) (i := 2) (j := 2) (v := nI (i + 1)) (ls' := [(0, .ref o), (1, .int v), (2, .int (nI (i + 1))), (3, .int (nI N))]) rfl rfl (nI_1 i) (by decide) rfl ?_
        refine z_goto (pc := 17) (tgt := 5) rfl (by decide) ?_
        rw [nI_clamp (by omega)]
        refine z_eqw ((zrI_put w o i _ v).trans (by rw [fillF_s])) ?_
        exact ih (i + 1) (by omega) (by omega)
    · obtain rfl : i = N := by omega
      refine z_iload_n (pc := 5) (i := 2) (j := 2) rfl rfl rfl ?_
      refine z_iload_n (pc := 6) (i := 3) (j := 3) rfl rfl rfl ?_
      refine z_icmp_ge (pc := 7) (tgt := 20) rfl (by decide) (fun h7 => ?_) (fun h7 => absurd (Int32.le_refl _) h7)
      exact z_vret (pc := 20) rfl rfl ⟨rfl, rfl⟩
set_option maxRecDepth 100000 in
set_option maxHeartbeats 4000000 in
theorem c_Arrays_fill {w : zW} {o N : Nat} (h1 : w.1[o]? = some (10, N)) (hN : N ≤ 10000) (v : Int32) (d : Nat) : zS 0 0 d m_Arrays_fill (fun rv w1 => rv = none ∧ w1 = zrI w o (fillF (zI w o) v N)) 0 [(0, .ref o), (1, .int v)] [] w := by
  refine z_iconst (pc := 0) (v := nI 0) rfl rfl ?_
  refine z_istore_n (pc := 1) (i := 2) (ls' := [(0, .ref o), (1, .int v), (2, .int (nI 0))]) rfl rfl (by decide) rfl ?_
  refine z_aload_n (pc := 2) (i := 0) (j := 0) rfl rfl rfl ?_
  refine z_alen (pc := 3) (v := nI N) rfl h1 (by decide) rfl ?_
  refine z_istore_n (pc := 4) (i := 3) (ls' := [(0, .ref o), (1, .int v), (2, .int (nI 0)), (3, .int (nI N))]) rfl rfl (by decide) rfl ?_
  refine z_eqw (w2 := zrI w o (fillF (zI w o) v 0)) ?_ (l_Arrays_fill h1 hN v d N 0 (by omega) (by omega))
  rw [fillF_0, zrI_self]
set_option maxRecDepth 100000 in
set_option maxHeartbeats 4000000 in
theorem c_Law_addStep {w : zW} {o a n : Nat} (h1 : w.1[o]? = some (0, 3)) (h2 : zR w o 0 = some a) (h3 : w.1[a]? = some (10, 1000)) (hoa : o ≠ a) (hn : zI w o 2 = nI n) (hn1 : n ≤ 1000) (x : Int32) (d : Nat) : zS 0 0 d m_Law_addStep (fun rv w1 => rv = none ∧ w1 = if n < 1000 then zsI (zsI w a n x) o 2 (nI (n + 1)) else w) 0 [(0, .ref o), (1, .int x)] [] w := by
  refine z_aload_n (pc := 0) (i := 0) (j := 0) rfl rfl rfl ?_
  refine z_getI (pc := 1) rfl fl_Law_18 h1 rfl ?_
  refine z_eqi (y := nI n) hn ?_
  refine z_aload_n (pc := 4) (i := 0) (j := 0) rfl rfl rfl ?_
  refine z_getR (pc := 5) (x := a) rfl fl_Law_9 h1 rfl h2 ?_
  refine z_alen (pc := 8) (v := 1000) rfl h3 (by decide) (by decide) ?_
  refine z_icmp_ge (pc := 9) (tgt := 32) rfl (by decide) (fun h9 => ?_) (fun h9 => ?_)
  · exact z_vret (pc := 32) rfl rfl ⟨rfl, by rw [if_neg (fun z => nI_ge (b := 1000) z (by omega) h9)]⟩
  · refine z_aload_n (pc := 12) (i := 0) (j := 0) rfl rfl rfl ?_
    refine z_getR (pc := 13) (x := a) rfl fl_Law_9 h1 rfl h2 ?_
    refine z_aload_n (pc := 16) (i := 0) (j := 0) rfl rfl rfl ?_
    refine z_getI (pc := 17) rfl fl_Law_18 h1 rfl ?_
    refine z_eqi (y := nI n) hn ?_
    refine z_iload_n (pc := 20) (i := 1) (j := 1) rfl rfl rfl ?_
    refine z_iast (pc := 21) rfl h3 (vp_in_nI (zlt_of 1000 (by omega) h9) (by omega)) ?_
    refine z_aload_n (pc := 22) (i := 0) (j := 0) rfl rfl rfl ?_
    refine z_dup (pc := 23) rfl rfl ?_
    refine z_getI (pc := 24) rfl fl_Law_18 h1 rfl ?_
    refine z_eqi (y := nI n) (by rw [zI_o _ _ _ hoa]; exact hn) ?_
    refine z_iconst (pc := 27) (v := 1) rfl (by decide) ?_
    refine z_iadd (pc := 28) rfl ?_
    refine z_putI (pc := 29) rfl fl_Law_18 h1 rfl  ?_
    exact z_vret (pc := 32) rfl rfl ⟨rfl, by rw [if_pos (zlt_of 1000 (by omega) h9), nI_clamp (by omega), nI_1]⟩
set_option maxRecDepth 100000 in
set_option maxHeartbeats 4000000 in
theorem c_Law_beginWith {w : zW} {o a : Nat} (h1 : w.1[o]? = some (0, 3)) (h2 : zR w o 0 = some a) (h3 : w.1[a]? = some (10, 1000)) (hoa : o ≠ a) (x : Int32) (d : Nat) (hd : 1 ≤ d) : zS 0 0 d m_Law_beginWith (fun rv w1 => rv = none ∧ w1 = zsI (zsI (zsI w o 2 0) a 0 x) o 2 1) 0 [(0, .ref o), (1, .int x)] [] w := by
  refine z_aload_n (pc := 0) (i := 0) (j := 0) rfl rfl rfl ?_
  refine z_iconst (pc := 1) (v := 0) rfl (by decide) ?_
  refine z_putI (pc := 2) rfl fl_Law_18 h1 rfl  ?_
  refine z_aload_n (pc := 5) (i := 0) (j := 0) rfl rfl rfl ?_
  refine z_iload_n (pc := 6) (i := 1) (j := 1) rfl rfl rfl ?_
  refine z_cV (pc := 7) (mc1 := 0) (ms1 := 0) (mc2 := 0) (ms2 := 0) (as := [.int x]) (rest := []) (o := o) rfl rfl h1 ok_Law_addStep rfl rfl cl_Law_22 (by omega) (Nat.le_of_ble_eq_true rfl) (Nat.le_of_ble_eq_true rfl) (Nat.le_refl _) (Nat.le_refl _) (c_Law_addStep (n := 0) (w := zsI w o 2 0) h1 h2 h3 hoa (zI_hit _ _ _ _) (by omega) x 0) (fun r1 w1 hp => ?_) rfl rfl
  obtain ⟨rfl, hw⟩ := hp
  rw [if_pos (by omega)] at hw
  subst hw
  refine ⟨⟨Nat.le_refl _, Or.inl rfl⟩, ?_⟩
  exact z_vret (pc := 10) rfl rfl ⟨rfl, rfl⟩
