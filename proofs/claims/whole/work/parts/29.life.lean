/-! LIFE: the rows wedTo, hoursWed, children, paid, black, sightOf, sightWith, sightMet at l + 1 .. l + 8 -/
def zLf (w : zW) (l : Nat) : Prop := w.1[l]? = some (1, 13) ∧ w.1[l + 1]? = some (10, 8) ∧ w.1[l + 2]? = some (10, 64) ∧ w.1[l + 3]? = some (10, 64) ∧ w.1[l + 4]? = some (10, 8) ∧ w.1[l + 5]? = some (10, 1152) ∧ w.1[l + 6]? = some (10, 10) ∧ w.1[l + 7]? = some (10, 10) ∧ w.1[l + 8]? = some (10, 10) ∧
  zR w l 0 = some (l + 1) ∧ zR w l 1 = some (l + 2) ∧ zR w l 2 = some (l + 3) ∧ zR w l 3 = some (l + 4) ∧ zR w l 4 = some (l + 5) ∧ zR w l 5 = some (l + 6) ∧ zR w l 6 = some (l + 7) ∧ zR w l 7 = some (l + 8)
set_option maxRecDepth 100000 in
set_option maxHeartbeats 4000000 in
theorem c_SW_sootPlace (b : Int32) (x : Int32) (y : Int32) (d : Nat) (hd : 1 ≤ d) (w : zW) : zS 0 0 d m_SW_sootPlace (fun rv w1 => rv = some (.int ((b * 144) + ((y * 12) + x))) ∧ w1 = w) 0 [(0, .int b), (1, .int x), (2, .int y)] [] w := by
  refine z_iload_n (pc := 0) (i := 0) (j := 0) rfl rfl rfl ?_
  refine z_sipush (pc := 1) (v := 144) rfl (by decide) ?_
  refine z_imul (pc := 4) rfl ?_
  refine z_iload_n (pc := 5) (i := 1) (j := 1) rfl rfl rfl ?_
  refine z_iload_n (pc := 6) (i := 2) (j := 2) rfl rfl rfl ?_
  refine z_cS (pc := 7) (mc1 := 0) (ms1 := 0) (mc2 := 0) (ms2 := 0) (as := [.int x, .int y]) (rest := [.int (b * 144)]) ok_SW_cellPlace rfl rfl cl_SW_264 (by omega) (Nat.le_of_ble_eq_true rfl) (Nat.le_of_ble_eq_true rfl) (Nat.le_refl _) (Nat.le_refl _) (c_SW_cellPlace x y 0 _) (fun r1 w1 hp => ?_) rfl rfl
  obtain ⟨rfl, hw1⟩ := hp
  rw [hw1]
  refine ⟨⟨Nat.le_refl _, Or.inl rfl⟩, ?_⟩
  refine z_iadd (pc := 10) rfl ?_
  exact z_iret (pc := 11) rfl rfl ⟨rfl, rfl⟩
set_option maxRecDepth 100000 in
set_option maxHeartbeats 4000000 in
theorem c_Life_burning {w : zW} {l : Nat} (hl : zLf w l) (d : Nat) : zS 0 0 d m_Life_burning (fun rv w1 => rv = some (.int ((zI w l 10) &&& ((zI w l 11) ^^^ (-1)))) ∧ w1 = w) 0 [(0, .ref l)] [] w := by
  refine z_aload_n (pc := 0) (i := 0) (j := 0) rfl rfl rfl ?_
  refine z_getI (pc := 1) rfl fl_Life_52 hl.1 rfl ?_
  refine z_aload_n (pc := 4) (i := 0) (j := 0) rfl rfl rfl ?_
  refine z_getI (pc := 5) rfl fl_Life_55 hl.1 rfl ?_
  refine z_iconst (pc := 8) (v := (-1)) rfl (by decide) ?_
  refine z_ixor (pc := 9) rfl ?_
  refine z_iand (pc := 10) rfl ?_
  exact z_iret (pc := 11) rfl rfl ⟨rfl, rfl⟩
set_option maxRecDepth 100000 in
set_option maxHeartbeats 4000000 in
theorem l_Life_drift {w : zW} {l : Nat} (hl : zLf w l) {x y : Int32} {p : Nat} (hp : y * 12 + x = nI p) (hp1 : p < 144) (d : Nat) (hd : 2 ≤ d) : ∀ (m i : Nat), i ≤ 8 → 8 ≤ i + m → zS 0 0 d m_Life_drift (fun rv w1 => rv = some (.int (rsum (fun k => zI w (l + 5) (144 * k + p)) 8)) ∧ w1 = w) 5 [(0, .ref l), (1, .int x), (2, .int y), (3, .int (rsum (fun k => zI w (l + 5) (144 * k + p)) i)), (4, .int (nI i))] [] w := by
  have hex : zS 0 0 d m_Life_drift (fun rv w1 => rv = some (.int (rsum (fun k => zI w (l + 5) (144 * k + p)) 8)) ∧ w1 = w) 5 [(0, .ref l), (1, .int x), (2, .int y), (3, .int (rsum (fun k => zI w (l + 5) (144 * k + p)) 8)), (4, .int (nI 8))] [] w := by
    refine z_iload (pc := 5) (i := 4) (j := 4) rfl rfl ?_
    refine z_bipush (pc := 7) (v := 8) rfl (by decide) ?_
    refine z_icmp_ge (pc := 9) (tgt := 33) rfl (by decide) (fun h9 => ?_) (fun h9 => ?_)
    · refine z_iload_n (pc := 33) (i := 3) (j := 3) rfl rfl rfl ?_
      exact z_iret (pc := 34) rfl rfl ⟨rfl, rfl⟩
    · exact absurd (by decide) h9
  intro m
  induction m with
  | zero =>
    intro i hi hm
    obtain rfl : i = 8 := by omega
    exact hex
  | succ m ih =>
    intro i hi hm
    by_cases hlt : i < 8
    · have kk := ih (i + 1) (by omega) (by omega)
      refine z_iload (pc := 5) (i := 4) (j := 4) rfl rfl ?_
      refine z_bipush (pc := 7) (v := 8) rfl (by decide) ?_
      refine z_icmp_ge (pc := 9) (tgt := 33) rfl (by decide) (fun h9 => ?_) (fun h9 => ?_)
      · exact absurd h9 (nI_ge (b := 8) hlt (by decide))
      · refine z_iload_n (pc := 12) (i := 3) (j := 3) rfl rfl rfl ?_
        refine z_aload_n (pc := 13) (i := 0) (j := 0) rfl rfl rfl ?_
        refine z_getR (pc := 14) (x := l + 5) rfl fl_Life_24 hl.1 rfl hl.2.2.2.2.2.2.2.2.2.2.2.2.2.1 ?_
        refine z_iload (pc := 17) (i := 4) (j := 4) rfl rfl ?_
        refine z_iload_n (pc := 19) (i := 1) (j := 1) rfl rfl rfl ?_
        refine z_iload_n (pc := 20) (i := 2) (j := 2) rfl rfl rfl ?_
        refine z_cSN (pc := 21) (mc1 := 0) (ms1 := 0) (mc2 := 0) (ms2 := 0) (as := [.int (nI i), .int x, .int y]) (rest := [.ref (l + 5), .int (rsum (fun k => zI w (l + 5) (144 * k + p)) i)]) ok_SW_sootPlace rfl rfl cl_Life_117 (by omega) (Nat.le_of_ble_eq_true rfl) (Nat.le_of_ble_eq_true rfl) (Nat.le_refl _) (Nat.le_refl _) (c_SW_sootPlace (nI i) x y 1 (by decide) _) (fun r1 w1 hp => ?_) rfl rfl
        obtain ⟨rfl, hw1⟩ := hp
        rw [hw1]
        refine ⟨⟨Nat.le_refl _, Or.inl rfl⟩, ?_⟩
        refine z_eqi (y := nI (144 * i + p)) (by rw [hp, show nI i * 144 = nI (i * 144) from pk_mul i 144, nI_add, Nat.mul_comm i 144]) ?_
        refine z_iald (pc := 24) rfl hl.2.2.2.2.2.1 (vp_in_nI (by omega) (by decide)) ?_
        refine z_eqi (y := zI w (l + 5) (144 * i + p)) (by rw [nI_clamp (by omega)]) ?_
        refine z_iadd (pc := 25) rfl ?_
        refine z_istore_n (pc := 26) (i := 3) (ls' := [(0, .ref l), (1, .int x), (2, .int y), (3, .int ((rsum (fun k => zI w (l + 5) (144 * k + p)) i) + (zI w (l + 5) (144 * i + p)))), (4, .int (nI i))]) rfl rfl (by decide) rfl ?_
        refine z_iinc (pc := 27) (i := 4) (j := 4) (v := nI (i + 1)) (ls' := [(0, .ref l), (1, .int x), (2, .int y), (3, .int ((rsum (fun k => zI w (l + 5) (144 * k + p)) i) + (zI w (l + 5) (144 * i + p)))), (4, .int (nI (i + 1)))]) rfl rfl (nI_1 i) (by decide) rfl ?_
        refine z_goto (pc := 30) (tgt := 5) rfl (by decide) ?_
        exact kk
    · obtain rfl : i = 8 := by omega
      exact hex
set_option maxRecDepth 100000 in
set_option maxHeartbeats 4000000 in
theorem c_Life_drift {w : zW} {l : Nat} (hl : zLf w l) {x y : Int32} {p : Nat} (hp : y * 12 + x = nI p) (hp1 : p < 144) (d : Nat) (hd : 2 ≤ d) : zS 0 0 d m_Life_drift (fun rv w1 => rv = some (.int (rsum (fun k => zI w (l + 5) (144 * k + p)) 8)) ∧ w1 = w) 0 [(0, .ref l), (1, .int x), (2, .int y)] [] w := by
  refine z_iconst (pc := 0) (v := 0) rfl (by decide) ?_
  refine z_istore_n (pc := 1) (i := 3) (ls' := [(0, .ref l), (1, .int x), (2, .int y), (3, .int 0)]) rfl rfl (by decide) rfl ?_
  refine z_iconst (pc := 2) (v := nI 0) rfl rfl ?_
  refine z_istore (pc := 3) (i := 4) (ls' := [(0, .ref l), (1, .int x), (2, .int y), (3, .int 0), (4, .int (nI 0))]) rfl (by decide) rfl ?_
  exact l_Life_drift hl hp hp1 d hd 8 0 (by omega) (by omega)
set_option maxRecDepth 100000 in
set_option maxHeartbeats 4000000 in
theorem c_Life_addSight {w : zW} {l n : Nat} (hl : zLf w l) (hn : zI w l 12 = nI n) (hn1 : n < 10) (a0 b0 t : Int32) (d : Nat) : zS 0 0 d m_Life_addSight (fun rv w1 => rv = none ∧ w1 = zuI w (z2 (z2 (z2 (z2 (zI w) (l + 6) n a0) (l + 7) n b0) (l + 8) n (if t = 0 then 0 else 1)) l 12 (nI (n + 1)))) 0 [(0, .ref l), (1, .int a0), (2, .int b0), (3, .int t)] [] w := by
  refine z_aload_n (pc := 0) (i := 0) (j := 0) rfl rfl rfl ?_
  refine z_getI (pc := 1) rfl fl_Life_58 hl.1 rfl ?_
  refine z_eqi (y := nI n) (by first | exact hn | (refine (z2_o _ _ _ _ (by omega)).trans ?_; exact hn) | (refine (z2_o _ _ _ _ (by omega)).trans ((z2_o _ _ _ _ (by omega)).trans ?_); exact hn) | (refine (z2_o _ _ _ _ (by omega)).trans ((z2_o _ _ _ _ (by omega)).trans ((z2_o _ _ _ _ (by omega)).trans ?_)); exact hn)) ?_
  refine z_bipush (pc := 4) (v := 10) rfl (by decide) ?_
  refine z_icmp_ge (pc := 6) (tgt := 57) rfl (by decide) (fun h6 => ?_) (fun h6 => ?_)
  · exact absurd h6 (nI_ge (b := 10) hn1 (by decide))
  · refine z_aload_n (pc := 9) (i := 0) (j := 0) rfl rfl rfl ?_
    refine z_getR (pc := 10) (x := l + 6) rfl fl_Life_27 hl.1 rfl hl.2.2.2.2.2.2.2.2.2.2.2.2.2.2.1 ?_
    refine z_aload_n (pc := 13) (i := 0) (j := 0) rfl rfl rfl ?_
    refine z_getI (pc := 14) rfl fl_Life_58 hl.1 rfl ?_
    refine z_eqi (y := nI n) (by first | exact hn | (refine (z2_o _ _ _ _ (by omega)).trans ?_; exact hn) | (refine (z2_o _ _ _ _ (by omega)).trans ((z2_o _ _ _ _ (by omega)).trans ?_); exact hn) | (refine (z2_o _ _ _ _ (by omega)).trans ((z2_o _ _ _ _ (by omega)).trans ((z2_o _ _ _ _ (by omega)).trans ?_)); exact hn)) ?_
    refine z_iload_n (pc := 17) (i := 1) (j := 1) rfl rfl rfl ?_
    refine z_iast (pc := 18) rfl hl.2.2.2.2.2.2.1 (vp_in_nI hn1 (by decide)) ?_
    refine z_aload_n (pc := 19) (i := 0) (j := 0) rfl rfl rfl ?_
    refine z_getR (pc := 20) (x := l + 7) rfl fl_Life_30 hl.1 rfl hl.2.2.2.2.2.2.2.2.2.2.2.2.2.2.2.1 ?_
    refine z_aload_n (pc := 23) (i := 0) (j := 0) rfl rfl rfl ?_
    refine z_getI (pc := 24) rfl fl_Life_58 hl.1 rfl ?_
    refine z_eqi (y := nI n) (by first | exact hn | (refine (z2_o _ _ _ _ (by omega)).trans ?_; exact hn) | (refine (z2_o _ _ _ _ (by omega)).trans ((z2_o _ _ _ _ (by omega)).trans ?_); exact hn) | (refine (z2_o _ _ _ _ (by omega)).trans ((z2_o _ _ _ _ (by omega)).trans ((z2_o _ _ _ _ (by omega)).trans ?_)); exact hn)) ?_
    refine z_iload_n (pc := 27) (i := 2) (j := 2) rfl rfl rfl ?_
    refine z_iast (pc := 28) rfl hl.2.2.2.2.2.2.2.1 (vp_in_nI hn1 (by decide)) ?_
    refine z_aload_n (pc := 29) (i := 0) (j := 0) rfl rfl rfl ?_
    refine z_getR (pc := 30) (x := l + 8) rfl fl_Life_33 hl.1 rfl hl.2.2.2.2.2.2.2.2.2.2.2.2.2.2.2.2 ?_
    refine z_aload_n (pc := 33) (i := 0) (j := 0) rfl rfl rfl ?_
    refine z_getI (pc := 34) rfl fl_Life_58 hl.1 rfl ?_
    refine z_eqi (y := nI n) (by first | exact hn | (refine (z2_o _ _ _ _ (by omega)).trans ?_; exact hn) | (refine (z2_o _ _ _ _ (by omega)).trans ((z2_o _ _ _ _ (by omega)).trans ?_); exact hn) | (refine (z2_o _ _ _ _ (by omega)).trans ((z2_o _ _ _ _ (by omega)).trans ((z2_o _ _ _ _ (by omega)).trans ?_)); exact hn)) ?_
    refine z_iload_n (pc := 37) (i := 3) (j := 3) rfl rfl rfl ?_
    have j46 : ∀ v : Int32, (v = (if t = 0 then 0 else 1)) → zS 0 0 d m_Life_addSight (fun rv w1 => rv = none ∧ w1 = zuI w (z2 (z2 (z2 (z2 (zI w) (l + 6) n a0) (l + 7) n b0) (l + 8) n (if t = 0 then 0 else 1)) l 12 (nI (n + 1)))) 46 [(0, .ref l), (1, .int a0), (2, .int b0), (3, .int t)] [.int v, .int (nI n), .ref (l + 8)] (zuI w (z2 (z2 (zI w) (l + 6) (nI n).toNatClampNeg a0) (l + 7) (nI n).toNatClampNeg b0)) := by
      intro v h_j46
      refine z_iast (pc := 46) rfl hl.2.2.2.2.2.2.2.2.1 (vp_in_nI hn1 (by decide)) ?_
      refine z_aload_n (pc := 47) (i := 0) (j := 0) rfl rfl rfl ?_
      refine z_dup (pc := 48) rfl rfl ?_
      refine z_getI (pc := 49) rfl fl_Life_58 hl.1 rfl ?_
      refine z_eqi (y := nI n) (by first | exact hn | (refine (z2_o _ _ _ _ (by omega)).trans ?_; exact hn) | (refine (z2_o _ _ _ _ (by omega)).trans ((z2_o _ _ _ _ (by omega)).trans ?_); exact hn) | (refine (z2_o _ _ _ _ (by omega)).trans ((z2_o _ _ _ _ (by omega)).trans ((z2_o _ _ _ _ (by omega)).trans ?_)); exact hn)) ?_
      refine z_iconst (pc := 52) (v := 1) rfl (by decide) ?_
      refine z_iadd (pc := 53) rfl ?_
      refine z_putI (pc := 54) rfl fl_Life_58 hl.1 rfl  ?_
      exact z_vret (pc := 57) rfl rfl ⟨rfl, by rw [nI_clamp (by omega), h_j46, nI_1]; rfl⟩
    refine z_if_eq (pc := 38) (tgt := 45) rfl (by decide) (fun h38 => ?_) (fun h38 => ?_)
    · refine z_iconst (pc := 45) (v := 0) rfl (by decide) ?_
      exact j46 _ (by rw [if_pos h38])
    · refine z_iconst (pc := 41) (v := 1) rfl (by decide) ?_
      refine z_goto (pc := 42) (tgt := 46) rfl (by decide) ?_
      exact j46 _ (by rw [if_neg h38])
/-- the first n sights are so, by the met row m -/
def sgOK (f : Nat → Nat → Int32) (l a : Nat) : Nat → Bool
  | 0 => true
  | n + 1 => sgOK f l a n && decide ((f (a + 1) (f (l + 6) n).toNatClampNeg >>> (f (l + 7) n &&& 31)) &&& 1 = f (l + 8) n)
theorem sgOK_no0 {f : Nat → Nat → Int32} {l a i : Nat} (h : ¬ (f (a + 1) (f (l + 6) i).toNatClampNeg >>> (f (l + 7) i &&& 31)) &&& 1 = f (l + 8) i) : ∀ {n : Nat}, i < n → ¬ sgOK f l a n = true
  | 0, hi => absurd hi (Nat.not_lt_zero _)
  | n + 1, hi => by
    show ¬ (_ && _) = true
    by_cases e : i = n
    · subst e; rw [decide_eq_false h]; simp
    · have := sgOK_no0 h (n := n) (by omega)
      simp only [Bool.and_eq_true, not_and]
      exact fun z => absurd z this
theorem sgOK_no {f : Nat → Nat → Int32} {l a i n : Nat} (hi : i < n) (h : ¬ (f (a + 1) (f (l + 6) i).toNatClampNeg >>> (f (l + 7) i &&& 31)) &&& 1 = f (l + 8) i) : ¬ sgOK f l a n = true := sgOK_no0 h hi
set_option maxRecDepth 100000 in
set_option maxHeartbeats 4000000 in
theorem l_Life_allSightsAreSo {w : zW} {l a n : Nat} (hl : zLf w l) (ha : zAir w a) (hn : zI w l 12 = nI n) (hn1 : n ≤ 10) (hs : ∀ k, k < n → vp_in (zI w (l + 6) k) 8) (d : Nat) : ∀ (m i : Nat), i ≤ n → n ≤ i + m → sgOK (zI w) l a i = true → zS 0 0 d m_Life_allSightsAreSo (fun rv w1 => rv = some (.int (if sgOK (zI w) l a n = true then 1 else 0)) ∧ w1 = w) 2 [(0, .ref l), (1, .ref a), (2, .int (nI i))] [] w := by
  have hex : sgOK (zI w) l a n = true → zS 0 0 d m_Life_allSightsAreSo (fun rv w1 => rv = some (.int (if sgOK (zI w) l a n = true then 1 else 0)) ∧ w1 = w) 2 [(0, .ref l), (1, .ref a), (2, .int (nI n))] [] w := by
    intro hok
    refine z_iload_n (pc := 2) (i := 2) (j := 2) rfl rfl rfl ?_
    refine z_aload_n (pc := 3) (i := 0) (j := 0) rfl rfl rfl ?_
    refine z_getI (pc := 4) rfl fl_Life_58 hl.1 rfl ?_
    refine z_eqi (y := nI n) hn ?_
    refine z_icmp_ge (pc := 7) (tgt := 47) rfl (by decide) (fun h7 => ?_) (fun h7 => ?_)
    · refine z_iconst (pc := 47) (v := 1) rfl (by decide) ?_
      exact z_zret (pc := 48) rfl rfl (by decide) ⟨by rw [if_pos hok], rfl⟩
    · exact absurd (Int32.le_refl _) h7
  intro m
  induction m with
  | zero =>
    intro i hi hm hok
    obtain rfl : i = n := by omega
    exact hex hok
  | succ m ih =>
    intro i hi hm hok
    by_cases hlt : i < n
    · skip
      refine z_iload_n (pc := 2) (i := 2) (j := 2) rfl rfl rfl ?_
      refine z_aload_n (pc := 3) (i := 0) (j := 0) rfl rfl rfl ?_
      refine z_getI (pc := 4) rfl fl_Life_58 hl.1 rfl ?_
      refine z_eqi (y := nI n) hn ?_
      refine z_icmp_ge (pc := 7) (tgt := 47) rfl (by decide) (fun h7 => ?_) (fun h7 => ?_)
      · exact absurd h7 (nI_ge (b := n) hlt (by omega))
      · refine z_aload_n (pc := 10) (i := 1) (j := 1) rfl rfl rfl ?_
        refine z_getR (pc := 11) (x := a + 1) rfl fl_Life_71 ha.1 rfl ha.2.2.2.2.2.1 ?_
        refine z_aload_n (pc := 14) (i := 0) (j := 0) rfl rfl rfl ?_
        refine z_getR (pc := 15) (x := l + 6) rfl fl_Life_27 hl.1 rfl hl.2.2.2.2.2.2.2.2.2.2.2.2.2.2.1 ?_
        refine z_iload_n (pc := 18) (i := 2) (j := 2) rfl rfl rfl ?_
        refine z_iald (pc := 19) rfl hl.2.2.2.2.2.2.1 (vp_in_nI (by omega) (by decide)) ?_
        refine z_eqi (y := zI w (l + 6) i) (by rw [nI_clamp (by omega)]) ?_
        refine z_iald (pc := 20) rfl ha.2.1 (hs i hlt) ?_
        refine z_aload_n (pc := 21) (i := 0) (j := 0) rfl rfl rfl ?_
        refine z_getR (pc := 22) (x := l + 7) rfl fl_Life_30 hl.1 rfl hl.2.2.2.2.2.2.2.2.2.2.2.2.2.2.2.1 ?_
        refine z_iload_n (pc := 25) (i := 2) (j := 2) rfl rfl rfl ?_
        refine z_iald (pc := 26) rfl hl.2.2.2.2.2.2.2.1 (vp_in_nI (by omega) (by decide)) ?_
        refine z_eqi (y := zI w (l + 7) i) (by rw [nI_clamp (by omega)]) ?_
        refine z_ishr (pc := 27) rfl ?_
        refine z_iconst (pc := 28) (v := 1) rfl (by decide) ?_
        refine z_iand (pc := 29) rfl ?_
        refine z_aload_n (pc := 30) (i := 0) (j := 0) rfl rfl rfl ?_
        refine z_getR (pc := 31) (x := l + 8) rfl fl_Life_33 hl.1 rfl hl.2.2.2.2.2.2.2.2.2.2.2.2.2.2.2.2 ?_
        refine z_iload_n (pc := 34) (i := 2) (j := 2) rfl rfl rfl ?_
        refine z_iald (pc := 35) rfl hl.2.2.2.2.2.2.2.2.1 (vp_in_nI (by omega) (by decide)) ?_
        refine z_eqi (y := zI w (l + 8) i) (by rw [nI_clamp (by omega)]) ?_
        refine z_icmp_eq (pc := 36) (tgt := 41) rfl (by decide) (fun h36 => ?_) (fun h36 => ?_)
        · refine z_iinc (pc := 41) (i := 2) (j := 2) (v := nI (i + 1)) (ls' := [(0, .ref l), (1, .ref a), (2, .int (nI (i + 1)))]) rfl rfl (nI_1 i) (by decide) rfl ?_
          refine z_goto (pc := 44) (tgt := 2) rfl (by decide) ?_
          exact ih (i + 1) (by omega) (by omega) (by show (_ && _) = true; rw [hok, decide_eq_true h36]; rfl)
        · refine z_iconst (pc := 39) (v := 0) rfl (by decide) ?_
          exact z_zret (pc := 40) rfl rfl (by decide) ⟨by rw [if_neg (sgOK_no hlt h36)], rfl⟩
    · obtain rfl : i = n := by omega
      exact hex hok
set_option maxRecDepth 100000 in
set_option maxHeartbeats 4000000 in
theorem c_Life_allSightsAreSo {w : zW} {l a n : Nat} (hl : zLf w l) (ha : zAir w a) (hn : zI w l 12 = nI n) (hn1 : n ≤ 10) (hs : ∀ k, k < n → vp_in (zI w (l + 6) k) 8) (d : Nat) : zS 0 0 d m_Life_allSightsAreSo (fun rv w1 => rv = some (.int (if sgOK (zI w) l a n = true then 1 else 0)) ∧ w1 = w) 0 [(0, .ref l), (1, .ref a)] [] w := by
  refine z_iconst (pc := 0) (v := nI 0) rfl rfl ?_
  refine z_istore_n (pc := 1) (i := 2) (ls' := [(0, .ref l), (1, .ref a), (2, .int (nI 0))]) rfl rfl (by decide) rfl ?_
  exact l_Life_allSightsAreSo hl ha hn hn1 hs d n 0 (by omega) (by omega) rfl
/-- the ints of a life that begins -/
def lifeB (f : Nat → Nat → Int32) (l : Nat) : Nat → Nat → Int32 := z2 (z2 (z2 (z2 (z2 (zr (zr (zr (zr (zr (f) (l + 1) (fillF (f (l + 1)) 0 8)) (l + 2) (fillF ((zr (f) (l + 1) (fillF (f (l + 1)) 0 8)) (l + 2)) 0 64)) (l + 3) (fillF ((zr (zr (f) (l + 1) (fillF (f (l + 1)) 0 8)) (l + 2) (fillF ((zr (f) (l + 1) (fillF (f (l + 1)) 0 8)) (l + 2)) 0 64)) (l + 3)) 0 64)) (l + 4) (fillF ((zr (zr (zr (f) (l + 1) (fillF (f (l + 1)) 0 8)) (l + 2) (fillF ((zr (f) (l + 1) (fillF (f (l + 1)) 0 8)) (l + 2)) 0 64)) (l + 3) (fillF ((zr (zr (f) (l + 1) (fillF (f (l + 1)) 0 8)) (l + 2) (fillF ((zr (f) (l + 1) (fillF (f (l + 1)) 0 8)) (l + 2)) 0 64)) (l + 3)) 0 64)) (l + 4)) 0 8)) (l + 5) (fillF ((zr (zr (zr (zr (f) (l + 1) (fillF (f (l + 1)) 0 8)) (l + 2) (fillF ((zr (f) (l + 1) (fillF (f (l + 1)) 0 8)) (l + 2)) 0 64)) (l + 3) (fillF ((zr (zr (f) (l + 1) (fillF (f (l + 1)) 0 8)) (l + 2) (fillF ((zr (f) (l + 1) (fillF (f (l + 1)) 0 8)) (l + 2)) 0 64)) (l + 3)) 0 64)) (l + 4) (fillF ((zr (zr (zr (f) (l + 1) (fillF (f (l + 1)) 0 8)) (l + 2) (fillF ((zr (f) (l + 1) (fillF (f (l + 1)) 0 8)) (l + 2)) 0 64)) (l + 3) (fillF ((zr (zr (f) (l + 1) (fillF (f (l + 1)) 0 8)) (l + 2) (fillF ((zr (f) (l + 1) (fillF (f (l + 1)) 0 8)) (l + 2)) 0 64)) (l + 3)) 0 64)) (l + 4)) 0 8)) (l + 5)) 0 1152)) l 8 0) l 9 (-1)) l 10 0) l 11 0) l 12 0
set_option maxRecDepth 100000 in
set_option maxHeartbeats 4000000 in
theorem c_Life_begin {w : zW} {l : Nat} (hl : zLf w l) (d : Nat) (hd : 1 ≤ d) : zS 0 0 d m_Life_begin (fun rv w1 => rv = none ∧ w1 = zuI w (lifeB (zI w) l)) 0 [(0, .ref l)] [] w := by
  refine z_aload_n (pc := 0) (i := 0) (j := 0) rfl rfl rfl ?_
  refine z_getR (pc := 1) (x := l + 1) rfl fl_Life_9 hl.1 rfl hl.2.2.2.2.2.2.2.2.2.1 ?_
  refine z_iconst (pc := 4) (v := 0) rfl (by decide) ?_
  refine z_cS (pc := 5) (mc1 := 0) (ms1 := 0) (mc2 := 0) (ms2 := 0) (as := [.ref (l + 1), .int 0]) (rest := []) ok_Arrays_fill rfl rfl cl_Life_39 (by omega) (Nat.le_of_ble_eq_true rfl) (Nat.le_of_ble_eq_true rfl) (Nat.le_refl _) (Nat.le_refl _) (c_Arrays_fill (w := w) (o := l + 1) (N := 8) hl.2.1 (by decide) 0 0) (fun r1 w1 hp => ?_) rfl rfl
  obtain ⟨rfl, hw1⟩ := hp
  rw [hw1]
  refine ⟨⟨Nat.le_refl _, Or.inl rfl⟩, ?_⟩
  refine z_aload_n (pc := 8) (i := 0) (j := 0) rfl rfl rfl ?_
  refine z_getR (pc := 9) (x := l + 2) rfl fl_Life_15 hl.1 rfl hl.2.2.2.2.2.2.2.2.2.2.1 ?_
  refine z_iconst (pc := 12) (v := 0) rfl (by decide) ?_
  refine z_cS (pc := 13) (mc1 := 0) (ms1 := 0) (mc2 := 0) (ms2 := 0) (as := [.ref (l + 2), .int 0]) (rest := []) ok_Arrays_fill rfl rfl cl_Life_39 (by omega) (Nat.le_of_ble_eq_true rfl) (Nat.le_of_ble_eq_true rfl) (Nat.le_refl _) (Nat.le_refl _) (c_Arrays_fill (w := zuI w (zr (zI w) (l + 1) (fillF (zI w (l + 1)) 0 8))) (o := l + 2) (N := 64) hl.2.2.1 (by decide) 0 0) (fun r1 w1 hp => ?_) rfl rfl
  obtain ⟨rfl, hw1⟩ := hp
  rw [hw1]
  refine ⟨⟨Nat.le_refl _, Or.inl rfl⟩, ?_⟩
  refine z_aload_n (pc := 16) (i := 0) (j := 0) rfl rfl rfl ?_
  refine z_getR (pc := 17) (x := l + 3) rfl fl_Life_18 hl.1 rfl hl.2.2.2.2.2.2.2.2.2.2.2.1 ?_
  refine z_iconst (pc := 20) (v := 0) rfl (by decide) ?_
  refine z_cS (pc := 21) (mc1 := 0) (ms1 := 0) (mc2 := 0) (ms2 := 0) (as := [.ref (l + 3), .int 0]) (rest := []) ok_Arrays_fill rfl rfl cl_Life_39 (by omega) (Nat.le_of_ble_eq_true rfl) (Nat.le_of_ble_eq_true rfl) (Nat.le_refl _) (Nat.le_refl _) (c_Arrays_fill (w := zuI w (zr (zr (zI w) (l + 1) (fillF (zI w (l + 1)) 0 8)) (l + 2) (fillF ((zr (zI w) (l + 1) (fillF (zI w (l + 1)) 0 8)) (l + 2)) 0 64))) (o := l + 3) (N := 64) hl.2.2.2.1 (by decide) 0 0) (fun r1 w1 hp => ?_) rfl rfl
  obtain ⟨rfl, hw1⟩ := hp
  rw [hw1]
  refine ⟨⟨Nat.le_refl _, Or.inl rfl⟩, ?_⟩
  refine z_aload_n (pc := 24) (i := 0) (j := 0) rfl rfl rfl ?_
  refine z_getR (pc := 25) (x := l + 4) rfl fl_Life_21 hl.1 rfl hl.2.2.2.2.2.2.2.2.2.2.2.2.1 ?_
  refine z_iconst (pc := 28) (v := 0) rfl (by decide) ?_
  refine z_cS (pc := 29) (mc1 := 0) (ms1 := 0) (mc2 := 0) (ms2 := 0) (as := [.ref (l + 4), .int 0]) (rest := []) ok_Arrays_fill rfl rfl cl_Life_39 (by omega) (Nat.le_of_ble_eq_true rfl) (Nat.le_of_ble_eq_true rfl) (Nat.le_refl _) (Nat.le_refl _) (c_Arrays_fill (w := zuI w (zr (zr (zr (zI w) (l + 1) (fillF (zI w (l + 1)) 0 8)) (l + 2) (fillF ((zr (zI w) (l + 1) (fillF (zI w (l + 1)) 0 8)) (l + 2)) 0 64)) (l + 3) (fillF ((zr (zr (zI w) (l + 1) (fillF (zI w (l + 1)) 0 8)) (l + 2) (fillF ((zr (zI w) (l + 1) (fillF (zI w (l + 1)) 0 8)) (l + 2)) 0 64)) (l + 3)) 0 64))) (o := l + 4) (N := 8) hl.2.2.2.2.1 (by decide) 0 0) (fun r1 w1 hp => ?_) rfl rfl
  obtain ⟨rfl, hw1⟩ := hp
  rw [hw1]
  refine ⟨⟨Nat.le_refl _, Or.inl rfl⟩, ?_⟩
  refine z_aload_n (pc := 32) (i := 0) (j := 0) rfl rfl rfl ?_
  refine z_getR (pc := 33) (x := l + 5) rfl fl_Life_24 hl.1 rfl hl.2.2.2.2.2.2.2.2.2.2.2.2.2.1 ?_
  refine z_iconst (pc := 36) (v := 0) rfl (by decide) ?_
  refine z_cS (pc := 37) (mc1 := 0) (ms1 := 0) (mc2 := 0) (ms2 := 0) (as := [.ref (l + 5), .int 0]) (rest := []) ok_Arrays_fill rfl rfl cl_Life_39 (by omega) (Nat.le_of_ble_eq_true rfl) (Nat.le_of_ble_eq_true rfl) (Nat.le_refl _) (Nat.le_refl _) (c_Arrays_fill (w := zuI w (zr (zr (zr (zr (zI w) (l + 1) (fillF (zI w (l + 1)) 0 8)) (l + 2) (fillF ((zr (zI w) (l + 1) (fillF (zI w (l + 1)) 0 8)) (l + 2)) 0 64)) (l + 3) (fillF ((zr (zr (zI w) (l + 1) (fillF (zI w (l + 1)) 0 8)) (l + 2) (fillF ((zr (zI w) (l + 1) (fillF (zI w (l + 1)) 0 8)) (l + 2)) 0 64)) (l + 3)) 0 64)) (l + 4) (fillF ((zr (zr (zr (zI w) (l + 1) (fillF (zI w (l + 1)) 0 8)) (l + 2) (fillF ((zr (zI w) (l + 1) (fillF (zI w (l + 1)) 0 8)) (l + 2)) 0 64)) (l + 3) (fillF ((zr (zr (zI w) (l + 1) (fillF (zI w (l + 1)) 0 8)) (l + 2) (fillF ((zr (zI w) (l + 1) (fillF (zI w (l + 1)) 0 8)) (l + 2)) 0 64)) (l + 3)) 0 64)) (l + 4)) 0 8))) (o := l + 5) (N := 1152) hl.2.2.2.2.2.1 (by decide) 0 0) (fun r1 w1 hp => ?_) rfl rfl
  obtain ⟨rfl, hw1⟩ := hp
  rw [hw1]
  refine ⟨⟨Nat.le_refl _, Or.inl rfl⟩, ?_⟩
  refine z_aload_n (pc := 40) (i := 0) (j := 0) rfl rfl rfl ?_
  refine z_iconst (pc := 41) (v := 0) rfl (by decide) ?_
  refine z_putI (pc := 42) rfl fl_Life_45 hl.1 rfl  ?_
  refine z_aload_n (pc := 45) (i := 0) (j := 0) rfl rfl rfl ?_
  refine z_iconst (pc := 46) (v := (-1)) rfl (by decide) ?_
  refine z_putI (pc := 47) rfl fl_Life_49 hl.1 rfl  ?_
  refine z_aload_n (pc := 50) (i := 0) (j := 0) rfl rfl rfl ?_
  refine z_iconst (pc := 51) (v := 0) rfl (by decide) ?_
  refine z_putI (pc := 52) rfl fl_Life_52 hl.1 rfl  ?_
  refine z_aload_n (pc := 55) (i := 0) (j := 0) rfl rfl rfl ?_
  refine z_iconst (pc := 56) (v := 0) rfl (by decide) ?_
  refine z_putI (pc := 57) rfl fl_Life_55 hl.1 rfl  ?_
  refine z_aload_n (pc := 60) (i := 0) (j := 0) rfl rfl rfl ?_
  refine z_iconst (pc := 61) (v := 0) rfl (by decide) ?_
  refine z_putI (pc := 62) rfl fl_Life_58 hl.1 rfl  ?_
  exact z_vret (pc := 65) rfl rfl ⟨rfl, rfl⟩
