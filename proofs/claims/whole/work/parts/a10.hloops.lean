/-! THE MODEL'S STATEMENTS: a house's two loops -/
theorem nI_s8 (i : Nat) : nI (8 + i) - 8 = nI i := by
  rw [Nat.add_comm, ← nI_add]
  exact Int32.add_sub_cancel _ _
theorem name_iff {T : Nat → Int32} {n p : Nat} (h3 : tC T n p = 3) {x y : Int64} (h : ∃ a k, k ≤ 8 ∧ ltr T a k ∧ x = keyC T a k ∧ y = keyM T a k) : x = keyC T (tBeg T n p) (tLen T n p) ↔ y = keyM T (tBeg T n p) (tLen T n p) := by
  obtain ⟨a, k, h1, h2, e1, e2⟩ := h
  obtain ⟨a1, a2, a3, -, -⟩ := t1_w ((t1_iff T n p).mpr h3)
  rw [e1, e2]
  exact key_iff h1 a3 h2 (tLt a1 a2)
set_option maxRecDepth 100000 in
set_option maxHeartbeats 4000000 in
theorem l_hn {w : zW} {n p H dd : Nat} {T : Nat → Int32} {N : Nat → Int64} {P : Option Value → zW → Prop} (hk_w : mK w n T) (hS : mS w T n p) (h3 : tC T n p = 3) (hH : H ≤ 8) (hN : ∀ h, h < H → ∃ a k, k ≤ 8 ∧ ltr T a k ∧ N h = keyC T a k ∧ zL w 47 h = keyM T a k) (hdd : 1 ≤ dd) : ∀ m i, i + m = H → (hasNm N (keyC T (tBeg T n p) (tLen T n p)) m i = true → P (some (.int 0)) (zsI w 44 9 (flA T n 3 p))) → (¬ hasNm N (keyC T (tBeg T n p) (tLen T n p)) m i = true → zS 0 0 dd m_Mod_readsHouse P 83 [(0, .ref 44), (1, .int (nI (8 + H)))] [] w) → zS 0 0 dd m_Mod_readsHouse P 49 [(0, .ref 44), (1, .int (nI (8 + H))), (2, .int (nI (8 + i)))] [] w := by
  intro m
  induction m with
  | zero =>
    intro i hi hb hg
    have ei : i = H := by omega
    subst ei
    refine z_iload_n (pc := 49) (i := 2) (j := 2) rfl rfl rfl ?_
    refine z_iload_n (pc := 50) (i := 1) (j := 1) rfl rfl rfl ?_
    refine z_icmp_ge (pc := 51) (tgt := 83) rfl (by decide) (fun h51 => ?_) (fun h51 => ?_)
    · refine z_drop (ls' := [(0, .ref 44), (1, .int (nI (8 + i)))]) (by simp) ?_
      exact hg (fun e => by cases e)
    · exact absurd (Int32.le_refl _) h51
  | succ m ih =>
    intro i hi hb hg
    refine z_iload_n (pc := 49) (i := 2) (j := 2) rfl rfl rfl ?_
    refine z_iload_n (pc := 50) (i := 1) (j := 1) rfl rfl rfl ?_
    refine z_icmp_ge (pc := 51) (tgt := 83) rfl (by decide) (fun h51 => ?_) (fun h51 => ?_)
    · exact absurd h51 (nI_ge (by omega) (by omega))
    · refine z_aload_n (pc := 54) (i := 0) (j := 0) rfl rfl rfl ?_
      refine z_getR (pc := 55) (x := 47) rfl fl_Mod_16 hk_w.1.1 rfl (mr_47 hk_w.1) ?_
      refine z_iload_n (pc := 58) (i := 2) (j := 2) rfl rfl rfl ?_
      refine z_bipush (pc := 59) (v := 8) rfl (by decide) ?_
      refine z_isub (pc := 61) rfl ?_
      refine z_eqi (y := nI i) (nI_s8 i) ?_
      refine z_lald (pc := 62) rfl (mk_47 hk_w.1) (vp_in_nI (n := i) (N := 8) (by omega) (by decide)) ?_
      refine z_eql (y := zL w 47 i) (by rw [nI_clamp (by omega)]) ?_
      refine z_aload_n (pc := 63) (i := 0) (j := 0) rfl rfl rfl ?_
      refine z_getL (pc := 64) rfl fl_Mod_118 hk_w.1.1 rfl ?_
      refine z_eql (y := keyM T (tBeg T n p) (tLen T n p)) (hS.2.2.2.1.trans (t1_w ((t1_iff T n p).mpr h3)).2.2.2.1) ?_
      refine z_lcmp (pc := 67) rfl ?_
      refine z_if_ne (pc := 68) (tgt := 77) rfl (by decide) (fun h68 => ?_) (fun h68 => ?_)
      · refine z_iinc (pc := 77) (i := 2) (j := 2) (v := nI (8 + (i + 1))) (ls' := [(0, .ref 44), (1, .int (nI (8 + H))), (2, .int (nI (8 + (i + 1))))]) rfl rfl (nI_1 (8 + i)) (by decide) rfl ?_
        refine z_goto (pc := 80) (tgt := 49) rfl (by decide) ?_
        have hne : ¬ N i = keyC T (tBeg T n p) (tLen T n p) := fun e => h68 ((lg_cmp_eq _ _).mpr ((name_iff h3 (hN i (by omega))).mp e))
        have eN : hasNm N (keyC T (tBeg T n p) (tLen T n p)) (m + 1) i = hasNm N (keyC T (tBeg T n p) (tLen T n p)) m (i + 1) := if_neg hne
        rw [eN] at hb hg
        exact ih (i + 1) (by omega) hb hg
      · refine z_aload_n (pc := 71) (i := 0) (j := 0) rfl rfl rfl ?_
        refine z_iconst (pc := 72) (v := 3) rfl (by decide) ?_
        refine z_cV (pc := 73) (mc1 := 0) (ms1 := 0) (mc2 := 0) (ms2 := 0) (as := [.int 3]) (rest := []) (o := 44) rfl rfl hk_w.1.1 ok_Mod_fails rfl rfl cl_Mod_168 (by omega) (Nat.le_of_ble_eq_true rfl) (Nat.le_of_ble_eq_true rfl) (Nat.le_refl _) (Nat.le_refl _) (c_Mod_fails (w := w) hk_w hS 3 0) (fun r1 w1 hp => ?_) rfl rfl
        obtain ⟨rfl, hw1⟩ := hp
        rw [hw1]
        refine ⟨⟨Nat.le_refl _, Or.inl rfl⟩, ?_⟩
        exact z_zret (pc := 76) rfl rfl (by decide) (hb (if_pos ((name_iff h3 (hN i (by omega))).mpr ((lg_cmp_eq _ _).mp h68))))
set_option maxRecDepth 100000 in
set_option maxHeartbeats 4000000 in
theorem l_ho {w : zW} {n p H dd : Nat} {T : Nat → Int32} {A B : Nat → Int32} {c v : Int32} {P : Option Value → zW → Prop} (hk_w : mK w n T) (hS : mS w T n p) (hH : H ≤ 8) (hA : ∀ h, h < H → zI w 48 (8 + h) = A h ∧ zI w 49 (8 + h) = B h) (hc : zI w 48 (8 + H) = c) (hv : zI w 44 8 = v) (hdd : 1 ≤ dd) : ∀ m i, i + m = H → (hasAt A B c v m i = true → P (some (.int 0)) (zsI w 44 9 (flA T n 3 p))) → (¬ hasAt A B c v m i = true → zS 0 0 dd m_Mod_readsHouse P 214 [(0, .ref 44), (1, .int (nI (8 + H)))] [] w) → zS 0 0 dd m_Mod_readsHouse P 169 [(0, .ref 44), (1, .int (nI (8 + H))), (2, .int (nI (8 + i)))] [] w := by
  intro m
  induction m with
  | zero =>
    intro i hi hb hg
    have ei : i = H := by omega
    subst ei
    refine z_iload_n (pc := 169) (i := 2) (j := 2) rfl rfl rfl ?_
    refine z_iload_n (pc := 170) (i := 1) (j := 1) rfl rfl rfl ?_
    refine z_icmp_ge (pc := 171) (tgt := 214) rfl (by decide) (fun h171 => ?_) (fun h171 => ?_)
    · refine z_drop (ls' := [(0, .ref 44), (1, .int (nI (8 + i)))]) (by simp) ?_
      exact hg (fun e => by cases e)
    · exact absurd (Int32.le_refl _) h171
  | succ m ih =>
    intro i hi hb hg
    refine z_iload_n (pc := 169) (i := 2) (j := 2) rfl rfl rfl ?_
    refine z_iload_n (pc := 170) (i := 1) (j := 1) rfl rfl rfl ?_
    refine z_icmp_ge (pc := 171) (tgt := 214) rfl (by decide) (fun h171 => ?_) (fun h171 => ?_)
    · exact absurd h171 (nI_ge (by omega) (by omega))
    · refine z_aload_n (pc := 174) (i := 0) (j := 0) rfl rfl rfl ?_
      refine z_getR (pc := 175) (x := 48) rfl fl_Mod_20 hk_w.1.1 rfl (mr_48 hk_w.1) ?_
      refine z_iload_n (pc := 178) (i := 2) (j := 2) rfl rfl rfl ?_
      refine z_iald (pc := 179) rfl (mk_48 hk_w.1) (vp_in_nI (n := 8 + i) (N := 48) (by omega) (by decide)) ?_
      refine z_eqi (y := A i) (by rw [nI_clamp (by omega)]; exact (hA i (by omega)).1) ?_
      refine z_aload_n (pc := 180) (i := 0) (j := 0) rfl rfl rfl ?_
      refine z_getR (pc := 181) (x := 48) rfl fl_Mod_20 hk_w.1.1 rfl (mr_48 hk_w.1) ?_
      refine z_iload_n (pc := 184) (i := 1) (j := 1) rfl rfl rfl ?_
      refine z_iald (pc := 185) rfl (mk_48 hk_w.1) (vp_in_nI (n := 8 + H) (N := 48) (by omega) (by decide)) ?_
      refine z_eqi (y := c) (by rw [nI_clamp (by omega)]; exact hc) ?_
      refine z_icmp_ne (pc := 186) (tgt := 208) rfl (by decide) (fun h186 => ?_) (fun h186 => ?_)
      · refine z_iinc (pc := 208) (i := 2) (j := 2) (v := nI (8 + (i + 1))) (ls' := [(0, .ref 44), (1, .int (nI (8 + H))), (2, .int (nI (8 + (i + 1))))]) rfl rfl (nI_1 (8 + i)) (by decide) rfl ?_
        refine z_goto (pc := 211) (tgt := 169) rfl (by decide) ?_
        have eN : hasAt A B c v (m + 1) i = hasAt A B c v m (i + 1) := if_neg (fun e => h186 e.1)
        rw [eN] at hb hg
        exact ih (i + 1) (by omega) hb hg
      · refine z_aload_n (pc := 189) (i := 0) (j := 0) rfl rfl rfl ?_
        refine z_getR (pc := 190) (x := 49) rfl fl_Mod_23 hk_w.1.1 rfl (mr_49 hk_w.1) ?_
        refine z_iload_n (pc := 193) (i := 2) (j := 2) rfl rfl rfl ?_
        refine z_iald (pc := 194) rfl (mk_49 hk_w.1) (vp_in_nI (n := 8 + i) (N := 48) (by omega) (by decide)) ?_
        refine z_eqi (y := B i) (by rw [nI_clamp (by omega)]; exact (hA i (by omega)).2) ?_
        refine z_aload_n (pc := 195) (i := 0) (j := 0) rfl rfl rfl ?_
        refine z_getI (pc := 196) rfl fl_Mod_122 hk_w.1.1 rfl ?_
        refine z_eqi (y := v) hv ?_
        refine z_icmp_ne (pc := 199) (tgt := 208) rfl (by decide) (fun h199 => ?_) (fun h199 => ?_)
        · refine z_iinc (pc := 208) (i := 2) (j := 2) (v := nI (8 + (i + 1))) (ls' := [(0, .ref 44), (1, .int (nI (8 + H))), (2, .int (nI (8 + (i + 1))))]) rfl rfl (nI_1 (8 + i)) (by decide) rfl ?_
          refine z_goto (pc := 211) (tgt := 169) rfl (by decide) ?_
          have eN : hasAt A B c v (m + 1) i = hasAt A B c v m (i + 1) := if_neg (fun e => h199 e.2)
          rw [eN] at hb hg
          exact ih (i + 1) (by omega) hb hg
        · refine z_aload_n (pc := 202) (i := 0) (j := 0) rfl rfl rfl ?_
          refine z_iconst (pc := 203) (v := 3) rfl (by decide) ?_
          refine z_cV (pc := 204) (mc1 := 0) (ms1 := 0) (mc2 := 0) (ms2 := 0) (as := [.int 3]) (rest := []) (o := 44) rfl rfl hk_w.1.1 ok_Mod_fails rfl rfl cl_Mod_168 (by omega) (Nat.le_of_ble_eq_true rfl) (Nat.le_of_ble_eq_true rfl) (Nat.le_refl _) (Nat.le_refl _) (c_Mod_fails (w := w) hk_w hS 3 0) (fun r1 w1 hp => ?_) rfl rfl
          obtain ⟨rfl, hw1⟩ := hp
          rw [hw1]
          refine ⟨⟨Nat.le_refl _, Or.inl rfl⟩, ?_⟩
          exact z_zret (pc := 207) rfl rfl (by decide) (hb (if_pos ⟨h186, h199⟩))
