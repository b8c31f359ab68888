def zFs (w : zW) (f : Nat → Nat → Int32) (r : Nat → Int32) : Prop := (∀ o, (o < 57 ∨ 66 < o) → o ≠ 44 → o ≠ 67 → o ≠ 70 → o ≠ 71 → f o = zI w o) ∧ f 67 = r ∧ (∀ k, k ≠ 0 → f 44 k = zI w 44 k) ∧ f 44 0 = 0
theorem zFs_r {w : zW} {f : Nat → Nat → Int32} (h : zFr w f) : zFs w f (zI w 67) := ⟨fun o h1 h2 _ h3 h4 => h.1 o h1 h2 h3 h4, h.1 67 (by omega) (by decide) (by decide) (by decide), h.2.1, h.2.2⟩
theorem zFs_u {w : zW} {f : Nat → Nat → Int32} {r : Nat → Int32} (h : zFs w f r) (k : Nat) (x : Int32) : zFs w (z2 f 67 k x) (upd r k x) := ⟨fun o h1 h2 h3 h4 h5 => (z2_ro f (o := 67) k x h3).trans (h.1 o h1 h2 h3 h4 h5), by rw [z2_ru, h.2.1], fun j hj => (congrFun (z2_ro f (o := 67) (a := 44) k x (by decide)) j).trans (h.2.2.1 j hj), (congrFun (z2_ro f (o := 67) (a := 44) k x (by decide)) 0).trans h.2.2.2⟩
set_option maxRecDepth 100000 in
set_option maxHeartbeats 4000000 in
theorem c_Mod_light {w : zW} (hm : zMo w) {C R H : Nat} {V : Int32 → Int32} {G : Int32 → Int32 → Int32 → Int32} (hi : zMi (zI w) C R H V G) (b t : Int32) (d : Nat) (hd : 1 ≤ d) : zS 0 0 d m_Mod_light (fun rv w1 => ∃ f, w1 = zuI w f ∧ rv = some (.int (if hOK H b = true then (if (if (zI w 67 136 >>> (b &&& 31)) &&& 1 = 1 then 1 else 0 : Int32) = t then 0 else 1) else 0)) ∧ zFs w f (if hOK H b = true then (if (if (zI w 67 136 >>> (b &&& 31)) &&& 1 = 1 then 1 else 0 : Int32) = t then zI w 67 else upd (zI w 67) 136 (zI w 67 136 ^^^ (1 <<< (b &&& 31)))) else zI w 67)) 0 [(0, .ref 44), (1, .int b), (2, .int t)] [] w := by
  refine z_aload_n (pc := 0) (i := 0) (j := 0) rfl rfl rfl ?_
  refine z_iconst (pc := 1) (v := 0) rfl (by decide) ?_
  refine z_putI (pc := 2) rfl fl_Mod_100 hm.1 rfl  ?_
  change zS _ _ _ _ _ _ _ _ (zuI w (z2 (zI w) 44 0 0))
  obtain ⟨f0, hf0⟩ : ∃ f0, f0 = z2 (zI w) 44 0 0 := ⟨_, rfl⟩
  rw [← hf0]
  have F_f0 : zFr w f0 := hf0 ▸ zFr_0 w
  refine z_aload_n (pc := 5) (i := 0) (j := 0) rfl rfl rfl ?_
  refine z_iload_n (pc := 6) (i := 1) (j := 1) rfl rfl rfl ?_
  refine z_cV (pc := 7) (mc1 := 0) (ms1 := 0) (mc2 := 0) (ms2 := 0) (as := [.int b]) (rest := []) (o := 44) rfl rfl hm.1 ok_Mod_isHouse rfl rfl cl_Mod_270 (by omega) (Nat.le_of_ble_eq_true rfl) (Nat.le_of_ble_eq_true rfl) (Nat.le_refl _) (Nat.le_refl _) (c_Mod_isHouse (w := zuI w f0) hm b 0) (fun r1 w1 hp => ?_) rfl rfl
  obtain ⟨rfl, hw1⟩ := hp
  rw [hw1, show zI (zuI w f0) 46 (4 : Int32).toNatClampNeg = nI H from (zFr_i F_f0 hi).2.2.1, hOK_if hi.2.2.2.2.2.1]
  refine ⟨⟨Nat.le_refl _, Or.inl rfl⟩, ?_⟩
  refine z_if_eq (pc := 10) (tgt := 22) rfl (by decide) (fun h10 => ?_) (fun h10 => ?_)
  · refine z_iconst (pc := 22) (v := 0) rfl (by decide) ?_
    exact z_zret (pc := 23) rfl rfl (by decide) ⟨f0, rfl, by rw [if_neg (ite_eq h10)], by rw [if_neg (ite_eq h10)]; exact zFs_r F_f0⟩
  · refine z_aload_n (pc := 13) (i := 0) (j := 0) rfl rfl rfl ?_
    refine z_iload_n (pc := 14) (i := 1) (j := 1) rfl rfl rfl ?_
    refine z_cV (pc := 15) (mc1 := 0) (ms1 := 0) (mc2 := 0) (ms2 := 0) (as := [.int b]) (rest := []) (o := 44) rfl rfl hm.1 ok_Mod_isLit rfl rfl cl_Mod_276 (by omega) (Nat.le_of_ble_eq_true rfl) (Nat.le_of_ble_eq_true rfl) (Nat.le_refl _) (Nat.le_refl _) (c_Mod_isLit (w := zuI w f0) hm b 0) (fun r1 w1 hp => ?_) rfl rfl
    obtain ⟨rfl, hw1⟩ := hp
    rw [hw1, show zI (zuI w f0) 67 (136 : Int32).toNatClampNeg = zI w 67 136 from congrFun (F_f0.1 67 (by omega) (by decide) (by decide) (by decide)) 136]
    refine ⟨⟨Nat.le_refl _, Or.inl rfl⟩, ?_⟩
    refine z_iload_n (pc := 18) (i := 2) (j := 2) rfl rfl rfl ?_
    refine z_icmp_ne (pc := 19) (tgt := 24) rfl (by decide) (fun h19 => ?_) (fun h19 => ?_)
    · refine z_aload_n (pc := 24) (i := 0) (j := 0) rfl rfl rfl ?_
      refine z_getR (pc := 25) (x := 67) rfl fl_Mod_78 hm.1 rfl (mr_67 hm) ?_
      refine z_sipush (pc := 28) (v := 136) rfl (by decide) ?_
      refine z_dup2 (pc := 31) rfl rfl rfl ?_
      refine z_iald (pc := 32) rfl (mk_67 hm) (vp_in_nI (n := 136) (by decide) (by decide)) ?_
      refine z_eqi (y := zI w 67 136) (congrFun (F_f0.1 67 (by omega) (by decide) (by decide) (by decide)) 136) ?_
      refine z_iconst (pc := 33) (v := 1) rfl (by decide) ?_
      refine z_iload_n (pc := 34) (i := 1) (j := 1) rfl rfl rfl ?_
      refine z_ishl (pc := 35) rfl ?_
      refine z_ixor (pc := 36) rfl ?_
      refine z_iast (pc := 37) rfl (mk_67 hm) (vp_in_nI (n := 136) (by decide) (by decide)) ?_
      refine z_iconst (pc := 38) (v := 1) rfl (by decide) ?_
      exact z_zret (pc := 39) rfl rfl (by decide) ⟨_, rfl, by rw [if_pos (ite_ne h10), if_neg h19], by rw [if_pos (ite_ne h10), if_neg h19]; exact zFs_u (zFs_r F_f0) _ _⟩
    · refine z_iconst (pc := 22) (v := 0) rfl (by decide) ?_
      exact z_zret (pc := 23) rfl rfl (by decide) ⟨f0, rfl, by rw [if_pos (ite_ne h10), if_pos h19], by rw [if_pos (ite_ne h10), if_pos h19]; exact zFs_r F_f0⟩
set_option maxRecDepth 100000 in
set_option maxHeartbeats 4000000 in
theorem c_Mod_shut {w : zW} (hm : zMo w) {C R H : Nat} {V : Int32 → Int32} {G : Int32 → Int32 → Int32 → Int32} (hi : zMi (zI w) C R H V G) (b t : Int32) (d : Nat) (hd : 1 ≤ d) : zS 0 0 d m_Mod_shut (fun rv w1 => ∃ f, w1 = zuI w f ∧ rv = some (.int (if hOK H b = true then (if (if (zI w 67 137 >>> (b &&& 31)) &&& 1 = 1 then 1 else 0 : Int32) = t then 0 else 1) else 0)) ∧ zFs w f (if hOK H b = true then (if (if (zI w 67 137 >>> (b &&& 31)) &&& 1 = 1 then 1 else 0 : Int32) = t then zI w 67 else upd (zI w 67) 137 (zI w 67 137 ^^^ (1 <<< (b &&& 31)))) else zI w 67)) 0 [(0, .ref 44), (1, .int b), (2, .int t)] [] w := by
  refine z_aload_n (pc := 0) (i := 0) (j := 0) rfl rfl rfl ?_
  refine z_iconst (pc := 1) (v := 0) rfl (by decide) ?_
  refine z_putI (pc := 2) rfl fl_Mod_100 hm.1 rfl  ?_
  change zS _ _ _ _ _ _ _ _ (zuI w (z2 (zI w) 44 0 0))
  obtain ⟨f0, hf0⟩ : ∃ f0, f0 = z2 (zI w) 44 0 0 := ⟨_, rfl⟩
  rw [← hf0]
  have F_f0 : zFr w f0 := hf0 ▸ zFr_0 w
  refine z_aload_n (pc := 5) (i := 0) (j := 0) rfl rfl rfl ?_
  refine z_iload_n (pc := 6) (i := 1) (j := 1) rfl rfl rfl ?_
  refine z_cV (pc := 7) (mc1 := 0) (ms1 := 0) (mc2 := 0) (ms2 := 0) (as := [.int b]) (rest := []) (o := 44) rfl rfl hm.1 ok_Mod_isHouse rfl rfl cl_Mod_270 (by omega) (Nat.le_of_ble_eq_true rfl) (Nat.le_of_ble_eq_true rfl) (Nat.le_refl _) (Nat.le_refl _) (c_Mod_isHouse (w := zuI w f0) hm b 0) (fun r1 w1 hp => ?_) rfl rfl
  obtain ⟨rfl, hw1⟩ := hp
  rw [hw1, show zI (zuI w f0) 46 (4 : Int32).toNatClampNeg = nI H from (zFr_i F_f0 hi).2.2.1, hOK_if hi.2.2.2.2.2.1]
  refine ⟨⟨Nat.le_refl _, Or.inl rfl⟩, ?_⟩
  refine z_if_eq (pc := 10) (tgt := 22) rfl (by decide) (fun h10 => ?_) (fun h10 => ?_)
  · refine z_iconst (pc := 22) (v := 0) rfl (by decide) ?_
    exact z_zret (pc := 23) rfl rfl (by decide) ⟨f0, rfl, by rw [if_neg (ite_eq h10)], by rw [if_neg (ite_eq h10)]; exact zFs_r F_f0⟩
  · refine z_aload_n (pc := 13) (i := 0) (j := 0) rfl rfl rfl ?_
    refine z_iload_n (pc := 14) (i := 1) (j := 1) rfl rfl rfl ?_
    refine z_cV (pc := 15) (mc1 := 0) (ms1 := 0) (mc2 := 0) (ms2 := 0) (as := [.int b]) (rest := []) (o := 44) rfl rfl hm.1 ok_Mod_isShut rfl rfl cl_Mod_279 (by omega) (Nat.le_of_ble_eq_true rfl) (Nat.le_of_ble_eq_true rfl) (Nat.le_refl _) (Nat.le_refl _) (c_Mod_isShut (w := zuI w f0) hm b 0) (fun r1 w1 hp => ?_) rfl rfl
    obtain ⟨rfl, hw1⟩ := hp
    rw [hw1, show zI (zuI w f0) 67 (137 : Int32).toNatClampNeg = zI w 67 137 from congrFun (F_f0.1 67 (by omega) (by decide) (by decide) (by decide)) 137]
    refine ⟨⟨Nat.le_refl _, Or.inl rfl⟩, ?_⟩
    refine z_iload_n (pc := 18) (i := 2) (j := 2) rfl rfl rfl ?_
    refine z_icmp_ne (pc := 19) (tgt := 24) rfl (by decide) (fun h19 => ?_) (fun h19 => ?_)
    · refine z_aload_n (pc := 24) (i := 0) (j := 0) rfl rfl rfl ?_
      refine z_getR (pc := 25) (x := 67) rfl fl_Mod_78 hm.1 rfl (mr_67 hm) ?_
      refine z_sipush (pc := 28) (v := 137) rfl (by decide) ?_
      refine z_dup2 (pc := 31) rfl rfl rfl ?_
      refine z_iald (pc := 32) rfl (mk_67 hm) (vp_in_nI (n := 137) (by decide) (by decide)) ?_
      refine z_eqi (y := zI w 67 137) (congrFun (F_f0.1 67 (by omega) (by decide) (by decide) (by decide)) 137) ?_
      refine z_iconst (pc := 33) (v := 1) rfl (by decide) ?_
      refine z_iload_n (pc := 34) (i := 1) (j := 1) rfl rfl rfl ?_
      refine z_ishl (pc := 35) rfl ?_
      refine z_ixor (pc := 36) rfl ?_
      refine z_iast (pc := 37) rfl (mk_67 hm) (vp_in_nI (n := 137) (by decide) (by decide)) ?_
      refine z_iconst (pc := 38) (v := 1) rfl (by decide) ?_
      exact z_zret (pc := 39) rfl rfl (by decide) ⟨_, rfl, by rw [if_pos (ite_ne h10), if_neg h19], by rw [if_pos (ite_ne h10), if_neg h19]; exact zFs_u (zFs_r F_f0) _ _⟩
    · refine z_iconst (pc := 22) (v := 0) rfl (by decide) ?_
      exact z_zret (pc := 23) rfl rfl (by decide) ⟨f0, rfl, by rw [if_pos (ite_ne h10), if_pos h19], by rw [if_pos (ite_ne h10), if_pos h19]; exact zFs_r F_f0⟩
set_option maxRecDepth 100000 in
set_option maxHeartbeats 4000000 in
theorem c_Mod_clear {w : zW} (hm : zMo w) {C R H : Nat} {V : Int32 → Int32} {G : Int32 → Int32 → Int32 → Int32} (hi : zMi (zI w) C R H V G)  (d : Nat) (hd : 0 ≤ d) : zS 0 0 d m_Mod_clear (fun rv w1 => ∃ f, w1 = zuI w f ∧ rv = some (.int 1) ∧ zFs w f (upd (zI w 67) 140 0)) 0 [(0, .ref 44)] [] w := by
  refine z_aload_n (pc := 0) (i := 0) (j := 0) rfl rfl rfl ?_
  refine z_iconst (pc := 1) (v := 0) rfl (by decide) ?_
  refine z_putI (pc := 2) rfl fl_Mod_100 hm.1 rfl  ?_
  change zS _ _ _ _ _ _ _ _ (zuI w (z2 (zI w) 44 0 0))
  obtain ⟨f0, hf0⟩ : ∃ f0, f0 = z2 (zI w) 44 0 0 := ⟨_, rfl⟩
  rw [← hf0]
  have F_f0 : zFr w f0 := hf0 ▸ zFr_0 w
  refine z_aload_n (pc := 5) (i := 0) (j := 0) rfl rfl rfl ?_
  refine z_getR (pc := 6) (x := 67) rfl fl_Mod_78 hm.1 rfl (mr_67 hm) ?_
  refine z_sipush (pc := 9) (v := 140) rfl (by decide) ?_
  refine z_iconst (pc := 12) (v := 0) rfl (by decide) ?_
  refine z_iast (pc := 13) rfl (mk_67 hm) (vp_in_nI (n := 140) (by decide) (by decide)) ?_
  refine z_iconst (pc := 14) (v := 1) rfl (by decide) ?_
  exact z_zret (pc := 15) rfl rfl (by decide) ⟨_, rfl, rfl, zFs_u (zFs_r F_f0) _ _⟩
set_option maxRecDepth 100000 in
set_option maxHeartbeats 4000000 in
theorem c_Mod_pair {w : zW} (hm : zMo w) {C R H : Nat} {V : Int32 → Int32} {G : Int32 → Int32 → Int32 → Int32} (hi : zMi (zI w) C R H V G) (a b x : Int32) (d : Nat) (hd : 2 ≤ d) : zS 0 0 d m_Mod_pair (fun rv w1 => ∃ f, w1 = zuI w f ∧ rv = some (.int (if twoOK H a b = 0 then -1 else if (if x < 0 then 0 else if 1 < x then 0 else 1 : Int32) = 0 then -1 else zI w 67 ((if x = 0 then 0 else 64) + 8 * a.toNatClampNeg + b.toNatClampNeg))) ∧ zFr w f) 0 [(0, .ref 44), (1, .int a), (2, .int b), (3, .int x)] [] w := by
  refine z_aload_n (pc := 0) (i := 0) (j := 0) rfl rfl rfl ?_
  refine z_iconst (pc := 1) (v := 0) rfl (by decide) ?_
  refine z_putI (pc := 2) rfl fl_Mod_100 hm.1 rfl  ?_
  change zS _ _ _ _ _ _ _ _ (zuI w (z2 (zI w) 44 0 0))
  obtain ⟨f0, hf0⟩ : ∃ f0, f0 = z2 (zI w) 44 0 0 := ⟨_, rfl⟩
  rw [← hf0]
  have F_f0 : zFr w f0 := hf0 ▸ zFr_0 w
  refine z_aload_n (pc := 5) (i := 0) (j := 0) rfl rfl rfl ?_
  refine z_iload_n (pc := 6) (i := 1) (j := 1) rfl rfl rfl ?_
  refine z_iload_n (pc := 7) (i := 2) (j := 2) rfl rfl rfl ?_
  refine z_cV (pc := 8) (mc1 := 0) (ms1 := 0) (mc2 := 0) (ms2 := 0) (as := [.int a, .int b]) (rest := []) (o := 44) rfl rfl hm.1 ok_Mod_areTwo rfl rfl cl_Mod_330 (by omega) (Nat.le_of_ble_eq_true rfl) (Nat.le_of_ble_eq_true rfl) (Nat.le_refl _) (Nat.le_refl _) (c_Mod_areTwo (w := zuI w f0) hm (zFr_i F_f0 hi) a b 1 (by decide)) (fun r1 w1 hp => ?_) rfl rfl
  obtain ⟨rfl, hw1⟩ := hp
  rw [hw1]
  refine ⟨⟨Nat.le_refl _, Or.inl rfl⟩, ?_⟩
  refine z_if_eq (pc := 11) (tgt := 48) rfl (by decide) (fun h11 => ?_) (fun h11 => ?_)
  · refine z_iconst (pc := 48) (v := (-1)) rfl (by decide) ?_
    exact z_iret (pc := 49) rfl rfl ⟨f0, rfl, by rw [if_pos h11], F_f0⟩
  · obtain ⟨i, j, hi1, hj1, rfl, rfl, hij⟩ := twoOK_of hi.2.2.2.2.2.1 h11
    have hH8 := hi.2.2.2.2.2.1
    refine z_iload_n (pc := 14) (i := 3) (j := 3) rfl rfl rfl ?_
    refine z_iconst (pc := 15) (v := 0) rfl (by decide) ?_
    refine z_iconst (pc := 16) (v := 1) rfl (by decide) ?_
    refine z_cS (pc := 17) (mc1 := 0) (ms1 := 0) (mc2 := 0) (ms2 := 0) (as := [.int x, .int 0, .int 1]) (rest := []) ok_Mod_within rfl rfl cl_Mod_214 (by omega) (Nat.le_of_ble_eq_true rfl) (Nat.le_of_ble_eq_true rfl) (Nat.le_refl _) (Nat.le_refl _) (c_Mod_within x 0 1 0 _) (fun r1 w1 hp => ?_) rfl rfl
    obtain ⟨rfl, hw1⟩ := hp
    rw [hw1]
    refine ⟨⟨Nat.le_refl _, Or.inl rfl⟩, ?_⟩
    refine z_if_eq (pc := 20) (tgt := 48) rfl (by decide) (fun h20 => ?_) (fun h20 => ?_)
    · refine z_iconst (pc := 48) (v := (-1)) rfl (by decide) ?_
      exact z_iret (pc := 49) rfl rfl ⟨f0, rfl, by rw [if_neg h11, if_pos h20], F_f0⟩
    · refine z_aload_n (pc := 23) (i := 0) (j := 0) rfl rfl rfl ?_
      refine z_getR (pc := 24) (x := 67) rfl fl_Mod_78 hm.1 rfl (mr_67 hm) ?_
      refine z_iload_n (pc := 27) (i := 3) (j := 3) rfl rfl rfl ?_
      have j37 : ∀ u : Int32, (u = nI (if x = 0 then 0 else 64)) → zS 0 0 d m_Mod_pair (fun rv w1 => ∃ f, w1 = zuI w f ∧ rv = some (.int (if twoOK H (nI i) (nI j) = 0 then -1 else if (if x < 0 then 0 else if 1 < x then 0 else 1 : Int32) = 0 then -1 else zI w 67 ((if x = 0 then 0 else 64) + 8 * (nI i).toNatClampNeg + (nI j).toNatClampNeg))) ∧ zFr w f) 37 [(0, .ref 44), (1, .int (nI i)), (2, .int (nI j)), (3, .int x)] [.int u, .ref 67] (zuI w f0) := by
        intro u h_j37
        refine z_bipush (pc := 37) (v := 8) rfl (by decide) ?_
        refine z_iload_n (pc := 39) (i := 1) (j := 1) rfl rfl rfl ?_
        refine z_imul (pc := 40) rfl ?_
        refine z_iadd (pc := 41) rfl ?_
        refine z_iload_n (pc := 42) (i := 2) (j := 2) rfl rfl rfl ?_
        refine z_iadd (pc := 43) rfl ?_
        refine z_eqi (y := nI ((if x = 0 then 0 else 64) + 8 * i + j)) (by rw [h_j37, show (8 : Int32) = nI 8 from rfl, pk_mul, nI_add, nI_add]) ?_
        refine z_iald (pc := 44) rfl (mk_67 hm) (vp_in_nI (show (if x = 0 then 0 else 64) + 8 * i + j < 1344 by split <;> omega) (by decide)) ?_
        refine z_eqi (y := zI w 67 ((if x = 0 then 0 else 64) + 8 * i + j)) (by rw [nI_clamp (by split <;> omega)]; exact congrFun (F_f0.1 67 (by omega) (by decide) (by decide) (by decide)) _) ?_
        refine z_goto (pc := 45) (tgt := 49) rfl (by decide) ?_
        exact z_iret (pc := 49) rfl rfl ⟨f0, rfl, by rw [if_neg h11, if_neg h20, nI_clamp (n := i) (by omega), nI_clamp (n := j) (by omega)], F_f0⟩
      refine z_if_ne (pc := 28) (tgt := 35) rfl (by decide) (fun h28 => ?_) (fun h28 => ?_)
      · refine z_bipush (pc := 35) (v := 64) rfl (by decide) ?_
        exact j37 _ (by first | (rw [if_neg h28]; done) | (rw [if_neg h28]; rfl))
      · refine z_iconst (pc := 31) (v := 0) rfl (by decide) ?_
        refine z_goto (pc := 32) (tgt := 37) rfl (by decide) ?_
        exact j37 _ (by first | (rw [if_pos h28]; done) | (rw [if_pos h28]; rfl))
set_option maxRecDepth 100000 in
set_option maxHeartbeats 4000000 in
theorem c_Mod_sight {w : zW} (hm : zMo w) {C R H : Nat} {V : Int32 → Int32} {G : Int32 → Int32 → Int32 → Int32} (hi : zMi (zI w) C R H V G) {n : Nat} (hn : zI w 67 140 = nI n) (hn1 : n ≤ 10) (a b t : Int32) (d : Nat) (hd : 2 ≤ d) : zS 0 0 d m_Mod_sight (fun rv w1 => ∃ f, w1 = zuI w f ∧ rv = some (.int (if twoOK H a b = 0 then -1 else if nI n = 10 then -1 else nI n + 1)) ∧ zFs w f (if twoOK H a b = 0 then zI w 67 else if nI n = 10 then zI w 67 else upd (upd (upd (upd (zI w 67) (141 + 3 * n) a) (141 + 3 * n + 1) b) (141 + 3 * n + 2) (if t = 0 then 0 else 1)) 140 (nI n + 1))) 0 [(0, .ref 44), (1, .int a), (2, .int b), (3, .int t)] [] w := by
  refine z_aload_n (pc := 0) (i := 0) (j := 0) rfl rfl rfl ?_
  refine z_iconst (pc := 1) (v := 0) rfl (by decide) ?_
  refine z_putI (pc := 2) rfl fl_Mod_100 hm.1 rfl  ?_
  change zS _ _ _ _ _ _ _ _ (zuI w (z2 (zI w) 44 0 0))
  obtain ⟨f0, hf0⟩ : ∃ f0, f0 = z2 (zI w) 44 0 0 := ⟨_, rfl⟩
  rw [← hf0]
  have F_f0 : zFr w f0 := hf0 ▸ zFr_0 w
  refine z_aload_n (pc := 5) (i := 0) (j := 0) rfl rfl rfl ?_
  refine z_iload_n (pc := 6) (i := 1) (j := 1) rfl rfl rfl ?_
  refine z_iload_n (pc := 7) (i := 2) (j := 2) rfl rfl rfl ?_
  refine z_cV (pc := 8) (mc1 := 0) (ms1 := 0) (mc2 := 0) (ms2 := 0) (as := [.int a, .int b]) (rest := []) (o := 44) rfl rfl hm.1 ok_Mod_areTwo rfl rfl cl_Mod_330 (by omega) (Nat.le_of_ble_eq_true rfl) (Nat.le_of_ble_eq_true rfl) (Nat.le_refl _) (Nat.le_refl _) (c_Mod_areTwo (w := zuI w f0) hm (zFr_i F_f0 hi) a b 1 (by decide)) (fun r1 w1 hp => ?_) rfl rfl
  obtain ⟨rfl, hw1⟩ := hp
  rw [hw1]
  refine ⟨⟨Nat.le_refl _, Or.inl rfl⟩, ?_⟩
  refine z_if_eq (pc := 11) (tgt := 27) rfl (by decide) (fun h11 => ?_) (fun h11 => ?_)
  · refine z_iconst (pc := 27) (v := (-1)) rfl (by decide) ?_
    exact z_iret (pc := 28) rfl rfl ⟨f0, rfl, by rw [if_pos h11], by rw [if_pos h11]; exact zFs_r F_f0⟩
  · refine z_aload_n (pc := 14) (i := 0) (j := 0) rfl rfl rfl ?_
    refine z_getR (pc := 15) (x := 67) rfl fl_Mod_78 hm.1 rfl (mr_67 hm) ?_
    refine z_sipush (pc := 18) (v := 140) rfl (by decide) ?_
    refine z_iald (pc := 21) rfl (mk_67 hm) (vp_in_nI (n := 140) (by decide) (by decide)) ?_
    refine z_eqi (y := nI n) ((congrFun (F_f0.1 67 (by omega) (by decide) (by decide) (by decide)) 140).trans hn) ?_
    refine z_bipush (pc := 22) (v := 10) rfl (by decide) ?_
    refine z_icmp_ne (pc := 24) (tgt := 29) rfl (by decide) (fun h24 => ?_) (fun h24 => ?_)
    · refine z_sipush (pc := 29) (v := 141) rfl (by decide) ?_
      refine z_iconst (pc := 32) (v := 3) rfl (by decide) ?_
      refine z_aload_n (pc := 33) (i := 0) (j := 0) rfl rfl rfl ?_
      refine z_getR (pc := 34) (x := 67) rfl fl_Mod_78 hm.1 rfl (mr_67 hm) ?_
      refine z_sipush (pc := 37) (v := 140) rfl (by decide) ?_
      refine z_iald (pc := 40) rfl (mk_67 hm) (vp_in_nI (n := 140) (by decide) (by decide)) ?_
      refine z_eqi (y := nI n) ((congrFun (F_f0.1 67 (by omega) (by decide) (by decide) (by decide)) 140).trans hn) ?_
      refine z_imul (pc := 41) rfl ?_
      refine z_iadd (pc := 42) rfl ?_
      refine z_eqi (y := nI (141 + 3 * n)) (by rw [show (3 : Int32) = nI 3 from rfl, show (141 : Int32) = nI 141 from rfl, pk_mul, nI_add]) ?_
      refine z_istore (pc := 43) (i := 4) (ls' := [(0, .ref 44), (1, .int a), (2, .int b), (3, .int t), (4, .int (nI (141 + 3 * n)))]) rfl (by decide) rfl ?_
      refine z_aload_n (pc := 45) (i := 0) (j := 0) rfl rfl rfl ?_
      refine z_getR (pc := 46) (x := 67) rfl fl_Mod_78 hm.1 rfl (mr_67 hm) ?_
      refine z_iload (pc := 49) (i := 4) (j := 4) rfl rfl ?_
      refine z_iload_n (pc := 51) (i := 1) (j := 1) rfl rfl rfl ?_
      refine z_iast (pc := 52) rfl (mk_67 hm) (vp_in_nI (show 141 + 3 * n < 1344 by omega) (by decide)) ?_
      refine z_aload_n (pc := 53) (i := 0) (j := 0) rfl rfl rfl ?_
      refine z_getR (pc := 54) (x := 67) rfl fl_Mod_78 hm.1 rfl (mr_67 hm) ?_
      refine z_iload (pc := 57) (i := 4) (j := 4) rfl rfl ?_
      refine z_iconst (pc := 59) (v := 1) rfl (by decide) ?_
      refine z_iadd (pc := 60) rfl ?_
      refine z_eqi (y := nI (141 + 3 * n + 1)) (nI_1 _) ?_
      refine z_iload_n (pc := 61) (i := 2) (j := 2) rfl rfl rfl ?_
      refine z_iast (pc := 62) rfl (mk_67 hm) (vp_in_nI (show 141 + 3 * n + 1 < 1344 by omega) (by decide)) ?_
      refine z_aload_n (pc := 63) (i := 0) (j := 0) rfl rfl rfl ?_
      refine z_getR (pc := 64) (x := 67) rfl fl_Mod_78 hm.1 rfl (mr_67 hm) ?_
      refine z_iload (pc := 67) (i := 4) (j := 4) rfl rfl ?_
      refine z_iconst (pc := 69) (v := 2) rfl (by decide) ?_
      refine z_iadd (pc := 70) rfl ?_
      refine z_eqi (y := nI (141 + 3 * n + 2)) (by rw [show (2 : Int32) = nI 2 from rfl, nI_add]) ?_
      refine z_iload_n (pc := 71) (i := 3) (j := 3) rfl rfl rfl ?_
      have j80 : ∀ u : Int32, (u = (if t = 0 then 0 else 1)) → zS 0 0 d m_Mod_sight (fun rv w1 => ∃ f, w1 = zuI w f ∧ rv = some (.int (if twoOK H a b = 0 then -1 else if nI n = 10 then -1 else nI n + 1)) ∧ zFs w f (if twoOK H a b = 0 then zI w 67 else if nI n = 10 then zI w 67 else upd (upd (upd (upd (zI w 67) (141 + 3 * n) a) (141 + 3 * n + 1) b) (141 + 3 * n + 2) (if t = 0 then 0 else 1)) 140 (nI n + 1))) 80 [(0, .ref 44), (1, .int a), (2, .int b), (3, .int t), (4, .int (nI (141 + 3 * n)))] [.int u, .int (nI (141 + 3 * n + 2)), .ref 67] (zuI w (z2 (z2 f0 67 (nI (141 + 3 * n)).toNatClampNeg a) 67 (nI (141 + 3 * n + 1)).toNatClampNeg b)) := by
        intro u h_j80
        refine z_iast (pc := 80) rfl (mk_67 hm) (vp_in_nI (show 141 + 3 * n + 2 < 1344 by omega) (by decide)) ?_
        rw [nI_clamp (show 141 + 3 * n < 2 ^ 31 by omega), nI_clamp (show 141 + 3 * n + 1 < 2 ^ 31 by omega), nI_clamp (show 141 + 3 * n + 2 < 2 ^ 31 by omega), h_j80]
        change zS _ _ _ _ _ _ _ _ (zuI w (z2 (z2 (z2 f0 67 (141 + 3 * n) a) 67 (141 + 3 * n + 1) b) 67 (141 + 3 * n + 2) (if t = 0 then 0 else 1)))
        have F4 := zFs_u (zFs_u (zFs_u (zFs_r F_f0) (141 + 3 * n) a) (141 + 3 * n + 1) b) (141 + 3 * n + 2) (if t = 0 then 0 else 1)
        generalize z2 (z2 (z2 f0 67 (141 + 3 * n) a) 67 (141 + 3 * n + 1) b) 67 (141 + 3 * n + 2) (if t = 0 then 0 else 1) = f4 at F4
        refine z_aload_n (pc := 81) (i := 0) (j := 0) rfl rfl rfl ?_
        refine z_getR (pc := 82) (x := 67) rfl fl_Mod_78 hm.1 rfl (mr_67 hm) ?_
        refine z_sipush (pc := 85) (v := 140) rfl (by decide) ?_
        refine z_dup2 (pc := 88) rfl rfl rfl ?_
        refine z_iald (pc := 89) rfl (mk_67 hm) (vp_in_nI (n := 140) (by decide) (by decide)) ?_
        refine z_eqi (y := nI n) ((congrFun F4.2.1 140).trans ((pk_un (by omega)).trans ((pk_un (by omega)).trans ((pk_un (by omega)).trans hn)))) ?_
        refine z_iconst (pc := 90) (v := 1) rfl (by decide) ?_
        refine z_iadd (pc := 91) rfl ?_
        refine z_iast (pc := 92) rfl (mk_67 hm) (vp_in_nI (n := 140) (by decide) (by decide)) ?_
        refine z_aload_n (pc := 93) (i := 0) (j := 0) rfl rfl rfl ?_
        refine z_getR (pc := 94) (x := 67) rfl fl_Mod_78 hm.1 rfl (mr_67 hm) ?_
        refine z_sipush (pc := 97) (v := 140) rfl (by decide) ?_
        refine z_iald (pc := 100) rfl (mk_67 hm) (vp_in_nI (n := 140) (by decide) (by decide)) ?_
        refine z_eqi (y := nI n + 1) (z2_hit f4 67 140 _) ?_
        exact z_iret (pc := 101) rfl rfl ⟨_, rfl, by rw [if_neg h11, if_neg h24], by rw [if_neg h11, if_neg h24]; exact zFs_u F4 _ _⟩
      refine z_if_eq (pc := 72) (tgt := 79) rfl (by decide) (fun h72 => ?_) (fun h72 => ?_)
      · refine z_iconst (pc := 79) (v := 0) rfl (by decide) ?_
        exact j80 _ (by rw [if_pos h72])
      · refine z_iconst (pc := 75) (v := 1) rfl (by decide) ?_
        refine z_goto (pc := 76) (tgt := 80) rfl (by decide) ?_
        exact j80 _ (by rw [if_neg h72])
    · refine z_iconst (pc := 27) (v := (-1)) rfl (by decide) ?_
      exact z_iret (pc := 28) rfl rfl ⟨f0, rfl, by rw [if_neg h11, if_pos h24], by rw [if_neg h11, if_pos h24]; exact zFs_r F_f0⟩
def mHouse (f : Nat → Nat → Int32) (j : Nat) (x : Int32) : Int32 := if x = 0 then f 48 j else if x = 1 then f 49 j else if x = 2 then f 50 j else if x = 3 then f 51 j else if x = 4 then (f 67 136 >>> (nI j &&& 31)) &&& 1 else if x = 5 then (f 67 137 >>> (nI j &&& 31)) &&& 1 else if x = 6 then orN (wedTo (f 67) j) 8 else f 67 (128 + j)
theorem wi_of {x b : Int32} (h : ¬ (if x < 0 then 0 else if b < x then 0 else 1 : Int32) = 0) : 0 ≤ x.toInt ∧ x.toInt ≤ b.toInt := by
  have z0 : (0 : Int32).toInt = 0 := rfl
  by_cases h1 : x < 0
  · rw [if_pos h1] at h; exact absurd rfl h
  · rw [if_neg h1] at h
    by_cases h2 : b < x
    · rw [if_pos h2] at h; exact absurd rfl h
    · rw [fa_lt] at h1 h2; omega
theorem house_3 {x : Int32} (h : ¬ (if x < 0 then 0 else if 7 < x then 0 else 1 : Int32) = 0) (h4 : ¬ 4 ≤ x) (h0 : ¬ x = 0) (h1 : ¬ x = 1) (h2 : ¬ x = 2) : x = 3 := by
  have := wi_of h
  have z0 : (0 : Int32).toInt = 0 := rfl
  have z1 : (1 : Int32).toInt = 1 := rfl
  have z2 : (2 : Int32).toInt = 2 := rfl
  have z3 : (3 : Int32).toInt = 3 := rfl
  have z4 : (4 : Int32).toInt = 4 := rfl
  rw [fa_le] at h4
  rw [fa_eq] at h0 h1 h2 ⊢
  omega
theorem house_4 {x : Int32} (h4 : 4 ≤ x) : ¬ x = 0 ∧ ¬ x = 1 ∧ ¬ x = 2 ∧ ¬ x = 3 := by
  refine ⟨?_, ?_, ?_, ?_⟩ <;> (rintro rfl; exact absurd h4 (by decide))
set_option maxRecDepth 100000 in
set_option maxHeartbeats 4000000 in
theorem c_Mod_house {w : zW} (hm : zMo w) {C R H : Nat} {V : Int32 → Int32} {G : Int32 → Int32 → Int32 → Int32} (hi : zMi (zI w) C R H V G) (b x : Int32) (d : Nat) (hd : 1 ≤ d) : zS 0 0 d m_Mod_house (fun rv w1 => ∃ f, w1 = zuI w f ∧ rv = some (.int (if hOK H b = true then (if (if x < 0 then 0 else if 7 < x then 0 else 1 : Int32) = 0 then -1 else mHouse (zI w) b.toNatClampNeg x) else -1)) ∧ zFr w f) 0 [(0, .ref 44), (1, .int b), (2, .int x)] [] w := by
  refine z_aload_n (pc := 0) (i := 0) (j := 0) rfl rfl rfl ?_
  refine z_iconst (pc := 1) (v := 0) rfl (by decide) ?_
  refine z_putI (pc := 2) rfl fl_Mod_100 hm.1 rfl  ?_
  change zS _ _ _ _ _ _ _ _ (zuI w (z2 (zI w) 44 0 0))
  obtain ⟨f0, hf0⟩ : ∃ f0, f0 = z2 (zI w) 44 0 0 := ⟨_, rfl⟩
  rw [← hf0]
  have F_f0 : zFr w f0 := hf0 ▸ zFr_0 w
  refine z_aload_n (pc := 5) (i := 0) (j := 0) rfl rfl rfl ?_
  refine z_iload_n (pc := 6) (i := 1) (j := 1) rfl rfl rfl ?_
  refine z_cV (pc := 7) (mc1 := 0) (ms1 := 0) (mc2 := 0) (ms2 := 0) (as := [.int b]) (rest := []) (o := 44) rfl rfl hm.1 ok_Mod_isHouse rfl rfl cl_Mod_270 (by omega) (Nat.le_of_ble_eq_true rfl) (Nat.le_of_ble_eq_true rfl) (Nat.le_refl _) (Nat.le_refl _) (c_Mod_isHouse (w := zuI w f0) hm b 0) (fun r1 w1 hp => ?_) rfl rfl
  obtain ⟨rfl, hw1⟩ := hp
  rw [hw1, show zI (zuI w f0) 46 (4 : Int32).toNatClampNeg = nI H from (zFr_i F_f0 hi).2.2.1, hOK_if hi.2.2.2.2.2.1]
  refine ⟨⟨Nat.le_refl _, Or.inl rfl⟩, ?_⟩
  refine z_if_eq (pc := 10) (tgt := 23) rfl (by decide) (fun h10 => ?_) (fun h10 => ?_)
  · refine z_iconst (pc := 23) (v := (-1)) rfl (by decide) ?_
    exact z_iret (pc := 24) rfl rfl ⟨f0, rfl, by rw [if_neg (ite_eq h10)], F_f0⟩
  · obtain ⟨j, hj, rfl⟩ := hOK_of hi.2.2.2.2.2.1 (ite_ne h10)
    have hj8 : j < 8 := Nat.lt_of_lt_of_le hj hi.2.2.2.2.2.1
    refine z_iload_n (pc := 13) (i := 2) (j := 2) rfl rfl rfl ?_
    refine z_iconst (pc := 14) (v := 0) rfl (by decide) ?_
    refine z_bipush (pc := 15) (v := 7) rfl (by decide) ?_
    refine z_cS (pc := 17) (mc1 := 0) (ms1 := 0) (mc2 := 0) (ms2 := 0) (as := [.int x, .int 0, .int 7]) (rest := []) ok_Mod_within rfl rfl cl_Mod_214 (by omega) (Nat.le_of_ble_eq_true rfl) (Nat.le_of_ble_eq_true rfl) (Nat.le_refl _) (Nat.le_refl _) (c_Mod_within x 0 7 0 _) (fun r1 w1 hp => ?_) rfl rfl
    obtain ⟨rfl, hw1⟩ := hp
    rw [hw1]
    refine ⟨⟨Nat.le_refl _, Or.inl rfl⟩, ?_⟩
    refine z_if_ne (pc := 20) (tgt := 25) rfl (by decide) (fun h20 => ?_) (fun h20 => ?_)
    · refine z_iload_n (pc := 25) (i := 2) (j := 2) rfl rfl rfl ?_
      refine z_iconst (pc := 26) (v := 4) rfl (by decide) ?_
      refine z_icmp_ge (pc := 27) (tgt := 78) rfl (by decide) (fun h27 => ?_) (fun h27 => ?_)
      · refine z_iload_n (pc := 78) (i := 2) (j := 2) rfl rfl rfl ?_
        refine z_iconst (pc := 79) (v := 4) rfl (by decide) ?_
        refine z_icmp_ne (pc := 80) (tgt := 98) rfl (by decide) (fun h80 => ?_) (fun h80 => ?_)
        · refine z_iload_n (pc := 98) (i := 2) (j := 2) rfl rfl rfl ?_
          refine z_iconst (pc := 99) (v := 5) rfl (by decide) ?_
          refine z_icmp_ne (pc := 100) (tgt := 118) rfl (by decide) (fun h100 => ?_) (fun h100 => ?_)
          · refine z_iload_n (pc := 118) (i := 2) (j := 2) rfl rfl rfl ?_
            refine z_bipush (pc := 119) (v := 6) rfl (by decide) ?_
            refine z_icmp_ne (pc := 121) (tgt := 132) rfl (by decide) (fun h121 => ?_) (fun h121 => ?_)
            · refine z_aload_n (pc := 132) (i := 0) (j := 0) rfl rfl rfl ?_
              refine z_getR (pc := 133) (x := 67) rfl fl_Mod_78 hm.1 rfl (mr_67 hm) ?_
              refine z_sipush (pc := 136) (v := 128) rfl (by decide) ?_
              refine z_iload_n (pc := 139) (i := 1) (j := 1) rfl rfl rfl ?_
              refine z_iadd (pc := 140) rfl ?_
              refine z_eqi (y := nI (128 + j)) (by rw [show (128 : Int32) = nI 128 from rfl, nI_add]) ?_
              refine z_iald (pc := 141) rfl (mk_67 hm) (vp_in_nI (show 128 + j < 1344 by omega) (by decide)) ?_
              refine z_eqi (y := zI w 67 (128 + j)) (by rw [nI_clamp (by omega)]; exact congrFun (F_f0.1 67 (by omega) (by decide) (by decide) (by decide)) _) ?_
              exact z_iret (pc := 142) rfl rfl ⟨f0, rfl, by rw [if_pos (ite_ne h10), nI_clamp (n := j) (by omega), if_neg h20]; unfold mHouse; have h4 := house_4 h27; rw [if_neg h4.1, if_neg h4.2.1, if_neg h4.2.2.1, if_neg h4.2.2.2, if_neg h80, if_neg h100, if_neg h121], F_f0⟩
            · refine z_aload_n (pc := 124) (i := 0) (j := 0) rfl rfl rfl ?_
              refine z_iload_n (pc := 125) (i := 1) (j := 1) rfl rfl rfl ?_
              refine z_cV (pc := 126) (mc1 := 0) (ms1 := 0) (mc2 := 0) (ms2 := 0) (as := [.int (nI j)]) (rest := []) (o := 44) rfl rfl hm.1 ok_Mod_wedTo rfl rfl cl_Mod_273 (by omega) (Nat.le_of_ble_eq_true rfl) (Nat.le_of_ble_eq_true rfl) (Nat.le_refl _) (Nat.le_refl _) (c_Mod_wedTo (w := zuI w f0) hm hj8 0) (fun r1 w1 hp => ?_) rfl rfl
              obtain ⟨rfl, hw1⟩ := hp
              rw [hw1, show zI (zuI w f0) 67 = zI w 67 from F_f0.1 67 (by omega) (by decide) (by decide) (by decide)]
              refine ⟨⟨Nat.le_refl _, Or.inl rfl⟩, ?_⟩
              refine z_goto (pc := 129) (tgt := 142) rfl (by decide) ?_
              exact z_iret (pc := 142) rfl rfl ⟨f0, rfl, by rw [if_pos (ite_ne h10), nI_clamp (n := j) (by omega), if_neg h20]; unfold mHouse; have h4 := house_4 h27; rw [if_neg h4.1, if_neg h4.2.1, if_neg h4.2.2.1, if_neg h4.2.2.2, if_neg h80, if_neg h100, if_pos h121], F_f0⟩
          · refine z_aload_n (pc := 103) (i := 0) (j := 0) rfl rfl rfl ?_
            refine z_getR (pc := 104) (x := 67) rfl fl_Mod_78 hm.1 rfl (mr_67 hm) ?_
            refine z_sipush (pc := 107) (v := 137) rfl (by decide) ?_
            refine z_iald (pc := 110) rfl (mk_67 hm) (vp_in_nI (n := 137) (by decide) (by decide)) ?_
            refine z_eqi (y := zI w 67 137) (congrFun (F_f0.1 67 (by omega) (by decide) (by decide) (by decide)) 137) ?_
            refine z_iload_n (pc := 111) (i := 1) (j := 1) rfl rfl rfl ?_
            refine z_ishr (pc := 112) rfl ?_
            refine z_iconst (pc := 113) (v := 1) rfl (by decide) ?_
            refine z_iand (pc := 114) rfl ?_
            refine z_goto (pc := 115) (tgt := 142) rfl (by decide) ?_
            exact z_iret (pc := 142) rfl rfl ⟨f0, rfl, by rw [if_pos (ite_ne h10), nI_clamp (n := j) (by omega), if_neg h20]; unfold mHouse; have h4 := house_4 h27; rw [if_neg h4.1, if_neg h4.2.1, if_neg h4.2.2.1, if_neg h4.2.2.2, if_neg h80, if_pos h100], F_f0⟩
        · refine z_aload_n (pc := 83) (i := 0) (j := 0) rfl rfl rfl ?_
          refine z_getR (pc := 84) (x := 67) rfl fl_Mod_78 hm.1 rfl (mr_67 hm) ?_
          refine z_sipush (pc := 87) (v := 136) rfl (by decide) ?_
          refine z_iald (pc := 90) rfl (mk_67 hm) (vp_in_nI (n := 136) (by decide) (by decide)) ?_
          refine z_eqi (y := zI w 67 136) (congrFun (F_f0.1 67 (by omega) (by decide) (by decide) (by decide)) 136) ?_
          refine z_iload_n (pc := 91) (i := 1) (j := 1) rfl rfl rfl ?_
          refine z_ishr (pc := 92) rfl ?_
          refine z_iconst (pc := 93) (v := 1) rfl (by decide) ?_
          refine z_iand (pc := 94) rfl ?_
          refine z_goto (pc := 95) (tgt := 142) rfl (by decide) ?_
          exact z_iret (pc := 142) rfl rfl ⟨f0, rfl, by rw [if_pos (ite_ne h10), nI_clamp (n := j) (by omega), if_neg h20]; unfold mHouse; have h4 := house_4 h27; rw [if_neg h4.1, if_neg h4.2.1, if_neg h4.2.2.1, if_neg h4.2.2.2, if_pos h80], F_f0⟩
      · refine z_iload_n (pc := 30) (i := 2) (j := 2) rfl rfl rfl ?_
        refine z_if_ne (pc := 31) (tgt := 43) rfl (by decide) (fun h31 => ?_) (fun h31 => ?_)
        · refine z_iload_n (pc := 43) (i := 2) (j := 2) rfl rfl rfl ?_
          refine z_iconst (pc := 44) (v := 1) rfl (by decide) ?_
          refine z_icmp_ne (pc := 45) (tgt := 57) rfl (by decide) (fun h45 => ?_) (fun h45 => ?_)
          · refine z_iload_n (pc := 57) (i := 2) (j := 2) rfl rfl rfl ?_
            refine z_iconst (pc := 58) (v := 2) rfl (by decide) ?_
            refine z_icmp_ne (pc := 59) (tgt := 71) rfl (by decide) (fun h59 => ?_) (fun h59 => ?_)
            · refine z_aload_n (pc := 71) (i := 0) (j := 0) rfl rfl rfl ?_
              refine z_getR (pc := 72) (x := 51) rfl fl_Mod_29 hm.1 rfl (mr_51 hm) ?_
              refine z_iload_n (pc := 75) (i := 1) (j := 1) rfl rfl rfl ?_
              refine z_iald (pc := 76) rfl (mk_51 hm) (vp_in_nI (show j < 48 by omega) (by decide)) ?_
              refine z_eqi (y := zI w 51 j) (by rw [nI_clamp (by omega)]; exact congrFun (F_f0.1 51 (by omega) (by decide) (by decide) (by decide)) _) ?_
              exact z_iret (pc := 77) rfl rfl ⟨f0, rfl, by rw [if_pos (ite_ne h10), nI_clamp (n := j) (by omega), if_neg h20]; unfold mHouse; rw [if_neg h31, if_neg h45, if_neg h59, if_pos (house_3 h20 h27 h31 h45 h59)], F_f0⟩
            · refine z_aload_n (pc := 62) (i := 0) (j := 0) rfl rfl rfl ?_
              refine z_getR (pc := 63) (x := 50) rfl fl_Mod_26 hm.1 rfl (mr_50 hm) ?_
              refine z_iload_n (pc := 66) (i := 1) (j := 1) rfl rfl rfl ?_
              refine z_iald (pc := 67) rfl (mk_50 hm) (vp_in_nI (show j < 48 by omega) (by decide)) ?_
              refine z_eqi (y := zI w 50 j) (by rw [nI_clamp (by omega)]; exact congrFun (F_f0.1 50 (by omega) (by decide) (by decide) (by decide)) _) ?_
              refine z_goto (pc := 68) (tgt := 77) rfl (by decide) ?_
              exact z_iret (pc := 77) rfl rfl ⟨f0, rfl, by rw [if_pos (ite_ne h10), nI_clamp (n := j) (by omega), if_neg h20]; unfold mHouse; rw [if_neg h31, if_neg h45, if_pos h59], F_f0⟩
          · refine z_aload_n (pc := 48) (i := 0) (j := 0) rfl rfl rfl ?_
            refine z_getR (pc := 49) (x := 49) rfl fl_Mod_23 hm.1 rfl (mr_49 hm) ?_
            refine z_iload_n (pc := 52) (i := 1) (j := 1) rfl rfl rfl ?_
            refine z_iald (pc := 53) rfl (mk_49 hm) (vp_in_nI (show j < 48 by omega) (by decide)) ?_
            refine z_eqi (y := zI w 49 j) (by rw [nI_clamp (by omega)]; exact congrFun (F_f0.1 49 (by omega) (by decide) (by decide) (by decide)) _) ?_
            refine z_goto (pc := 54) (tgt := 77) rfl (by decide) ?_
            exact z_iret (pc := 77) rfl rfl ⟨f0, rfl, by rw [if_pos (ite_ne h10), nI_clamp (n := j) (by omega), if_neg h20]; unfold mHouse; rw [if_neg h31, if_pos h45], F_f0⟩
        · refine z_aload_n (pc := 34) (i := 0) (j := 0) rfl rfl rfl ?_
          refine z_getR (pc := 35) (x := 48) rfl fl_Mod_20 hm.1 rfl (mr_48 hm) ?_
          refine z_iload_n (pc := 38) (i := 1) (j := 1) rfl rfl rfl ?_
          refine z_iald (pc := 39) rfl (mk_48 hm) (vp_in_nI (show j < 48 by omega) (by decide)) ?_
          refine z_eqi (y := zI w 48 j) (by rw [nI_clamp (by omega)]; exact congrFun (F_f0.1 48 (by omega) (by decide) (by decide) (by decide)) _) ?_
          refine z_goto (pc := 40) (tgt := 77) rfl (by decide) ?_
          exact z_iret (pc := 77) rfl rfl ⟨f0, rfl, by rw [if_pos (ite_ne h10), nI_clamp (n := j) (by omega), if_neg h20]; unfold mHouse; rw [if_pos h31], F_f0⟩
    · refine z_iconst (pc := 23) (v := (-1)) rfl (by decide) ?_
      exact z_iret (pc := 24) rfl rfl ⟨f0, rfl, by rw [if_pos (ite_ne h10), nI_clamp (n := j) (by omega), if_pos h20], F_f0⟩
