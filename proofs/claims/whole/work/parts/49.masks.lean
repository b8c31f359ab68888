/-! what an ask of the model leaves as it was -/
def zFr (w : zW) (f : Nat → Nat → Int32) : Prop := (∀ o, (o < 57 ∨ 66 < o) → o ≠ 44 → o ≠ 70 → o ≠ 71 → f o = zI w o) ∧ (∀ k, k ≠ 0 → f 44 k = zI w 44 k) ∧ f 44 0 = 0
theorem zFr_0 (w : zW) : zFr w (z2 (zI w) 44 0 0) := ⟨fun o _ ho _ _ => z2_ro _ _ _ ho, fun k hk => z2_k _ _ _ hk, z2_hit _ _ _ _⟩
theorem zFr_w {w : zW} {f n : Nat → Nat → Int32} (h : zFr w f) (e : ∀ o, (o < 57 ∨ 66 < o) → n o = f o) : zFr w n := ⟨fun o h1 h2 h3 h4 => (e o h1).trans (h.1 o h1 h2 h3 h4), fun k hk => (congrFun (e 44 (by omega)) k).trans (h.2.1 k hk), (congrFun (e 44 (by omega)) 0).trans h.2.2⟩
theorem zFr_s {w : zW} {f n : Nat → Nat → Int32} (h : zFr w f) (e : ∀ o, (o < 57 ∨ 66 < o) → o ≠ 70 → o ≠ 71 → n o = f o) : zFr w n := ⟨fun o h1 h2 h3 h4 => (e o h1 h3 h4).trans (h.1 o h1 h2 h3 h4), fun k hk => (congrFun (e 44 (by omega) (by decide) (by decide)) k).trans (h.2.1 k hk), (congrFun (e 44 (by omega) (by decide) (by decide)) 0).trans h.2.2⟩
theorem zFr_i {w : zW} {f : Nat → Nat → Int32} {C R H : Nat} {V : Int32 → Int32} {G : Int32 → Int32 → Int32 → Int32} (h : zFr w f) (hi : zMi (zI w) C R H V G) : zMi f C R H V G := zMi_c hi (h.1 46 (by omega) (by decide) (by decide) (by decide)) (h.1 52 (by omega) (by decide) (by decide) (by decide)) (h.1 53 (by omega) (by decide) (by decide) (by decide)) (h.1 54 (by omega) (by decide) (by decide) (by decide))
set_option maxRecDepth 100000 in
set_option maxHeartbeats 4000000 in
theorem c_Mod_wind {w : zW} (hm : zMo w) {C R H : Nat} {V : Int32 → Int32} {G : Int32 → Int32 → Int32 → Int32} (hi : zMi (zI w) C R H V G) (b : Int32) (d : Nat) (hd : 4 ≤ d) : zS 0 0 d m_Mod_wind (fun rv w1 => ∃ f, w1 = zuI w f ∧ rv = some (.int (if (if b < 0 then 0 else if 9999 < b then 0 else 1 : Int32) = 0 then -1 else V (zI w 67 138 + b) &&& 7)) ∧ zFr w f) 0 [(0, .ref 44), (1, .int b)] [] w := by
  refine z_aload_n (pc := 0) (i := 0) (j := 0) rfl rfl rfl ?_
  refine z_iconst (pc := 1) (v := 0) rfl (by decide) ?_
  refine z_putI (pc := 2) rfl fl_Mod_100 hm.1 rfl  ?_
  change zS _ _ _ _ _ _ _ _ (zuI w (z2 (zI w) 44 0 0))
  obtain ⟨f0, hf0⟩ : ∃ f0, f0 = z2 (zI w) 44 0 0 := ⟨_, rfl⟩
  rw [← hf0]
  have F_f0 : zFr w f0 := hf0 ▸ zFr_0 w
  refine z_iload_n (pc := 5) (i := 1) (j := 1) rfl rfl rfl ?_
  refine z_iconst (pc := 6) (v := 0) rfl (by decide) ?_
  refine z_sipush (pc := 7) (v := 9999) rfl (by decide) ?_
  refine z_cS (pc := 10) (mc1 := 0) (ms1 := 0) (mc2 := 0) (ms2 := 0) (as := [.int b, .int 0, .int 9999]) (rest := []) ok_Mod_within rfl rfl cl_Mod_214 (by omega) (Nat.le_of_ble_eq_true rfl) (Nat.le_of_ble_eq_true rfl) (Nat.le_refl _) (Nat.le_refl _) (c_Mod_within b 0 9999 0 _) (fun r1 w1 hp => ?_) rfl rfl
  obtain ⟨rfl, hw1⟩ := hp
  rw [hw1]
  refine ⟨⟨Nat.le_refl _, Or.inl rfl⟩, ?_⟩
  refine z_if_eq (pc := 13) (tgt := 33) rfl (by decide) (fun h13 => ?_) (fun h13 => ?_)
  · refine z_iconst (pc := 33) (v := (-1)) rfl (by decide) ?_
    exact z_iret (pc := 34) rfl rfl ⟨f0, rfl, by rw [if_pos h13], F_f0⟩
  · refine z_aload_n (pc := 16) (i := 0) (j := 0) rfl rfl rfl ?_
    refine z_aload_n (pc := 17) (i := 0) (j := 0) rfl rfl rfl ?_
    refine z_getR (pc := 18) (x := 67) rfl fl_Mod_78 hm.1 rfl (mr_67 hm) ?_
    refine z_sipush (pc := 21) (v := 138) rfl (by decide) ?_
    refine z_iald (pc := 24) rfl (mk_67 hm) (vp_in_nI (n := 138) (by decide) (by decide)) ?_
    refine z_eqi (y := zI w 67 138) (congrFun (F_f0.1 67 (by omega) (by decide) (by decide) (by decide)) 138) ?_
    refine z_iload_n (pc := 25) (i := 1) (j := 1) rfl rfl rfl ?_
    refine z_iadd (pc := 26) rfl ?_
    refine z_cV (pc := 27) (mc1 := 0) (ms1 := 0) (mc2 := 0) (ms2 := 0) (as := [.int ((zI w 67 138) + b)]) (rest := []) (o := 44) rfl rfl hm.1 ok_Mod_windAt rfl rfl cl_Mod_307 (by omega) (Nat.le_of_ble_eq_true rfl) (Nat.le_of_ble_eq_true rfl) (Nat.le_refl _) (Nat.le_refl _) (c_Mod_windAt (w := zuI w f0) hm (zFr_i F_f0 hi).2.2.2.2.2.2.1 ((zI w 67 138) + b) 3 (by decide)) (fun r1 w1 hp => ?_) rfl rfl
    obtain ⟨f1, hw1, rfl, hn_f1⟩ := hp
    rw [hw1]
    refine ⟨⟨Nat.le_refl _, Or.inl rfl⟩, ?_⟩
    have F_f1 : zFr w f1 := zFr_w F_f0 hn_f1
    refine z_goto (pc := 30) (tgt := 34) rfl (by decide) ?_
    exact z_iret (pc := 34) rfl rfl ⟨f1, rfl, by rw [if_neg h13], F_f1⟩
def mlenS (f : Nat → Nat → Int32) (V : Int32 → Int32) (G : Int32 → Int32 → Int32 → Int32) (j : Nat) : Int32 := plenK (f 51 j) (G (f 67 138) (f 50 j) (V (f 67 138) &&& 7))
set_option maxRecDepth 100000 in
set_option maxHeartbeats 4000000 in
theorem c_Mod_plume {w : zW} (hm : zMo w) {C R H : Nat} {V : Int32 → Int32} {G : Int32 → Int32 → Int32 → Int32} (hi : zMi (zI w) C R H V G) (b : Int32) (d : Nat) (hd : 4 ≤ d) : zS 0 0 d m_Mod_plume (fun rv w1 => ∃ f, w1 = zuI w f ∧ rv = some (.int (if hOK H b = true then (if (if (zI w 67 137 >>> (b &&& 31)) &&& 1 = 1 then 1 else 0 : Int32) = 0 then mlenS (zI w) V G b.toNatClampNeg else 0) else -1)) ∧ zFr w f) 0 [(0, .ref 44), (1, .int b)] [] w := by
  refine z_aload_n (pc := 0) (i := 0) (j := 0) rfl rfl rfl ?_
  refine z_iconst (pc := 1) (v := 0) rfl (by decide) ?_
  refine z_putI (pc := 2) rfl fl_Mod_100 hm.1 rfl  ?_
  change zS _ _ _ _ _ _ _ _ (zuI w (z2 (zI w) 44 0 0))
  obtain ⟨f0, hf0⟩ : ∃ f0, f0 = z2 (zI w) 44 0 0 := ⟨_, rfl⟩
  rw [← hf0]
  have F_f0 : zFr w f0 := hf0 ▸ zFr_0 w
  refine z_aload_n (pc := 5) (i := 0) (j := 0) rfl rfl rfl ?_
  refine z_iload_n (pc := 6) (i := 1) (j := 1) rfl rfl rfl ?_
  refine z_cV (pc := 7) (mc1 := 0) (ms1 := 0) (mc2 := 0) (ms2 := 0) (as := [.int b]) (rest := []) (o := 44) rfl rfl hm.1 ok_Mod_isHouse rfl rfl cl_Mod_270 (by omega) (Nat.le_of_ble_eq_true rfl) (Nat.le_of_ble_eq_true rfl) (Nat.le_refl _) (Nat.le_refl _) (c_Mod_isHouse (w := zuI w f0) hm b 0) (fun r1 w1 hp => ?_) rfl rfl
  obtain ⟨rfl, hw1⟩ := hp
  rw [hw1, show zI (zuI w f0) 46 (4 : Int32).toNatClampNeg = nI H from (zFr_i F_f0 hi).2.2.1, hOK_if hi.2.2.2.2.2.1]
  refine ⟨⟨Nat.le_refl _, Or.inl rfl⟩, ?_⟩
  refine z_if_ne (pc := 10) (tgt := 17) rfl (by decide) (fun h10 => ?_) (fun h10 => ?_)
  · obtain ⟨j, hj, rfl⟩ := hOK_of hi.2.2.2.2.2.1 (ite_ne h10)
    have hj8 : j < 8 := Nat.lt_of_lt_of_le hj hi.2.2.2.2.2.1
    refine z_aload_n (pc := 17) (i := 0) (j := 0) rfl rfl rfl ?_
    refine z_iload_n (pc := 18) (i := 1) (j := 1) rfl rfl rfl ?_
    refine z_cV (pc := 19) (mc1 := 0) (ms1 := 0) (mc2 := 0) (ms2 := 0) (as := [.int (nI j)]) (rest := []) (o := 44) rfl rfl hm.1 ok_Mod_isShut rfl rfl cl_Mod_279 (by omega) (Nat.le_of_ble_eq_true rfl) (Nat.le_of_ble_eq_true rfl) (Nat.le_refl _) (Nat.le_refl _) (c_Mod_isShut (w := zuI w f0) hm (nI j) 0) (fun r1 w1 hp => ?_) rfl rfl
    obtain ⟨rfl, hw1⟩ := hp
    rw [hw1, show zI (zuI w f0) 67 (137 : Int32).toNatClampNeg = zI w 67 137 from congrFun (F_f0.1 67 (by omega) (by decide) (by decide) (by decide)) 137]
    refine ⟨⟨Nat.le_refl _, Or.inl rfl⟩, ?_⟩
    refine z_if_eq (pc := 22) (tgt := 29) rfl (by decide) (fun h22 => ?_) (fun h22 => ?_)
    · refine z_aload_n (pc := 29) (i := 0) (j := 0) rfl rfl rfl ?_
      refine z_iload_n (pc := 30) (i := 1) (j := 1) rfl rfl rfl ?_
      refine z_aload_n (pc := 31) (i := 0) (j := 0) rfl rfl rfl ?_
      refine z_getR (pc := 32) (x := 67) rfl fl_Mod_78 hm.1 rfl (mr_67 hm) ?_
      refine z_sipush (pc := 35) (v := 138) rfl (by decide) ?_
      refine z_iald (pc := 38) rfl (mk_67 hm) (vp_in_nI (n := 138) (by decide) (by decide)) ?_
      refine z_eqi (y := zI w 67 138) (congrFun (F_f0.1 67 (by omega) (by decide) (by decide) (by decide)) 138) ?_
      refine z_aload_n (pc := 39) (i := 0) (j := 0) rfl rfl rfl ?_
      refine z_aload_n (pc := 40) (i := 0) (j := 0) rfl rfl rfl ?_
      refine z_getR (pc := 41) (x := 67) rfl fl_Mod_78 hm.1 rfl (mr_67 hm) ?_
      refine z_sipush (pc := 44) (v := 138) rfl (by decide) ?_
      refine z_iald (pc := 47) rfl (mk_67 hm) (vp_in_nI (n := 138) (by decide) (by decide)) ?_
      refine z_eqi (y := zI w 67 138) (congrFun (F_f0.1 67 (by omega) (by decide) (by decide) (by decide)) 138) ?_
      refine z_cV (pc := 48) (mc1 := 0) (ms1 := 0) (mc2 := 0) (ms2 := 0) (as := [.int (zI w 67 138)]) (rest := [.int (zI w 67 138), .int (nI j), .ref 44]) (o := 44) rfl rfl hm.1 ok_Mod_windAt rfl rfl cl_Mod_307 (by omega) (Nat.le_of_ble_eq_true rfl) (Nat.le_of_ble_eq_true rfl) (Nat.le_refl _) (Nat.le_refl _) (c_Mod_windAt (w := zuI w f0) hm (zFr_i F_f0 hi).2.2.2.2.2.2.1 (zI w 67 138) 3 (by decide)) (fun r1 w1 hp => ?_) rfl rfl
      obtain ⟨f1, hw1, rfl, hn_f1⟩ := hp
      rw [hw1]
      refine ⟨⟨Nat.le_refl _, Or.inl rfl⟩, ?_⟩
      have F_f1 : zFr w f1 := zFr_w F_f0 hn_f1
      refine z_cV (pc := 51) (mc1 := 0) (ms1 := 0) (mc2 := 0) (ms2 := 0) (as := [.int (nI j), .int (zI w 67 138), .int (V (zI w 67 138) &&& 7)]) (rest := []) (o := 44) rfl rfl hm.1 ok_Mod_longOf rfl rfl cl_Mod_300 (by omega) (Nat.le_of_ble_eq_true rfl) (Nat.le_of_ble_eq_true rfl) (Nat.le_refl _) (Nat.le_refl _) (c_Mod_longOf (w := zuI w f1) hm (G := G) (zFr_i F_f1 hi).2.2.2.2.2.2.2 (i := j) (by omega) (zI w 67 138) (V (zI w 67 138) &&& 7) 3 (by decide)) (fun r1 w1 hp => ?_) rfl rfl
      obtain ⟨f2, hw1, rfl, hn_f2⟩ := hp
      rw [hw1, show zI (zuI w f1) 51 = zI w 51 from F_f1.1 51 (by omega) (by decide) (by decide) (by decide), show zI (zuI w f1) 50 = zI w 50 from F_f1.1 50 (by omega) (by decide) (by decide) (by decide)]
      refine ⟨⟨Nat.le_refl _, Or.inl rfl⟩, ?_⟩
      have F_f2 : zFr w f2 := zFr_w F_f1 hn_f2
      exact z_iret (pc := 54) rfl rfl ⟨f2, rfl, by rw [if_pos (ite_ne h10), nI_clamp (by omega), if_pos h22]; rfl, F_f2⟩
    · refine z_iconst (pc := 25) (v := 0) rfl (by decide) ?_
      refine z_goto (pc := 26) (tgt := 54) rfl (by decide) ?_
      exact z_iret (pc := 54) rfl rfl ⟨f0, rfl, by rw [if_pos (ite_ne h10), nI_clamp (by omega), if_neg h22], F_f0⟩
  · refine z_iconst (pc := 13) (v := (-1)) rfl (by decide) ?_
    refine z_goto (pc := 14) (tgt := 54) rfl (by decide) ?_
    exact z_iret (pc := 54) rfl rfl ⟨f0, rfl, by rw [if_neg (ite_eq h10)], F_f0⟩
set_option maxRecDepth 100000 in
set_option maxHeartbeats 4000000 in
theorem c_Mod_meets {w : zW} (hm : zMo w) {C R H : Nat} {V : Int32 → Int32} {G : Int32 → Int32 → Int32 → Int32} (hi : zMi (zI w) C R H V G) (b : Int32) {yv : Nat} (hy : yv < 8) (hyv : V (zI w 67 138) &&& 7 = nI yv) (d : Nat) (hd : 5 ≤ d) : zS 0 0 d m_Mod_meets (fun rv w1 => ∃ f, w1 = zuI w f ∧ rv = some (.int (if hOK H b = true then mset (zI w) C R yv G (zI w 67 138) (zI w 67 136 &&& (zI w 67 137 ^^^ (-1))) H b.toNatClampNeg else -1)) ∧ zFr w f) 0 [(0, .ref 44), (1, .int b)] [] w := by
  refine z_aload_n (pc := 0) (i := 0) (j := 0) rfl rfl rfl ?_
  refine z_iconst (pc := 1) (v := 0) rfl (by decide) ?_
  refine z_putI (pc := 2) rfl fl_Mod_100 hm.1 rfl  ?_
  change zS _ _ _ _ _ _ _ _ (zuI w (z2 (zI w) 44 0 0))
  obtain ⟨f0, hf0⟩ : ∃ f0, f0 = z2 (zI w) 44 0 0 := ⟨_, rfl⟩
  rw [← hf0]
  have F_f0 : zFr w f0 := hf0 ▸ zFr_0 w
  refine z_aload_n (pc := 5) (i := 0) (j := 0) rfl rfl rfl ?_
  refine z_iload_n (pc := 6) (i := 1) (j := 1) rfl rfl rfl ?_
  refine z_cV (pc := 7) (mc1 := 0) (ms1 := 0) (mc2 := 0) (ms2 := 0) (as := [.int b]) (rest := []) (o := 44) rfl rfl hm.1 ok_Mod_isHouse rfl rfl cl_Mod_270 (by omega) (Nat.le_of_ble_eq_true rfl) (Nat.le_of_ble_eq_true rfl) (Nat.le_refl _) (Nat.le_refl _) (c_Mod_isHouse (w := zuI w f0) hm b 0) (fun r1 w1 hp => ?_) rfl rfl
  obtain ⟨rfl, hw1⟩ := hp
  rw [hw1, show zI (zuI w f0) 46 (4 : Int32).toNatClampNeg = nI H from (zFr_i F_f0 hi).2.2.1, hOK_if hi.2.2.2.2.2.1]
  refine ⟨⟨Nat.le_refl _, Or.inl rfl⟩, ?_⟩
  refine z_if_ne (pc := 10) (tgt := 15) rfl (by decide) (fun h10 => ?_) (fun h10 => ?_)
  · obtain ⟨j, hj, rfl⟩ := hOK_of hi.2.2.2.2.2.1 (ite_ne h10)
    have hj8 : j < 8 := Nat.lt_of_lt_of_le hj hi.2.2.2.2.2.1
    refine z_aload_n (pc := 15) (i := 0) (j := 0) rfl rfl rfl ?_
    refine z_aload_n (pc := 16) (i := 0) (j := 0) rfl rfl rfl ?_
    refine z_getR (pc := 17) (x := 67) rfl fl_Mod_78 hm.1 rfl (mr_67 hm) ?_
    refine z_sipush (pc := 20) (v := 136) rfl (by decide) ?_
    refine z_iald (pc := 23) rfl (mk_67 hm) (vp_in_nI (n := 136) (by decide) (by decide)) ?_
    refine z_eqi (y := zI w 67 136) (congrFun (F_f0.1 67 (by omega) (by decide) (by decide) (by decide)) 136) ?_
    refine z_aload_n (pc := 24) (i := 0) (j := 0) rfl rfl rfl ?_
    refine z_getR (pc := 25) (x := 67) rfl fl_Mod_78 hm.1 rfl (mr_67 hm) ?_
    refine z_sipush (pc := 28) (v := 138) rfl (by decide) ?_
    refine z_iald (pc := 31) rfl (mk_67 hm) (vp_in_nI (n := 138) (by decide) (by decide)) ?_
    refine z_eqi (y := zI w 67 138) (congrFun (F_f0.1 67 (by omega) (by decide) (by decide) (by decide)) 138) ?_
    refine z_aload_n (pc := 32) (i := 0) (j := 0) rfl rfl rfl ?_
    refine z_aload_n (pc := 33) (i := 0) (j := 0) rfl rfl rfl ?_
    refine z_getR (pc := 34) (x := 67) rfl fl_Mod_78 hm.1 rfl (mr_67 hm) ?_
    refine z_sipush (pc := 37) (v := 138) rfl (by decide) ?_
    refine z_iald (pc := 40) rfl (mk_67 hm) (vp_in_nI (n := 138) (by decide) (by decide)) ?_
    refine z_eqi (y := zI w 67 138) (congrFun (F_f0.1 67 (by omega) (by decide) (by decide) (by decide)) 138) ?_
    refine z_cV (pc := 41) (mc1 := 0) (ms1 := 0) (mc2 := 0) (ms2 := 0) (as := [.int (zI w 67 138)]) (rest := [.int (zI w 67 138), .int (zI w 67 136), .ref 44]) (o := 44) rfl rfl hm.1 ok_Mod_windAt rfl rfl cl_Mod_307 (by omega) (Nat.le_of_ble_eq_true rfl) (Nat.le_of_ble_eq_true rfl) (Nat.le_refl _) (Nat.le_refl _) (c_Mod_windAt (w := zuI w f0) hm (zFr_i F_f0 hi).2.2.2.2.2.2.1 (zI w 67 138) 3 (by decide)) (fun r1 w1 hp => ?_) rfl rfl
    obtain ⟨f1, hw1, rfl, hn_f1⟩ := hp
    rw [hw1]
    refine ⟨⟨Nat.le_refl _, Or.inl rfl⟩, ?_⟩
    have F_f1 : zFr w f1 := zFr_w F_f0 hn_f1
    rw [hyv]
    refine z_cV (pc := 44) (mc1 := 0) (ms1 := 0) (mc2 := 0) (ms2 := 0) (as := [.int (zI w 67 136), .int (zI w 67 138), .int (nI yv)]) (rest := []) (o := 44) rfl rfl hm.1 ok_Mod_smokes rfl rfl cl_Mod_310 (by omega) (Nat.le_of_ble_eq_true rfl) (Nat.le_of_ble_eq_true rfl) (Nat.le_refl _) (Nat.le_refl _) (c_Mod_smokes (w := zuI w f1) hm (zFr_i F_f1 hi).1 (zFr_i F_f1 hi).2.1 (zFr_i F_f1 hi).2.2.1 hi.2.2.2.1 hi.2.2.2.2.1 hi.2.2.2.2.2.1 (G := G) (zFr_i F_f1 hi).2.2.2.2.2.2.2 (yv := yv) hy (zI w 67 136) (zI w 67 138) 4 (by decide)) (fun r1 w1 hp => ?_) rfl rfl
    obtain ⟨f2, hw1, rfl, -, h71, hn_f2⟩ := hp
    rw [hw1]
    refine ⟨⟨Nat.le_refl _, Or.inl rfl⟩, ?_⟩
    have F_f2 : zFr w f2 := zFr_s F_f1 hn_f2
    have m_f2 : ∀ a, a < H → f2 71 a = mset (zI w) C R yv G (zI w 67 138) ((zI w 67 136) &&& (zI w 67 137 ^^^ (-1))) H a := fun a ha => (congrFun h71 a).trans ((metM_set _ _ _ _ _ _ _ hi.2.2.2.2.2.1 ha).trans (by rw [mset_c (f := zI w) (g := zI (zuI w f1)) (F_f1.1 48 (by omega) (by decide) (by decide) (by decide)) (F_f1.1 49 (by omega) (by decide) (by decide) (by decide)) (F_f1.1 50 (by omega) (by decide) (by decide) (by decide)) (F_f1.1 51 (by omega) (by decide) (by decide) (by decide)), show zI (zuI w f1) 67 = zI w 67 from F_f1.1 67 (by omega) (by decide) (by decide) (by decide)]))
    refine z_aload_n (pc := 47) (i := 0) (j := 0) rfl rfl rfl ?_
    refine z_getR (pc := 48) (x := 71) rfl fl_Mod_90 hm.1 rfl (mr_71 hm) ?_
    refine z_iload_n (pc := 51) (i := 1) (j := 1) rfl rfl rfl ?_
    refine z_iald (pc := 52) rfl (mk_71 hm) (vp_in_nI hj8 (by decide)) ?_
    refine z_eqi (y := mset (zI w) C R yv G (zI w 67 138) (zI w 67 136 &&& (zI w 67 137 ^^^ (-1))) H j) (by rw [nI_clamp (by omega)]; exact m_f2 j hj) ?_
    exact z_iret (pc := 53) rfl rfl ⟨f2, rfl, by rw [if_pos (ite_ne h10), nI_clamp (by omega)], F_f2⟩
  · refine z_iconst (pc := 13) (v := (-1)) rfl (by decide) ?_
    exact z_iret (pc := 14) rfl rfl ⟨f0, rfl, by rw [if_neg (ite_eq h10)], F_f0⟩
set_option maxRecDepth 100000 in
set_option maxHeartbeats 4000000 in
theorem c_Mod_smoke {w : zW} (hm : zMo w) {C R H : Nat} {V : Int32 → Int32} {G : Int32 → Int32 → Int32 → Int32} (hi : zMi (zI w) C R H V G) (b x : Int32) {yv : Nat} (hy : yv < 8) (hyv : V (zI w 67 138) &&& 7 = nI yv) (d : Nat) (hd : 4 ≤ d) : zS 0 0 d m_Mod_smoke (fun rv w1 => ∃ f, w1 = zuI w f ∧ rv = some (.int (if hOK H b = true then (if (if (zI w 67 137 >>> (b &&& 31)) &&& 1 = 1 then 1 else 0 : Int32) = 0 then (if x < 0 then -1 else if x < nI (plN (zI w 51 b.toNatClampNeg) (G (zI w 67 138) (zI w 50 b.toNatClampNeg) (nI yv))) then cellV (mcell (zI w) C R b.toNatClampNeg yv x.toNatClampNeg) else -1) else -1) else -1)) ∧ zFr w f) 0 [(0, .ref 44), (1, .int b), (2, .int x)] [] w := by
  refine z_aload_n (pc := 0) (i := 0) (j := 0) rfl rfl rfl ?_
  refine z_iconst (pc := 1) (v := 0) rfl (by decide) ?_
  refine z_putI (pc := 2) rfl fl_Mod_100 hm.1 rfl  ?_
  change zS _ _ _ _ _ _ _ _ (zuI w (z2 (zI w) 44 0 0))
  obtain ⟨f0, hf0⟩ : ∃ f0, f0 = z2 (zI w) 44 0 0 := ⟨_, rfl⟩
  rw [← hf0]
  have F_f0 : zFr w f0 := hf0 ▸ zFr_0 w
  refine z_aload_n (pc := 5) (i := 0) (j := 0) rfl rfl rfl ?_
  refine z_iload_n (pc := 6) (i := 1) (j := 1) rfl rfl rfl ?_
  refine z_cV (pc := 7) (mc1 := 0) (ms1 := 0) (mc2 := 0) (ms2 := 0) (as := [.int b]) (rest := []) (o := 44) rfl rfl hm.1 ok_Mod_isHouse rfl rfl cl_Mod_270 (by omega) (Nat.le_of_ble_eq_true rfl) (Nat.le_of_ble_eq_true rfl) (Nat.le_refl _) (Nat.le_refl _) (c_Mod_isHouse (w := zuI w f0) hm b 0) (fun r1 w1 hp => ?_) rfl rfl
  obtain ⟨rfl, hw1⟩ := hp
  rw [hw1, show zI (zuI w f0) 46 (4 : Int32).toNatClampNeg = nI H from (zFr_i F_f0 hi).2.2.1, hOK_if hi.2.2.2.2.2.1]
  refine ⟨⟨Nat.le_refl _, Or.inl rfl⟩, ?_⟩
  refine z_if_eq (pc := 10) (tgt := 54) rfl (by decide) (fun h10 => ?_) (fun h10 => ?_)
  · refine z_iconst (pc := 54) (v := (-1)) rfl (by decide) ?_
    exact z_iret (pc := 55) rfl rfl ⟨f0, rfl, by rw [if_neg (ite_eq h10)], F_f0⟩
  · obtain ⟨j, hj, rfl⟩ := hOK_of hi.2.2.2.2.2.1 (ite_ne h10)
    have hj8 : j < 8 := Nat.lt_of_lt_of_le hj hi.2.2.2.2.2.1
    refine z_aload_n (pc := 13) (i := 0) (j := 0) rfl rfl rfl ?_
    refine z_iload_n (pc := 14) (i := 1) (j := 1) rfl rfl rfl ?_
    refine z_cV (pc := 15) (mc1 := 0) (ms1 := 0) (mc2 := 0) (ms2 := 0) (as := [.int (nI j)]) (rest := []) (o := 44) rfl rfl hm.1 ok_Mod_isShut rfl rfl cl_Mod_279 (by omega) (Nat.le_of_ble_eq_true rfl) (Nat.le_of_ble_eq_true rfl) (Nat.le_refl _) (Nat.le_refl _) (c_Mod_isShut (w := zuI w f0) hm (nI j) 0) (fun r1 w1 hp => ?_) rfl rfl
    obtain ⟨rfl, hw1⟩ := hp
    rw [hw1, show zI (zuI w f0) 67 (137 : Int32).toNatClampNeg = zI w 67 137 from congrFun (F_f0.1 67 (by omega) (by decide) (by decide) (by decide)) 137]
    refine ⟨⟨Nat.le_refl _, Or.inl rfl⟩, ?_⟩
    refine z_if_ne (pc := 18) (tgt := 54) rfl (by decide) (fun h18 => ?_) (fun h18 => ?_)
    · refine z_iconst (pc := 54) (v := (-1)) rfl (by decide) ?_
      exact z_iret (pc := 55) rfl rfl ⟨f0, rfl, by rw [if_pos (ite_ne h10), nI_clamp (n := j) (by omega), if_neg h18], F_f0⟩
    · refine z_iload_n (pc := 21) (i := 2) (j := 2) rfl rfl rfl ?_
      refine z_if_lt (pc := 22) (tgt := 54) rfl (by decide) (fun h22 => ?_) (fun h22 => ?_)
      · refine z_iconst (pc := 54) (v := (-1)) rfl (by decide) ?_
        exact z_iret (pc := 55) rfl rfl ⟨f0, rfl, by rw [if_pos (ite_ne h10), nI_clamp (n := j) (by omega), if_pos h18, if_pos h22], F_f0⟩
      · refine z_iload_n (pc := 25) (i := 2) (j := 2) rfl rfl rfl ?_
        refine z_aload_n (pc := 26) (i := 0) (j := 0) rfl rfl rfl ?_
        refine z_iload_n (pc := 27) (i := 1) (j := 1) rfl rfl rfl ?_
        refine z_aload_n (pc := 28) (i := 0) (j := 0) rfl rfl rfl ?_
        refine z_getR (pc := 29) (x := 67) rfl fl_Mod_78 hm.1 rfl (mr_67 hm) ?_
        refine z_sipush (pc := 32) (v := 138) rfl (by decide) ?_
        refine z_iald (pc := 35) rfl (mk_67 hm) (vp_in_nI (n := 138) (by decide) (by decide)) ?_
        refine z_eqi (y := zI w 67 138) (congrFun (F_f0.1 67 (by omega) (by decide) (by decide) (by decide)) 138) ?_
        refine z_aload_n (pc := 36) (i := 0) (j := 0) rfl rfl rfl ?_
        refine z_aload_n (pc := 37) (i := 0) (j := 0) rfl rfl rfl ?_
        refine z_getR (pc := 38) (x := 67) rfl fl_Mod_78 hm.1 rfl (mr_67 hm) ?_
        refine z_sipush (pc := 41) (v := 138) rfl (by decide) ?_
        refine z_iald (pc := 44) rfl (mk_67 hm) (vp_in_nI (n := 138) (by decide) (by decide)) ?_
        refine z_eqi (y := zI w 67 138) (congrFun (F_f0.1 67 (by omega) (by decide) (by decide) (by decide)) 138) ?_
        refine z_cV (pc := 45) (mc1 := 0) (ms1 := 0) (mc2 := 0) (ms2 := 0) (as := [.int (zI w 67 138)]) (rest := [.int (zI w 67 138), .int (nI j), .ref 44, .int x]) (o := 44) rfl rfl hm.1 ok_Mod_windAt rfl rfl cl_Mod_307 (by omega) (Nat.le_of_ble_eq_true rfl) (Nat.le_of_ble_eq_true rfl) (Nat.le_refl _) (Nat.le_refl _) (c_Mod_windAt (w := zuI w f0) hm (zFr_i F_f0 hi).2.2.2.2.2.2.1 (zI w 67 138) 3 (by decide)) (fun r1 w1 hp => ?_) rfl rfl
        obtain ⟨f1, hw1, rfl, hn_f1⟩ := hp
        rw [hw1]
        refine ⟨⟨Nat.le_refl _, Or.inl rfl⟩, ?_⟩
        have F_f1 : zFr w f1 := zFr_w F_f0 hn_f1
        rw [hyv]
        refine z_cV (pc := 48) (mc1 := 0) (ms1 := 0) (mc2 := 0) (ms2 := 0) (as := [.int (nI j), .int (zI w 67 138), .int (nI yv)]) (rest := [.int x]) (o := 44) rfl rfl hm.1 ok_Mod_longOf rfl rfl cl_Mod_300 (by omega) (Nat.le_of_ble_eq_true rfl) (Nat.le_of_ble_eq_true rfl) (Nat.le_refl _) (Nat.le_refl _) (c_Mod_longOf (w := zuI w f1) hm (G := G) (zFr_i F_f1 hi).2.2.2.2.2.2.2 (i := j) (by omega) (zI w 67 138) (nI yv) 3 (by decide)) (fun r1 w1 hp => ?_) rfl rfl
        obtain ⟨f2, hw1, rfl, hn_f2⟩ := hp
        rw [hw1, show zI (zuI w f1) 51 = zI w 51 from F_f1.1 51 (by omega) (by decide) (by decide) (by decide), show zI (zuI w f1) 50 = zI w 50 from F_f1.1 50 (by omega) (by decide) (by decide) (by decide)]
        refine ⟨⟨Nat.le_refl _, Or.inl rfl⟩, ?_⟩
        have F_f2 : zFr w f2 := zFr_w F_f1 hn_f2
        rw [(plN_eq _ _).1]
        refine z_icmp_lt (pc := 51) (tgt := 56) rfl (by decide) (fun h51 => ?_) (fun h51 => ?_)
        · obtain ⟨k, hk, rfl⟩ := nI_of h22
          refine z_aload_n (pc := 56) (i := 0) (j := 0) rfl rfl rfl ?_
          refine z_iload_n (pc := 57) (i := 1) (j := 1) rfl rfl rfl ?_
          refine z_iload_n (pc := 58) (i := 2) (j := 2) rfl rfl rfl ?_
          refine z_aload_n (pc := 59) (i := 0) (j := 0) rfl rfl rfl ?_
          refine z_aload_n (pc := 60) (i := 0) (j := 0) rfl rfl rfl ?_
          refine z_getR (pc := 61) (x := 67) rfl fl_Mod_78 hm.1 rfl (mr_67 hm) ?_
          refine z_sipush (pc := 64) (v := 138) rfl (by decide) ?_
          refine z_iald (pc := 67) rfl (mk_67 hm) (vp_in_nI (n := 138) (by decide) (by decide)) ?_
          refine z_eqi (y := zI w 67 138) (congrFun (F_f2.1 67 (by omega) (by decide) (by decide) (by decide)) 138) ?_
          refine z_cV (pc := 68) (mc1 := 0) (ms1 := 0) (mc2 := 0) (ms2 := 0) (as := [.int (zI w 67 138)]) (rest := [.int (nI k), .int (nI j), .ref 44]) (o := 44) rfl rfl hm.1 ok_Mod_windAt rfl rfl cl_Mod_307 (by omega) (Nat.le_of_ble_eq_true rfl) (Nat.le_of_ble_eq_true rfl) (Nat.le_refl _) (Nat.le_refl _) (c_Mod_windAt (w := zuI w f2) hm (zFr_i F_f2 hi).2.2.2.2.2.2.1 (zI w 67 138) 3 (by decide)) (fun r1 w1 hp => ?_) rfl rfl
          obtain ⟨f3, hw1, rfl, hn_f3⟩ := hp
          rw [hw1]
          refine ⟨⟨Nat.le_refl _, Or.inl rfl⟩, ?_⟩
          have F_f3 : zFr w f3 := zFr_w F_f2 hn_f3
          rw [hyv]
          refine z_cV (pc := 71) (mc1 := 0) (ms1 := 0) (mc2 := 0) (ms2 := 0) (as := [.int (nI j), .int (nI k), .int (nI yv)]) (rest := []) (o := 44) rfl rfl hm.1 ok_Mod_cellOf rfl rfl cl_Mod_304 (by omega) (Nat.le_of_ble_eq_true rfl) (Nat.le_of_ble_eq_true rfl) (Nat.le_refl _) (Nat.le_refl _) (c_Mod_cellOf (w := zuI w f3) hm (zFr_i F_f3 hi).1 (zFr_i F_f3 hi).2.1 hi.2.2.2.1 hi.2.2.2.2.1 (i := j) (yv := yv) (k := k) (by omega) hy 1 (by decide)) (fun r1 w1 hp => ?_) rfl rfl
          obtain ⟨rfl, hw1⟩ := hp
          rw [hw1, mcell_c (f := zI w) (g := zI (zuI w f3)) C R j yv (F_f3.1 48 (by omega) (by decide) (by decide) (by decide)) (F_f3.1 49 (by omega) (by decide) (by decide) (by decide)) (F_f3.1 51 (by omega) (by decide) (by decide) (by decide))]
          refine ⟨⟨Nat.le_refl _, Or.inl rfl⟩, ?_⟩
          exact z_iret (pc := 74) rfl rfl ⟨f3, rfl, by rw [if_pos (ite_ne h10), nI_clamp (n := j) (by omega), if_pos h18, if_neg h22, if_pos h51, nI_clamp hk], F_f3⟩
        · refine z_iconst (pc := 54) (v := (-1)) rfl (by decide) ?_
          exact z_iret (pc := 55) rfl rfl ⟨f2, rfl, by rw [if_pos (ite_ne h10), nI_clamp (n := j) (by omega), if_pos h18, if_neg h22, if_neg h51], F_f2⟩
