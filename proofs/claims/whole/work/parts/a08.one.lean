/-! THE MODEL'S STATEMENTS: cold, turns -/
theorem sx_2 (o k : Nat) (z : (fun o k => s9 o k ∨ (o = 44 ∧ k = 20) ∨ (o = 46 ∧ (k = 7))) o k) : mFx o k := by
  unfold s9 at z
  unfold mFx
  omega
set_option maxRecDepth 100000 in
set_option maxHeartbeats 400000 in
theorem c_Mod_cold_ {w : zW} {n s p j : Nat} {T : Nat → Int32} {F : Nat → Nat → Int32} {N : Nat → Int64} {D2 : rDt} (d1 : D2.1 = expS T n 59 (numW T n 0 99 (onceS T n (F 3 13) (.inl p))).2) (d2 : D2.2.1 = z2 (z2 F 3 13 1) s 9 (numW T n 0 99 (onceS T n (F 3 13) (.inl p))).1) (d3 : D2.2.2 = N) (hk_w : mK w n T) (hS : mS w T n p) (h : DR w T s j F N) (hs : 3 < s) (hj : j ≤ 1000 + p) (d : Nat) (hd : 3 ≤ d) : zS 0 0 d m_Mod_readsOne (stP T n s p w D2) 0 [(0, .ref 44), (1, .int 2), (2, .int 99)] [] w := by
  obtain ⟨C, R, H, K, U, hDN⟩ := h
  have hC : dC w F := hDN.2.2.2.2.1
  have hkt := mK_I hk_w (k := 20) (by decide) (F 3 10 + 4 * 1 + 8 * (F 3 14))
  have hSt := mS_I hS (k := 20) (by omega) (F 3 10 + 4 * 1 + 8 * (F 3 14))
  have hb0 : ¬ F 3 13 = 0 → D2.1 = .inr (flA T n 3 p) := fun z => d1.trans (exc (nwc (onceS_1 z) numW_r) (expS_r (by decide)))
  by_cases ht : F 3 13 = 0
  · skip
    refine z_aload_n (pc := 0) (i := 0) (j := 0) rfl rfl rfl ?_
    refine z_iload_n (pc := 1) (i := 1) (j := 1) rfl rfl rfl ?_
    refine z_cV (pc := 2) (mc1 := 0) (ms1 := 0) (mc2 := 0) (ms2 := 0) (as := [.int 2]) (rest := []) (o := 44) rfl rfl hk_w.1.1 ok_Mod_isTwice rfl rfl cl_Mod_224 (by omega) (Nat.le_of_ble_eq_true rfl) (Nat.le_of_ble_eq_true rfl) (Nat.le_refl _) (Nat.le_refl _) (c_twice hk_w.1 (x := 2) (b := F 3 13) (v := F 3 10 + 4 * 1 + 8 * (F 3 14)) (told_2 hC).1 (told_2 hC).2 0) (fun r1 w1 hp => ?_) rfl rfl
    obtain ⟨rfl, hw1⟩ := hp
    rw [if_pos ht] at hw1
    rw [hw1]
    refine ⟨⟨Nat.le_refl _, Or.inl rfl⟩, ?_⟩
    refine z_if_eq (pc := 5) (tgt := 14) rfl (by decide) (fun h5 => ?_) (fun h5 => ?_)
    · refine z_aload_n (pc := 14) (i := 0) (j := 0) rfl rfl rfl ?_
      refine z_cV (pc := 15) (mc1 := 0) (ms1 := 0) (mc2 := 0) (ms2 := 0) (as := []) (rest := []) (o := 44) rfl rfl hk_w.1.1 ok_Mod_nextToken rfl rfl cl_Mod_174 (by omega) (Nat.le_of_ble_eq_true rfl) (Nat.le_of_ble_eq_true rfl) (Nat.le_refl _) (Nat.le_refl _) (c_Mod_nextToken (w := zsI w 44 20 (F 3 10 + 4 * 1 + 8 * (F 3 14))) hkt (p := tEnd T n p) (tEnd_le hS.2.2.2.2.2) hSt.1 1 (by decide)) (fun r1 w31 hp => ?_) rfl rfl
      obtain ⟨rfl, hF31, hS31⟩ := hp
      refine ⟨⟨by rw [hF31.1]; exact Nat.le_refl _, Or.inl (by rw [hF31.1] <;> rfl)⟩, ?_⟩
      have hk_w31 := mK_F hkt hF31
      have hN31 : mFS (fun o k => s9 o k ∨ (o = 44 ∧ k = 20) ∨ (o = 46 ∧ (k = 7))) w w31 := mFS_t (mFS_I _ (Or.inr (Or.inl ⟨rfl, rfl⟩))) (mFS_9 (mF9_F hF31) (fun o k z => Or.inl z))
      have h47_31 : zL w31 47 = zL w 47 := (L47_9 (mF9_F hF31)).trans rfl
      have e31 := onceS_0 (T := T) (n := n) (p := p) ht
      refine z_aload_n (pc := 18) (i := 0) (j := 0) rfl rfl rfl ?_
      refine z_iconst (pc := 19) (v := 0) rfl (by decide) ?_
      refine z_iload_n (pc := 20) (i := 2) (j := 2) rfl rfl rfl ?_
      refine z_cV (pc := 21) (mc1 := 0) (ms1 := 0) (mc2 := 0) (ms2 := 0) (as := [.int 0, .int 99]) (rest := []) (o := 44) rfl rfl hk_w31.1.1 ok_Mod_needsNumber rfl rfl cl_Mod_227 (by omega) (Nat.le_of_ble_eq_true rfl) (Nat.le_of_ble_eq_true rfl) (Nat.le_refl _) (Nat.le_refl _) (c_Mod_needsNumber (w := w31) hk_w31 hS31 0 99 2 (by decide)) (fun r1 w32 hp => ?_) rfl rfl
      obtain ⟨hF32, hR32, hG32⟩ := hp
      refine ⟨⟨by rw [hF32.1]; exact Nat.le_refl _, Or.inl (by rw [hF32.1] <;> rfl)⟩, ?_⟩
      rcases q_or ((numW T n 0 99 (.inl (tEnd T n p))).2) with ⟨k32, hq32⟩ | ⟨p32, hq32⟩
      · skip
        obtain ⟨rfl, h932⟩ := hR32.2 _ hq32
        have hk_w32 := mK_9 hk_w31 hF32
        have hN32 : mFS (fun o k => s9 o k ∨ (o = 44 ∧ k = 20) ∨ (o = 46 ∧ (k = 7))) w w32 := mFS_t hN31 (mFS_9 hF32 (fun o k z => Or.inl z))
        have h47_32 : zL w32 47 = zL w 47 := (L47_9 hF32).trans h47_31
        refine z_if_ne (pc := 24) (tgt := 29) rfl (by decide) (fun h24 => ?_) (fun h24 => ?_)
        · first | exact absurd h24 (by decide) | exact absurd (by decide) h24
        · refine z_iconst (pc := 27) (v := 0) rfl (by decide) ?_
          exact z_zret (pc := 28) rfl rfl (by decide) (stP_bad (mFS_m hN32 sx_2) h932 (d1.trans (exc (nwc e31 hq32) (expS_r (by decide)))))
      · skip
        obtain ⟨rfl, hS32⟩ := hR32.1 _ hq32
        have hk_w32 := mK_9 hk_w31 hF32
        have hN32 : mFS (fun o k => s9 o k ∨ (o = 44 ∧ k = 20) ∨ (o = 46 ∧ (k = 7))) w w32 := mFS_t hN31 (mFS_9 hF32 (fun o k z => Or.inl z))
        have h47_32 : zL w32 47 = zL w 47 := (L47_9 hF32).trans h47_31
        obtain ⟨c, hc1, hc2, hc⟩ := numW_v (a := 0) (b := 99) (by decide) (by decide) hq32
        refine z_if_ne (pc := 24) (tgt := 29) rfl (by decide) (fun h24 => ?_) (fun h24 => ?_)
        · refine z_aload_n (pc := 29) (i := 0) (j := 0) rfl rfl rfl ?_
          refine z_getR (pc := 30) (x := 46) rfl fl_Mod_13 hk_w32.1.1 rfl (mr_46 hk_w32.1) ?_
          refine z_iconst (pc := 33) (v := 5) rfl (by decide) ?_
          refine z_iload_n (pc := 34) (i := 1) (j := 1) rfl rfl rfl ?_
          refine z_iadd (pc := 35) rfl ?_
          refine z_eqi (y := 7) rfl ?_
          refine z_aload_n (pc := 36) (i := 0) (j := 0) rfl rfl rfl ?_
          refine z_getI (pc := 37) rfl fl_Mod_218 hk_w32.1.1 rfl ?_
          refine z_eqi (y := nI c) ((hG32 _ hq32).trans hc) ?_
          refine z_iast (pc := 40) rfl (mk_46 hk_w32.1) (vp_in_nI (n := 7) (by decide) (by decide)) ?_
          refine z_aload_n (pc := 41) (i := 0) (j := 0) rfl rfl rfl ?_
          refine z_cV (pc := 42) (mc1 := 0) (ms1 := 0) (mc2 := 0) (ms2 := 0) (as := []) (rest := []) (o := 44) rfl rfl hk_w32.1.1 ok_Mod_ends rfl rfl cl_Mod_231 (by omega) (Nat.le_of_ble_eq_true rfl) (Nat.le_of_ble_eq_true rfl) (Nat.le_refl _) (Nat.le_refl _) (c_Mod_ends (w := zsI w32 46 (7 : Int32).toNatClampNeg (nI c)) (mK_o hk_w32 _ _ (by decide) (by decide)) (mS_o hS32 (by decide) _) 2 (by decide)) (fun r1 w34 hp => ?_) rfl rfl
          obtain ⟨hF34, hR34⟩ := hp
          refine ⟨⟨by rw [hF34.1]; exact Nat.le_refl _, Or.inl (by rw [hF34.1] <;> rfl)⟩, ?_⟩
          rcases q_or (expS T n 59 (.inl p32)) with ⟨k34, hq34⟩ | ⟨p34, hq34⟩
          · skip
            obtain ⟨rfl, h934⟩ := hR34.2 _ hq34
            have hN34 : mFS (fun o k => s9 o k ∨ (o = 44 ∧ k = 20) ∨ (o = 46 ∧ (k = 7))) w w34 := mFS_t (mFS_t hN32 (mFS_I _ (Or.inr (Or.inr ⟨rfl, rfl⟩)))) (mFS_9 hF34 (fun o k z => Or.inl z))
            have h47_34 : zL w34 47 = zL w 47 := (L47_9 hF34).trans h47_32
            have eD : D2.1 = expS T n 59 (.inl p32) := d1.trans (exc (nwc e31 hq32) rfl)
            exact z_zret (pc := 45) rfl rfl (by decide) (stP_bad (mFS_m hN34 sx_2) h934 (eD.trans hq34))
          · skip
            obtain ⟨rfl, hS34⟩ := hR34.1 _ hq34
            have hN34 : mFS (fun o k => s9 o k ∨ (o = 44 ∧ k = 20) ∨ (o = 46 ∧ (k = 7))) w w34 := mFS_t (mFS_t hN32 (mFS_I _ (Or.inr (Or.inr ⟨rfl, rfl⟩)))) (mFS_9 hF34 (fun o k z => Or.inl z))
            have h47_34 : zL w34 47 = zL w 47 := (L47_9 hF34).trans h47_32
            have eD : D2.1 = expS T n 59 (.inl p32) := d1.trans (exc (nwc e31 hq32) rfl)
            have eF : D2.2.1 = z2 (z2 F 3 13 1) s 9 (nI c) := d2.trans (z1z (nwv e31 hc))
            have z5 : zI w34 46 7 = nI c := congrFun (hF34.2.2.1 46 (by decide)) 7
            have z20 : zI w34 44 20 = F 3 10 + 4 * 1 + 8 * (F 3 14) := (hF34.2.2.2.1 20 (by decide)).trans ((hF32.2.2.2.1 20 (by decide)).trans (hF31.2.2.2.1 20 (by decide)))
            have hp34 : p < p34 := by have := numW_le hq32; have := expS_lt hq34; have := tBeg_ge T n p; have := tEnd_ge T n p; omega
            exact z_zret (pc := 45) rfl rfl (by decide) (stP_good (mFS_m hN34 sx_2) hS34 (eD.trans hq34) hp34 ⟨j, by rw [eF, d3]; exact ⟨C, R, H, c, U, DN_cold hDN hs hc2 hN34 h47_34 z5 z20⟩, by omega⟩)
        · first | exact absurd h24 (by decide) | exact absurd (by decide) h24
    · exact absurd ht h5
  · skip
    refine z_aload_n (pc := 0) (i := 0) (j := 0) rfl rfl rfl ?_
    refine z_iload_n (pc := 1) (i := 1) (j := 1) rfl rfl rfl ?_
    refine z_cV (pc := 2) (mc1 := 0) (ms1 := 0) (mc2 := 0) (ms2 := 0) (as := [.int 2]) (rest := []) (o := 44) rfl rfl hk_w.1.1 ok_Mod_isTwice rfl rfl cl_Mod_224 (by omega) (Nat.le_of_ble_eq_true rfl) (Nat.le_of_ble_eq_true rfl) (Nat.le_refl _) (Nat.le_refl _) (c_twice hk_w.1 (x := 2) (b := F 3 13) (v := F 3 10 + 4 * 1 + 8 * (F 3 14)) (told_2 hC).1 (told_2 hC).2 0) (fun r1 w1 hp => ?_) rfl rfl
    obtain ⟨rfl, hw1⟩ := hp
    rw [if_neg ht] at hw1
    rw [hw1]
    refine ⟨⟨Nat.le_refl _, Or.inl rfl⟩, ?_⟩
    refine z_if_eq (pc := 5) (tgt := 14) rfl (by decide) (fun h5 => ?_) (fun h5 => ?_)
    · exact absurd h5 ht
    · refine z_aload_n (pc := 8) (i := 0) (j := 0) rfl rfl rfl ?_
      refine z_iconst (pc := 9) (v := 3) rfl (by decide) ?_
      refine z_cV (pc := 10) (mc1 := 0) (ms1 := 0) (mc2 := 0) (ms2 := 0) (as := [.int 3]) (rest := []) (o := 44) rfl rfl hk_w.1.1 ok_Mod_fails rfl rfl cl_Mod_168 (by omega) (Nat.le_of_ble_eq_true rfl) (Nat.le_of_ble_eq_true rfl) (Nat.le_refl _) (Nat.le_refl _) (c_Mod_fails (w := w) hk_w hS 3 0) (fun r1 w1 hp => ?_) rfl rfl
      obtain ⟨rfl, hw1⟩ := hp
      rw [hw1]
      refine ⟨⟨Nat.le_refl _, Or.inl rfl⟩, ?_⟩
      exact z_zret (pc := 13) rfl rfl (by decide) (stP_bad (mFS_m (mFS_I (S := (fun o k => s9 o k ∨ (o = 44 ∧ k = 20) ∨ (o = 46 ∧ (k = 7)))) _ (Or.inl ⟨rfl, by omega⟩)) sx_2) rfl (hb0 ht))
theorem c_Mod_cold {w : zW} {n s p j : Nat} {T : Nat → Int32} {F : Nat → Nat → Int32} {N : Nat → Int64} (hk_w : mK w n T) (hS : mS w T n p) (h : DR w T s j F N) (hs : 3 < s) (hj : j ≤ 1000 + p) (d : Nat) (hd : 3 ≤ d) : zS 0 0 d m_Mod_readsOne (stP T n s p w (expS T n 59 (dCold T n s (.inl p, F, N)).1, (dCold T n s (.inl p, F, N)).2)) 0 [(0, .ref 44), (1, .int 2), (2, .int 99)] [] w := c_Mod_cold_ rfl rfl rfl hk_w hS h hs hj d hd
theorem sx_3 (o k : Nat) (z : (fun o k => s9 o k ∨ (o = 44 ∧ k = 20) ∨ (o = 46 ∧ (k = 8))) o k) : mFx o k := by
  unfold s9 at z
  unfold mFx
  omega
set_option maxRecDepth 100000 in
set_option maxHeartbeats 400000 in
theorem c_Mod_turns_ {w : zW} {n s p j : Nat} {T : Nat → Int32} {F : Nat → Nat → Int32} {N : Nat → Int64} {D2 : rDt} (d1 : D2.1 = expS T n 59 (numW T n 0 10 (onceS T n (F 3 14) (.inl p))).2) (d2 : D2.2.1 = z2 (z2 F 3 14 1) s 10 (numW T n 0 10 (onceS T n (F 3 14) (.inl p))).1) (d3 : D2.2.2 = N) (hk_w : mK w n T) (hS : mS w T n p) (h : DR w T s j F N) (hs : 3 < s) (hj : j ≤ 1000 + p) (d : Nat) (hd : 3 ≤ d) : zS 0 0 d m_Mod_readsOne (stP T n s p w D2) 0 [(0, .ref 44), (1, .int 3), (2, .int 10)] [] w := by
  obtain ⟨C, R, H, K, U, hDN⟩ := h
  have hC : dC w F := hDN.2.2.2.2.1
  have hkt := mK_I hk_w (k := 20) (by decide) (F 3 10 + 4 * (F 3 13) + 8 * 1)
  have hSt := mS_I hS (k := 20) (by omega) (F 3 10 + 4 * (F 3 13) + 8 * 1)
  have hb0 : ¬ F 3 14 = 0 → D2.1 = .inr (flA T n 3 p) := fun z => d1.trans (exc (nwc (onceS_1 z) numW_r) (expS_r (by decide)))
  by_cases ht : F 3 14 = 0
  · skip
    refine z_aload_n (pc := 0) (i := 0) (j := 0) rfl rfl rfl ?_
    refine z_iload_n (pc := 1) (i := 1) (j := 1) rfl rfl rfl ?_
    refine z_cV (pc := 2) (mc1 := 0) (ms1 := 0) (mc2 := 0) (ms2 := 0) (as := [.int 3]) (rest := []) (o := 44) rfl rfl hk_w.1.1 ok_Mod_isTwice rfl rfl cl_Mod_224 (by omega) (Nat.le_of_ble_eq_true rfl) (Nat.le_of_ble_eq_true rfl) (Nat.le_refl _) (Nat.le_refl _) (c_twice hk_w.1 (x := 3) (b := F 3 14) (v := F 3 10 + 4 * (F 3 13) + 8 * 1) (told_3 hC).1 (told_3 hC).2 0) (fun r1 w1 hp => ?_) rfl rfl
    obtain ⟨rfl, hw1⟩ := hp
    rw [if_pos ht] at hw1
    rw [hw1]
    refine ⟨⟨Nat.le_refl _, Or.inl rfl⟩, ?_⟩
    refine z_if_eq (pc := 5) (tgt := 14) rfl (by decide) (fun h5 => ?_) (fun h5 => ?_)
    · refine z_aload_n (pc := 14) (i := 0) (j := 0) rfl rfl rfl ?_
      refine z_cV (pc := 15) (mc1 := 0) (ms1 := 0) (mc2 := 0) (ms2 := 0) (as := []) (rest := []) (o := 44) rfl rfl hk_w.1.1 ok_Mod_nextToken rfl rfl cl_Mod_174 (by omega) (Nat.le_of_ble_eq_true rfl) (Nat.le_of_ble_eq_true rfl) (Nat.le_refl _) (Nat.le_refl _) (c_Mod_nextToken (w := zsI w 44 20 (F 3 10 + 4 * (F 3 13) + 8 * 1)) hkt (p := tEnd T n p) (tEnd_le hS.2.2.2.2.2) hSt.1 1 (by decide)) (fun r1 w31 hp => ?_) rfl rfl
      obtain ⟨rfl, hF31, hS31⟩ := hp
      refine ⟨⟨by rw [hF31.1]; exact Nat.le_refl _, Or.inl (by rw [hF31.1] <;> rfl)⟩, ?_⟩
      have hk_w31 := mK_F hkt hF31
      have hN31 : mFS (fun o k => s9 o k ∨ (o = 44 ∧ k = 20) ∨ (o = 46 ∧ (k = 8))) w w31 := mFS_t (mFS_I _ (Or.inr (Or.inl ⟨rfl, rfl⟩))) (mFS_9 (mF9_F hF31) (fun o k z => Or.inl z))
      have h47_31 : zL w31 47 = zL w 47 := (L47_9 (mF9_F hF31)).trans rfl
      have e31 := onceS_0 (T := T) (n := n) (p := p) ht
      refine z_aload_n (pc := 18) (i := 0) (j := 0) rfl rfl rfl ?_
      refine z_iconst (pc := 19) (v := 0) rfl (by decide) ?_
      refine z_iload_n (pc := 20) (i := 2) (j := 2) rfl rfl rfl ?_
      refine z_cV (pc := 21) (mc1 := 0) (ms1 := 0) (mc2 := 0) (ms2 := 0) (as := [.int 0, .int 10]) (rest := []) (o := 44) rfl rfl hk_w31.1.1 ok_Mod_needsNumber rfl rfl cl_Mod_227 (by omega) (Nat.le_of_ble_eq_true rfl) (Nat.le_of_ble_eq_true rfl) (Nat.le_refl _) (Nat.le_refl _) (c_Mod_needsNumber (w := w31) hk_w31 hS31 0 10 2 (by decide)) (fun r1 w32 hp => ?_) rfl rfl
      obtain ⟨hF32, hR32, hG32⟩ := hp
      refine ⟨⟨by rw [hF32.1]; exact Nat.le_refl _, Or.inl (by rw [hF32.1] <;> rfl)⟩, ?_⟩
      rcases q_or ((numW T n 0 10 (.inl (tEnd T n p))).2) with ⟨k32, hq32⟩ | ⟨p32, hq32⟩
      · skip
        obtain ⟨rfl, h932⟩ := hR32.2 _ hq32
        have hk_w32 := mK_9 hk_w31 hF32
        have hN32 : mFS (fun o k => s9 o k ∨ (o = 44 ∧ k = 20) ∨ (o = 46 ∧ (k = 8))) w w32 := mFS_t hN31 (mFS_9 hF32 (fun o k z => Or.inl z))
        have h47_32 : zL w32 47 = zL w 47 := (L47_9 hF32).trans h47_31
        refine z_if_ne (pc := 24) (tgt := 29) rfl (by decide) (fun h24 => ?_) (fun h24 => ?_)
        · first | exact absurd h24 (by decide) | exact absurd (by decide) h24
        · refine z_iconst (pc := 27) (v := 0) rfl (by decide) ?_
          exact z_zret (pc := 28) rfl rfl (by decide) (stP_bad (mFS_m hN32 sx_3) h932 (d1.trans (exc (nwc e31 hq32) (expS_r (by decide)))))
      · skip
        obtain ⟨rfl, hS32⟩ := hR32.1 _ hq32
        have hk_w32 := mK_9 hk_w31 hF32
        have hN32 : mFS (fun o k => s9 o k ∨ (o = 44 ∧ k = 20) ∨ (o = 46 ∧ (k = 8))) w w32 := mFS_t hN31 (mFS_9 hF32 (fun o k z => Or.inl z))
        have h47_32 : zL w32 47 = zL w 47 := (L47_9 hF32).trans h47_31
        obtain ⟨c, hc1, hc2, hc⟩ := numW_v (a := 0) (b := 10) (by decide) (by decide) hq32
        refine z_if_ne (pc := 24) (tgt := 29) rfl (by decide) (fun h24 => ?_) (fun h24 => ?_)
        · refine z_aload_n (pc := 29) (i := 0) (j := 0) rfl rfl rfl ?_
          refine z_getR (pc := 30) (x := 46) rfl fl_Mod_13 hk_w32.1.1 rfl (mr_46 hk_w32.1) ?_
          refine z_iconst (pc := 33) (v := 5) rfl (by decide) ?_
          refine z_iload_n (pc := 34) (i := 1) (j := 1) rfl rfl rfl ?_
          refine z_iadd (pc := 35) rfl ?_
          refine z_eqi (y := 8) rfl ?_
          refine z_aload_n (pc := 36) (i := 0) (j := 0) rfl rfl rfl ?_
          refine z_getI (pc := 37) rfl fl_Mod_218 hk_w32.1.1 rfl ?_
          refine z_eqi (y := nI c) ((hG32 _ hq32).trans hc) ?_
          refine z_iast (pc := 40) rfl (mk_46 hk_w32.1) (vp_in_nI (n := 8) (by decide) (by decide)) ?_
          refine z_aload_n (pc := 41) (i := 0) (j := 0) rfl rfl rfl ?_
          refine z_cV (pc := 42) (mc1 := 0) (ms1 := 0) (mc2 := 0) (ms2 := 0) (as := []) (rest := []) (o := 44) rfl rfl hk_w32.1.1 ok_Mod_ends rfl rfl cl_Mod_231 (by omega) (Nat.le_of_ble_eq_true rfl) (Nat.le_of_ble_eq_true rfl) (Nat.le_refl _) (Nat.le_refl _) (c_Mod_ends (w := zsI w32 46 (8 : Int32).toNatClampNeg (nI c)) (mK_o hk_w32 _ _ (by decide) (by decide)) (mS_o hS32 (by decide) _) 2 (by decide)) (fun r1 w34 hp => ?_) rfl rfl
          obtain ⟨hF34, hR34⟩ := hp
          refine ⟨⟨by rw [hF34.1]; exact Nat.le_refl _, Or.inl (by rw [hF34.1] <;> rfl)⟩, ?_⟩
          rcases q_or (expS T n 59 (.inl p32)) with ⟨k34, hq34⟩ | ⟨p34, hq34⟩
          · skip
            obtain ⟨rfl, h934⟩ := hR34.2 _ hq34
            have hN34 : mFS (fun o k => s9 o k ∨ (o = 44 ∧ k = 20) ∨ (o = 46 ∧ (k = 8))) w w34 := mFS_t (mFS_t hN32 (mFS_I _ (Or.inr (Or.inr ⟨rfl, rfl⟩)))) (mFS_9 hF34 (fun o k z => Or.inl z))
            have h47_34 : zL w34 47 = zL w 47 := (L47_9 hF34).trans h47_32
            have eD : D2.1 = expS T n 59 (.inl p32) := d1.trans (exc (nwc e31 hq32) rfl)
            exact z_zret (pc := 45) rfl rfl (by decide) (stP_bad (mFS_m hN34 sx_3) h934 (eD.trans hq34))
          · skip
            obtain ⟨rfl, hS34⟩ := hR34.1 _ hq34
            have hN34 : mFS (fun o k => s9 o k ∨ (o = 44 ∧ k = 20) ∨ (o = 46 ∧ (k = 8))) w w34 := mFS_t (mFS_t hN32 (mFS_I _ (Or.inr (Or.inr ⟨rfl, rfl⟩)))) (mFS_9 hF34 (fun o k z => Or.inl z))
            have h47_34 : zL w34 47 = zL w 47 := (L47_9 hF34).trans h47_32
            have eD : D2.1 = expS T n 59 (.inl p32) := d1.trans (exc (nwc e31 hq32) rfl)
            have eF : D2.2.1 = z2 (z2 F 3 14 1) s 10 (nI c) := d2.trans (z1z (nwv e31 hc))
            have z5 : zI w34 46 8 = nI c := congrFun (hF34.2.2.1 46 (by decide)) 8
            have z20 : zI w34 44 20 = F 3 10 + 4 * (F 3 13) + 8 * 1 := (hF34.2.2.2.1 20 (by decide)).trans ((hF32.2.2.2.1 20 (by decide)).trans (hF31.2.2.2.1 20 (by decide)))
            have hp34 : p < p34 := by have := numW_le hq32; have := expS_lt hq34; have := tBeg_ge T n p; have := tEnd_ge T n p; omega
            exact z_zret (pc := 45) rfl rfl (by decide) (stP_good (mFS_m hN34 sx_3) hS34 (eD.trans hq34) hp34 ⟨j, by rw [eF, d3]; exact ⟨C, R, H, K, c, DN_turn hDN hs hc2 hN34 h47_34 z5 z20⟩, by omega⟩)
        · first | exact absurd h24 (by decide) | exact absurd (by decide) h24
    · exact absurd ht h5
  · skip
    refine z_aload_n (pc := 0) (i := 0) (j := 0) rfl rfl rfl ?_
    refine z_iload_n (pc := 1) (i := 1) (j := 1) rfl rfl rfl ?_
    refine z_cV (pc := 2) (mc1 := 0) (ms1 := 0) (mc2 := 0) (ms2 := 0) (as := [.int 3]) (rest := []) (o := 44) rfl rfl hk_w.1.1 ok_Mod_isTwice rfl rfl cl_Mod_224 (by omega) (Nat.le_of_ble_eq_true rfl) (Nat.le_of_ble_eq_true rfl) (Nat.le_refl _) (Nat.le_refl _) (c_twice hk_w.1 (x := 3) (b := F 3 14) (v := F 3 10 + 4 * (F 3 13) + 8 * 1) (told_3 hC).1 (told_3 hC).2 0) (fun r1 w1 hp => ?_) rfl rfl
    obtain ⟨rfl, hw1⟩ := hp
    rw [if_neg ht] at hw1
    rw [hw1]
    refine ⟨⟨Nat.le_refl _, Or.inl rfl⟩, ?_⟩
    refine z_if_eq (pc := 5) (tgt := 14) rfl (by decide) (fun h5 => ?_) (fun h5 => ?_)
    · exact absurd h5 ht
    · refine z_aload_n (pc := 8) (i := 0) (j := 0) rfl rfl rfl ?_
      refine z_iconst (pc := 9) (v := 3) rfl (by decide) ?_
      refine z_cV (pc := 10) (mc1 := 0) (ms1 := 0) (mc2 := 0) (ms2 := 0) (as := [.int 3]) (rest := []) (o := 44) rfl rfl hk_w.1.1 ok_Mod_fails rfl rfl cl_Mod_168 (by omega) (Nat.le_of_ble_eq_true rfl) (Nat.le_of_ble_eq_true rfl) (Nat.le_refl _) (Nat.le_refl _) (c_Mod_fails (w := w) hk_w hS 3 0) (fun r1 w1 hp => ?_) rfl rfl
      obtain ⟨rfl, hw1⟩ := hp
      rw [hw1]
      refine ⟨⟨Nat.le_refl _, Or.inl rfl⟩, ?_⟩
      exact z_zret (pc := 13) rfl rfl (by decide) (stP_bad (mFS_m (mFS_I (S := (fun o k => s9 o k ∨ (o = 44 ∧ k = 20) ∨ (o = 46 ∧ (k = 8)))) _ (Or.inl ⟨rfl, by omega⟩)) sx_3) rfl (hb0 ht))
theorem c_Mod_turns {w : zW} {n s p j : Nat} {T : Nat → Int32} {F : Nat → Nat → Int32} {N : Nat → Int64} (hk_w : mK w n T) (hS : mS w T n p) (h : DR w T s j F N) (hs : 3 < s) (hj : j ≤ 1000 + p) (d : Nat) (hd : 3 ≤ d) : zS 0 0 d m_Mod_readsOne (stP T n s p w (expS T n 59 (dTurn T n s (.inl p, F, N)).1, (dTurn T n s (.inl p, F, N)).2)) 0 [(0, .ref 44), (1, .int 3), (2, .int 10)] [] w := c_Mod_turns_ rfl rfl rfl hk_w hS h hs hj d hd
