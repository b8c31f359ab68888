/-! THE ASKS, ON BOTH SIDES -/
theorem ask_m {w : zW} {s N : Nat} {f : Nat → Nat → Int32} (h : Iv w s N) (hf : dFr s w f) : ∀ o, 44 ≤ o → f o = zI w o := fun o ho => by
  have hs := h.s
  exact hf o (by omega) (by omega) (by omega) (by omega) (by omega) (by omega) (by omega)
theorem ask_Iv {w : zW} {s N : Nat} {f g : Nat → Nat → Int32} (h : Iv w s N) (hf : dFr s w f) (hg : zFr (zuI w f) g) : Iv (zuI (zuI w f) g) s (N + 1000) := by
  have hs := h.s
  refine Iv_keep h (by omega) rfl rfl (fun o a1 a2 a3 a4 a5 a6 a7 a8 a9 => ?_) ?_
  · exact (hg.1 o a6 a5 a8 a9).trans (hf o a1 a2 (by omega) (by omega) (by omega) (by omega) a4)
  · exact (hg.2.1 1 (by decide)).trans (congrFun (ask_m h hf 44 (by decide)) 1)
theorem ask_self {w : zW} {s N : Nat} {g : Nat → Nat → Int32} (h : Iv w s N) (hg : zFr w g) : Iv (zuI w g) s (N + 1000) := ask_Iv (f := zI w) h (fun _ _ _ _ _ _ _ _ => rfl) hg
theorem op_wind {w : zW} {s N : Nat} (h : Iv w s N) (hN : N ≤ 511000) (b : Int32) : Op w N m_SW_wind m_Mod_wind [(1, .int b)] := by
  obtain ⟨C, R, H, K, U, t1, t2⟩ := h.2.2.1
  obtain ⟨V, F, G, hi, hm, hst, hF⟩ := SRn_fn t1
  refine op_of h hN (c_SW_wind h.1.1 hi.2.2.2.2.2.2.1 b 139 (by decide)) (fun r1 w1 hp => ?_)
  obtain ⟨f, rfl, rfl, hf⟩ := hp
  have fd : dFr s w f := fun o a1 _ _ _ _ _ _ => hf o a1
  have fm := ask_m h fd
  refine ⟨_, rfl, rfl, zS_P (fun r2 w2 hq => ?_) (c_Mod_wind (w := zuI w f) h.1.2.1 (zMi_o hm (fun o a _ => fm o (by omega))) b 139 (by decide))⟩
  obtain ⟨g, rfl, rfl, hg⟩ := hq
  refine ⟨?_, rfl, s, ask_Iv h fd hg⟩
  rw [show zI (zuI w f) 67 = zI w 67 from fm 67 (by decide), an_wind t2 hF b]
theorem op_plume {w : zW} {s N : Nat} (h : Iv w s N) (hN : N ≤ 511000) (b : Int32) : Op w N m_SW_plume m_Mod_plume [(1, .int b)] := by
  obtain ⟨C, R, H, K, U, t1, t2⟩ := h.2.2.1
  obtain ⟨V, F, G, hi, hm, hst, hF⟩ := SRn_fn t1
  refine op_of h hN (c_SW_plume h.1.1 hi b 139 (by decide)) (fun r1 w1 hp => ?_)
  obtain ⟨f, rfl, rfl, hf⟩ := hp
  have fd : dFr s w f := fun o a1 a2 _ _ _ _ _ => hf o a1 a2
  have fm := ask_m h fd
  have me : mE (zI w) (zI (zuI w f)) := mE_o (fun o a _ => fm o (by omega))
  refine ⟨_, rfl, rfl, zS_P (fun r2 w2 hq => ?_) (c_Mod_plume (w := zuI w f) h.1.2.1 (zMi_o hm (fun o a _ => fm o (by omega))) b 139 (by decide))⟩
  obtain ⟨g, rfl, rfl, hg⟩ := hq
  refine ⟨?_, rfl, s, ask_Iv h fd hg⟩
  rw [show zI (zuI w f) 67 = zI w 67 from fm 67 (by decide), mlenS_f _ _ _ me, an_plume t1 t2 hF b]
theorem op_smoke {w : zW} {s N : Nat} (h : Iv w s N) (hN : N ≤ 511000) (b x : Int32) : Op w N m_SW_smoke m_Mod_smoke [(1, .int b), (2, .int x)] := by
  obtain ⟨C, R, H, K, U, t1, t2⟩ := h.2.2.1
  obtain ⟨V, F, G, hi, hm, hst, hF⟩ := SRn_fn t1
  refine op_of h hN (c_SW_smoke h.1.1 hi b x 139 (by decide)) (fun r1 w1 hp => ?_)
  obtain ⟨f, rfl, hf, rfl⟩ := hp
  have fd : dFr s w f := fun o a1 a2 _ _ _ _ _ => hf o a1 a2
  have fm := ask_m h fd
  have me : mE (zI w) (zI (zuI w f)) := mE_o (fun o a _ => fm o (by omega))
  have y := yvO_l V (zI w 67 138)
  have e67 : zI (zuI w f) 67 = zI w 67 := fm 67 (by decide)
  refine ⟨_, rfl, rfl, zS_P (fun r2 w2 hq => ?_) (c_Mod_smoke (w := zuI w f) h.1.2.1 (zMi_o hm (fun o a _ => fm o (by omega))) b x (yv := yvO V (zI w 67 138)) y.1 (by rw [e67]; exact y.2) 139 (by decide))⟩
  obtain ⟨g, rfl, rfl, hg⟩ := hq
  refine ⟨?_, rfl, s, ask_Iv h fd hg⟩
  rw [e67, mcell_f _ _ _ _ me, show zI (zuI w f) 51 = zI w 51 from fm 51 (by decide), show zI (zuI w f) 50 = zI w 50 from fm 50 (by decide), an_smoke t1 t2 hF y.1 y.2 b x]
theorem op_meets {w : zW} {s N : Nat} (h : Iv w s N) (hN : N ≤ 511000) (b : Int32) : Op w N m_SW_meets m_Mod_meets [(1, .int b)] := by
  obtain ⟨C, R, H, K, U, t1, t2⟩ := h.2.2.1
  obtain ⟨V, F, G, hi, hm, hst, hF⟩ := SRn_fn t1
  refine op_of h hN (c_SW_meets h.1.1 hi b 139 (by decide)) (fun r1 w1 hp => ?_)
  obtain ⟨f, rfl, hr, hf⟩ := hp
  have fd : dFr s w f := fun o a1 a2 a3 a4 a5 a6 _ => hf o a1 a2 a3 a4 a5 a6
  have fm := ask_m h fd
  have me : mE (zI w) (zI (zuI w f)) := mE_o (fun o a _ => fm o (by omega))
  have y := yvO_l V (zI w 67 138)
  have e67 : zI (zuI w f) 67 = zI w 67 := fm 67 (by decide)
  have cm := c_Mod_meets (w := zuI w f) h.1.2.1 (zMi_o hm (fun o a _ => fm o (by omega))) b (yv := yvO V (zI w 67 138)) y.1 (by rw [e67]; exact y.2) 139 (by decide)
  rw [e67] at cm
  rcases hr with ⟨z, rfl⟩ | ⟨yv, j, hj, rfl, y8, yv2, rfl⟩
  · refine ⟨_, rfl, rfl, zS_P (fun r2 w2 hq => ?_) cm⟩
    obtain ⟨g, rfl, rfl, hg⟩ := hq
    refine ⟨?_, rfl, s, ask_Iv h fd hg⟩
    rw [if_neg z]
  · refine ⟨_, rfl, rfl, zS_P (fun r2 w2 hq => ?_) cm⟩
    obtain ⟨g, rfl, rfl, hg⟩ := hq
    refine ⟨?_, rfl, s, ask_Iv h fd hg⟩
    have hH := t1.1.2.2.1
    have ez : hOK H (nI j) = true := by
      unfold hOK
      have tj : (nI j).toInt = j := by
        rcases (show j = 0 ∨ j = 1 ∨ j = 2 ∨ j = 3 ∨ j = 4 ∨ j = 5 ∨ j = 6 ∨ j = 7 by omega) with rfl | rfl | rfl | rfl | rfl | rfl | rfl | rfl <;> decide
      rw [tj]
      exact decide_eq_true ⟨by omega, by omega⟩
    have ey : yvO V (zI w 67 138) = yv := by
      have q := y.2
      rw [LR_hour t2] at q ⊢
      rw [Int32.add_zero, hF, fmod8_and, q] at yv2
      rw [LR_hour t2] at y
      exact (nI_eq (by omega) (by omega)).mp yv2
    rw [if_pos ez, nI_clamp (show j < 2 ^ 31 by omega), mset_f _ _ _ _ _ _ _ me, ey, an_meets t1 t2 h.s hst y8 hj]
theorem op_only {w : zW} {s N : Nat} (h : Iv w s N) (hN : N ≤ 511000) (a b : Int32) : Op w N m_SW_only m_Mod_only [(1, .int a), (2, .int b)] := by
  obtain ⟨C, R, H, K, U, t1, t2⟩ := h.2.2.1
  obtain ⟨V, F, G, hi, hm, hst, hF⟩ := SRn_fn t1
  refine op_of h hN (c_SW_only h.1.1 hi hst a b 139 (by decide)) (fun r1 w1 hp => ?_)
  obtain ⟨f, rfl, hf, rfl⟩ := hp
  have fd : dFr s w f := fun o a1 a2 a3 a4 a5 a6 _ => hf o a1 a2 a3 a4 a5 a6
  have fm := ask_m h fd
  have me : mE (zI w) (zI (zuI w f)) := mE_o (fun o a _ => fm o (by omega))
  refine ⟨_, rfl, rfl, zS_P (fun r2 w2 hq => ?_) (c_Mod_only (w := zuI w f) h.1.2.1 (zMi_o hm (fun o a _ => fm o (by omega))) a b 139 (by decide))⟩
  obtain ⟨g, rfl, rfl, hg⟩ := hq
  refine ⟨?_, rfl, s, ask_Iv h fd hg⟩
  rw [onlyAt_f _ _ _ _ _ _ _ me, an_only t1 t2 hF a b]
theorem op_fits {w : zW} {s N : Nat} (h : Iv w s N) (hN : N ≤ 511000) : Op w N m_SW_fits m_Mod_fits [] := by
  obtain ⟨C, R, H, K, U, t1, t2⟩ := h.2.2.1
  obtain ⟨V, F, G, hi, hm, hst, hF⟩ := SRn_fn t1
  have hH := t1.1.2.2.1
  obtain ⟨n, n1, n2, n3, n4⟩ := t2.2.2.2.1
  refine op_of h hN (c_SW_fits h.1.1 hi hst n2 n1 (fun k hk => by
    obtain ⟨a, b, a1, a2, a3, -⟩ := n4 k hk
    rw [show zI w 27 k = nI a from a3]
    exact vp_in_nI (by omega) (by decide)) 139 (by decide)) (fun r1 w1 hp => ?_)
  obtain ⟨f, rfl, hf, rfl⟩ := hp
  have fd : dFr s w f := fun o a1 a2 a3 a4 a5 a6 _ => hf o a1 a2 a3 a4 a5 a6
  have fm := ask_m h fd
  have me : mE (zI w) (zI (zuI w f)) := mE_o (fun o a _ => fm o (by omega))
  have e67 : zI (zuI w f) 67 = zI w 67 := fm 67 (by decide)
  refine ⟨_, rfl, rfl, zS_P (fun r2 w2 hq => ?_) (c_Mod_fits (w := zuI w f) h.1.2.1 (zMi_o hm (fun o a _ => fm o (by omega))) (n := n) (by rw [e67]; exact n3) n1 (fun k hk => by
    obtain ⟨a, b, a1, a2, a3, a4, -⟩ := n4 k hk
    exact ⟨a, a1, by rw [e67]; exact a4⟩) 139 (by decide))⟩
  obtain ⟨g, rfl, rfl, hg⟩ := hq
  refine ⟨?_, rfl, s, ask_Iv h fd hg⟩
  rw [fitAt_f _ _ _ _ _ me, an_fits t1 t2 n2 n1]
theorem op_feast {w : zW} {s N : Nat} (h : Iv w s N) (hN : N ≤ 511000) (b v : Int32) : Op w N m_SW_feast m_Mod_feast [(1, .int b), (2, .int v)] := by
  obtain ⟨C, R, H, K, U, t1, t2⟩ := h.2.2.1
  obtain ⟨V, F, G, hi, hm, hst, hF⟩ := SRn_fn t1
  refine op_of h hN (c_SW_feast h.1.1 hi hst b v 139 (by decide)) (fun r1 w1 hp => ?_)
  obtain ⟨f, rfl, hf, rfl⟩ := hp
  have fd : dFr s w f := fun o a1 a2 a3 a4 a5 a6 _ => hf o a1 a2 a3 a4 a5 a6
  have fm := ask_m h fd
  have me : mE (zI w) (zI (zuI w f)) := mE_o (fun o a _ => fm o (by omega))
  refine ⟨_, rfl, rfl, zS_P (fun r2 w2 hq => ?_) (c_Mod_feast (w := zuI w f) h.1.2.1 (zMi_o hm (fun o a _ => fm o (by omega))) b v 139 (by decide))⟩
  obtain ⟨g, rfl, rfl, hg⟩ := hq
  refine ⟨?_, rfl, s, ask_Iv h fd hg⟩
  rw [show zI (zuI w f) 67 = zI w 67 from fm 67 (by decide), fsQ_f _ _ _ _ _ _ me, an_feast t1 t2 hF b v]
theorem op_free {w : zW} {s N : Nat} (h : Iv w s N) (hN : N ≤ 511000) (b x : Int32) : Op w N m_SW_free m_Mod_free [(1, .int b), (2, .int x)] := by
  obtain ⟨C, R, H, K, U, t1, t2⟩ := h.2.2.1
  obtain ⟨V, F, G, hi, hm, hst, hF⟩ := SRn_fn t1
  refine op_of h hN (c_SW_free h.1.1 hi hst b x 139 (by decide)) (fun r1 w1 hp => ?_)
  obtain ⟨f, rfl, hf, rfl⟩ := hp
  have fd : dFr s w f := fun o a1 a2 a3 a4 a5 a6 _ => hf o a1 a2 a3 a4 a5 a6
  have fm := ask_m h fd
  have me : mE (zI w) (zI (zuI w f)) := mE_o (fun o a _ => fm o (by omega))
  refine ⟨_, rfl, rfl, zS_P (fun r2 w2 hq => ?_) (c_Mod_free (w := zuI w f) h.1.2.1 (zMi_o hm (fun o a _ => fm o (by omega))) b x 139 (by decide))⟩
  obtain ⟨g, rfl, rfl, hg⟩ := hq
  refine ⟨?_, rfl, s, ask_Iv h fd hg⟩
  rw [show zI (zuI w f) 67 = zI w 67 from fm 67 (by decide), frQ_f _ _ _ _ _ _ _ me, an_free t1 t2 hF b x]
theorem op_days {w : zW} {s N : Nat} (h : Iv w s N) (hN : N ≤ 511000) (x1 x2 x3 x4 : Int32) : Op w N m_SW_days m_Mod_days [(1, .int x1), (2, .int x2), (3, .int x3), (4, .int x4)] := by
  have hs := h.s
  obtain ⟨C, R, H, K, U, t1, t2⟩ := h.2.2.1
  obtain ⟨V, F, G, hi, hm, hst, hF⟩ := SRn_fn t1
  refine op_of h hN (c_SW_days h.1.1 hi hst x1 x2 x3 x4 139 (by decide)) (fun r1 w1 hp => ?_)
  obtain ⟨f, rfl, fd, rfl⟩ := hp
  have fm := ask_m h fd
  have me : mE (zI w) (zI (zuI w f)) := mE_o (fun o a _ => fm o (by omega))
  refine ⟨_, rfl, rfl, zS_P (fun r2 w2 hq => ?_) (c_Mod_days (w := zuI w f) h.1.2.1 (zMi_o hm (fun o a _ => fm o (by omega))) x1 x2 x3 x4 139 (by decide))⟩
  obtain ⟨gl, g, rfl, rfl, g67, hg, g44, -⟩ := hq
  refine ⟨?_, rfl, s, Iv_keep h (by omega) rfl rfl (fun o a1 a2 a3 a4 a5 a6 a7 a8 a9 => ?_) ?_⟩
  · rw [dayR_f _ _ _ _ _ _ _ me, an_days t1 t2 hF (by omega) x1 x2 x3 x4]
  · by_cases e : o = 67
    · rw [e]; exact g67.trans (fm 67 (by decide))
    · exact (hg o (by omega) a5 e a7 a8 a9).trans (fd o a1 a2 (by omega) (by omega) (by omega) (by omega) a4)
  · exact (g44 1 (by decide) (by decide)).trans (congrFun (fm 44 (by decide)) 1)
