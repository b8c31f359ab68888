/-! THE LAW'S LOOP -/
theorem lw_end {L i : Nat} (hL : L ≤ 3584) (h1 : 7 * i ≤ L) (h2 : L < 7 * i + 7) : nI L - 7 < nI (7 * i) := by
  by_cases z : 7 ≤ L
  · have e : nI L - 7 = nI (L - 7) := by
      rw [show nI L = nI (L - 7) + 7 from by
        rw [show (7 : Int32) = nI 7 from rfl, nI_add, Nat.sub_add_cancel z]]
      exact Int32.add_sub_cancel _ _
    rw [e]
    exact nI_lt (by omega) (by omega)
  · obtain rfl : i = 0 := by omega
    rcases (show L = 0 ∨ L = 1 ∨ L = 2 ∨ L = 3 ∨ L = 4 ∨ L = 5 ∨ L = 6 by omega) with rfl | rfl | rfl | rfl | rfl | rfl | rfl <;> decide
theorem lw_on {L i : Nat} (hL : L ≤ 3584) (h1 : 7 * i + 7 ≤ L) : ¬ nI L - 7 < nI (7 * i) := by
  have e : nI L - 7 = nI (L - 7) := by
    rw [show nI L = nI (L - 7) + 7 from by
      rw [show (7 : Int32) = nI 7 from rfl, nI_add, Nat.sub_add_cancel (show 7 ≤ L by omega)]]
    exact Int32.add_sub_cancel _ _
  rw [e]
  exact nI_nlt (by omega) (by omega)
set_option maxRecDepth 100000 in
set_option maxHeartbeats 4000000 in
theorem lw_body {X : Nat × (Nat → Int32)} {w : zW} {s N i mc ms : Nat} (hX : X.1 < 5000) (hi : 7 * i + 7 ≤ X.1) (h : Iv w s N) (hN : N ≤ 511000) (kk : ∀ w2 s2, Iv w2 s2 (N + 1000) → zS mc ms 140 (m_law X) lP 1115 (lLS i) [] w2) : zS (mc + 22) (ms + 3463) 140 (m_law X) lP 33 (lLS i) [] w := by
  refine z_aload_n (pc := 33) (i := 0) (j := 0) rfl rfl rfl ?_
  refine z_iload (pc := 34) (i := 4) (j := 4) rfl rfl ?_
  refine z_tX (pc := 36) rfl rfl hX (vp_in_nI (by omega) (by omega)) ?_
  refine z_bipush (pc := 37) (v := 31) rfl (by decide) ?_
  refine z_iand (pc := 39) rfl ?_
  generalize X.2 (nI (7 * i)).toNatClampNeg &&& 31 = e
  by_cases hc0 : e = 0
  · exact z_tabIn (pc := 40) (off := 104) (tgt := 144) rfl (by rw [hc0]; decide) (by rw [hc0]; decide) (by rw [hc0]; rfl) (by decide) (lc_feed hX hi h hN kk)
  by_cases hc1 : e = 1
  · exact z_tabIn (pc := 40) (off := 251) (tgt := 291) rfl (by rw [hc1]; decide) (by rw [hc1]; decide) (by rw [hc1]; rfl) (by decide) (lc_street hX hi h hN kk)
  by_cases hc2 : e = 2
  · exact z_tabIn (pc := 40) (off := 264) (tgt := 304) rfl (by rw [hc2]; decide) (by rw [hc2]; decide) (by rw [hc2]; rfl) (by decide) (lc_house hX hi h hN kk)
  by_cases hc3 : e = 3
  · exact z_tabIn (pc := 40) (off := 301) (tgt := 341) rfl (by rw [hc3]; decide) (by rw [hc3]; decide) (by rw [hc3]; rfl) (by decide) (lc_light hX hi h hN kk)
  by_cases hc4 : e = 4
  · exact z_tabIn (pc := 40) (off := 354) (tgt := 394) rfl (by rw [hc4]; decide) (by rw [hc4]; decide) (by rw [hc4]; rfl) (by decide) (lc_shut hX hi h hN kk)
  by_cases hc5 : e = 5
  · exact z_tabIn (pc := 40) (off := 407) (tgt := 447) rfl (by rw [hc5]; decide) (by rw [hc5]; decide) (by rw [hc5]; rfl) (by decide) (lc_wind hX hi h hN kk)
  by_cases hc6 : e = 6
  · exact z_tabIn (pc := 40) (off := 432) (tgt := 472) rfl (by rw [hc6]; decide) (by rw [hc6]; decide) (by rw [hc6]; rfl) (by decide) (lc_plume hX hi h hN kk)
  by_cases hc7 : e = 7
  · exact z_tabIn (pc := 40) (off := 457) (tgt := 497) rfl (by rw [hc7]; decide) (by rw [hc7]; decide) (by rw [hc7]; rfl) (by decide) (lc_smoke hX hi h hN kk)
  by_cases hc8 : e = 8
  · exact z_tabIn (pc := 40) (off := 494) (tgt := 534) rfl (by rw [hc8]; decide) (by rw [hc8]; decide) (by rw [hc8]; rfl) (by decide) (lc_meets hX hi h hN kk)
  by_cases hc9 : e = 9
  · exact z_tabIn (pc := 40) (off := 519) (tgt := 559) rfl (by rw [hc9]; decide) (by rw [hc9]; decide) (by rw [hc9]; rfl) (by decide) (lc_hours hX hi h hN kk)
  by_cases hc10 : e = 10
  · exact z_tabIn (pc := 40) (off := 544) (tgt := 584) rfl (by rw [hc10]; decide) (by rw [hc10]; decide) (by rw [hc10]; rfl) (by decide) (lc_pair hX hi h hN kk)
  by_cases hc11 : e = 11
  · exact z_tabIn (pc := 40) (off := 593) (tgt := 633) rfl (by rw [hc11]; decide) (by rw [hc11]; decide) (by rw [hc11]; rfl) (by decide) (lc_soot hX hi h hN kk)
  by_cases hc12 : e = 12
  · exact z_tabIn (pc := 40) (off := 673) (tgt := 713) rfl (by rw [hc12]; decide) (by rw [hc12]; decide) (by rw [hc12]; rfl) (by decide) (lc_only hX hi h hN kk)
  by_cases hc13 : e = 13
  · exact z_tabIn (pc := 40) (off := 710) (tgt := 750) rfl (by rw [hc13]; decide) (by rw [hc13]; decide) (by rw [hc13]; rfl) (by decide) (lc_feast hX hi h hN kk)
  by_cases hc14 : e = 14
  · exact z_tabIn (pc := 40) (off := 747) (tgt := 787) rfl (by rw [hc14]; decide) (by rw [hc14]; decide) (by rw [hc14]; rfl) (by decide) (lc_free hX hi h hN kk)
  by_cases hc15 : e = 15
  · exact z_tabIn (pc := 40) (off := 784) (tgt := 824) rfl (by rw [hc15]; decide) (by rw [hc15]; decide) (by rw [hc15]; rfl) (by decide) (lc_sight hX hi h hN kk)
  by_cases hc16 : e = 16
  · exact z_tabIn (pc := 40) (off := 849) (tgt := 889) rfl (by rw [hc16]; decide) (by rw [hc16]; decide) (by rw [hc16]; rfl) (by decide) (lc_clear hX hi h hN kk)
  by_cases hc17 : e = 17
  · exact z_tabIn (pc := 40) (off := 862) (tgt := 902) rfl (by rw [hc17]; decide) (by rw [hc17]; decide) (by rw [hc17]; rfl) (by decide) (lc_fits hX hi h hN kk)
  by_cases hc18 : e = 18
  · exact z_tabIn (pc := 40) (off := 875) (tgt := 915) rfl (by rw [hc18]; decide) (by rw [hc18]; decide) (by rw [hc18]; rfl) (by decide) (lc_share hX hi h hN kk)
  by_cases hc19 : e = 19
  · exact z_tabIn (pc := 40) (off := 936) (tgt := 976) rfl (by rw [hc19]; decide) (by rw [hc19]; decide) (by rw [hc19]; rfl) (by decide) (lc_days hX hi h hN kk)
  by_cases hc20 : e = 20
  · exact z_tabIn (pc := 40) (off := 997) (tgt := 1037) rfl (by rw [hc20]; decide) (by rw [hc20]; decide) (by rw [hc20]; rfl) (by decide) (lc_mark hX hi h hN kk)
  by_cases hc21 : e = 21
  · exact z_tabIn (pc := 40) (off := 1050) (tgt := 1090) rfl (by rw [hc21]; decide) (by rw [hc21]; decide) (by rw [hc21]; rfl) (by decide) (lc_count hX hi h hN kk)
  have hn0 := lv_neT (a := 0) hc0 rfl
  have hn1 := lv_neT (a := 1) hc1 rfl
  have hn2 := lv_neT (a := 2) hc2 rfl
  have hn3 := lv_neT (a := 3) hc3 rfl
  have hn4 := lv_neT (a := 4) hc4 rfl
  have hn5 := lv_neT (a := 5) hc5 rfl
  have hn6 := lv_neT (a := 6) hc6 rfl
  have hn7 := lv_neT (a := 7) hc7 rfl
  have hn8 := lv_neT (a := 8) hc8 rfl
  have hn9 := lv_neT (a := 9) hc9 rfl
  have hn10 := lv_neT (a := 10) hc10 rfl
  have hn11 := lv_neT (a := 11) hc11 rfl
  have hn12 := lv_neT (a := 12) hc12 rfl
  have hn13 := lv_neT (a := 13) hc13 rfl
  have hn14 := lv_neT (a := 14) hc14 rfl
  have hn15 := lv_neT (a := 15) hc15 rfl
  have hn16 := lv_neT (a := 16) hc16 rfl
  have hn17 := lv_neT (a := 17) hc17 rfl
  have hn18 := lv_neT (a := 18) hc18 rfl
  have hn19 := lv_neT (a := 19) hc19 rfl
  have hn20 := lv_neT (a := 20) hc20 rfl
  have hn21 := lv_neT (a := 21) hc21 rfl
  refine z_tabOut (pc := 40) (tgt := 1115) rfl (by omega) (by decide) ?_
  exact z_more (kk w s (Iv_mono h (by omega))) (by omega) (by omega)
set_option maxRecDepth 100000 in
theorem lw_loop {X : Nat × (Nat → Int32)} (hX : X.1 ≤ 3584) : ∀ (k i : Nat) (w : zW) (s : Nat), 7 * (i + k) ≤ X.1 → X.1 < 7 * (i + k) + 7 → Iv w s (1000 * i) → zS (22 * k) (3463 * k) 140 (m_law X) lP 23 (lLS i) [] w
  | 0, i, w, s, h1, h2, h => by
    refine z_iload (pc := 23) (i := 4) (j := 4) rfl rfl ?_
    refine z_aload_n (pc := 25) (i := 0) (j := 0) rfl rfl rfl ?_
    refine z_tXl (pc := 26) (v := nI X.1) rfl rfl (by omega) rfl ?_
    refine z_bipush (pc := 27) (v := 7) rfl (by decide) ?_
    refine z_isub (pc := 29) rfl ?_
    refine z_icmp_gt (pc := 30) (tgt := 1121) rfl (by decide) (fun h30 => ?_) (fun h30 => ?_)
    · refine z_iconst (pc := 1121) (v := 1) rfl (by decide) ?_
      exact z_zret (pc := 1122) rfl rfl (Or.inr rfl) rfl
    · exact absurd (lw_end hX (by omega) (by omega)) h30
  | k + 1, i, w, s, h1, h2, h => by
    refine z_iload (pc := 23) (i := 4) (j := 4) rfl rfl ?_
    refine z_aload_n (pc := 25) (i := 0) (j := 0) rfl rfl rfl ?_
    refine z_tXl (pc := 26) (v := nI X.1) rfl rfl (by omega) rfl ?_
    refine z_bipush (pc := 27) (v := 7) rfl (by decide) ?_
    refine z_isub (pc := 29) rfl ?_
    refine z_icmp_gt (pc := 30) (tgt := 1121) rfl (by decide) (fun h30 => ?_) (fun h30 => ?_)
    · exact absurd h30 (lw_on hX (by omega))
    · have ih := fun w2 s2 (h2' : Iv w2 s2 (1000 * (i + 1))) => lw_loop hX k (i + 1) w2 s2 (by omega) (by omega) h2'
      refine lw_body (mc := 22 * k) (ms := 3463 * k) (by omega) (by omega) h (by omega) (fun w2 s2 h2' => ?_)
      refine z_iinc (pc := 1115) (i := 4) (j := 4) (v := nI (7 * (i + 1))) (ls' := lLS (i + 1)) rfl rfl (by rw [show Int32.ofInt 7 = nI 7 from by decide, nI_add]; rfl) (show 4 < 7 by decide) rfl ?_
      refine z_goto (pc := 1118) (tgt := 23) rfl (by decide) ?_
      exact ih w2 s2 (by rw [Nat.mul_succ]; exact h2')
