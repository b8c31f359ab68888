/-! the law: soot -/
set_option maxRecDepth 100000 in
set_option maxHeartbeats 4000000 in
theorem lc_soot {X : Nat × (Nat → Int32)} {w : zW} {s N i mc ms : Nat} (hX : X.1 < 5000) (hi : 7 * i + 7 ≤ X.1) (h : Iv w s N) (hN : N ≤ 511000) (kk : ∀ w2 s2, Iv w2 s2 (N + 1000) → zS mc ms 140 (m_law X) lP 1115 (lLS i) [] w2) : zS (mc + 22) (ms + 3463) 140 (m_law X) lP 633 (lLS i) [] w := by
  obtain ⟨C, R, H, K, U, t1, t2⟩ := h.2.2.1
  obtain ⟨V, F, G, hxi, hm, hst, hF⟩ := SRn_fn t1
  have hH := t1.1.2.2.1
  refine z_aload_n (pc := 633) (i := 1) (j := 1) rfl rfl rfl ?_
  refine z_aload_n (pc := 634) (i := 0) (j := 0) rfl rfl rfl ?_
  refine z_iload (pc := 635) (i := 4) (j := 4) rfl rfl ?_
  refine z_iconst (pc := 637) (v := 1) rfl (by decide) ?_
  refine z_iadd (pc := 638) rfl ?_
  refine z_tX (pc := 639) rfl rfl hX (lwb (j := 1) hX hi (by decide)) ?_
  refine z_aload_n (pc := 640) (i := 0) (j := 0) rfl rfl rfl ?_
  refine z_iload (pc := 641) (i := 4) (j := 4) rfl rfl ?_
  refine z_iconst (pc := 643) (v := 2) rfl (by decide) ?_
  refine z_iadd (pc := 644) rfl ?_
  refine z_tX (pc := 645) rfl rfl hX (lwb (j := 2) hX hi (by decide)) ?_
  refine z_aload_n (pc := 646) (i := 0) (j := 0) rfl rfl rfl ?_
  refine z_iload (pc := 647) (i := 4) (j := 4) rfl rfl ?_
  refine z_iconst (pc := 649) (v := 3) rfl (by decide) ?_
  refine z_iadd (pc := 650) rfl ?_
  refine z_tX (pc := 651) rfl rfl hX (lwb (j := 3) hX hi (by decide)) ?_
  refine z_aload_n (pc := 652) (i := 3) (j := 3) rfl rfl rfl ?_
  refine z_cSoot (pc := 653) (mc2 := mc) (ms2 := ms) (X0 := X) (rest := []) (x := lwv X i 1) (y := lwv X i 2) (b := lwv X i 3) rfl rfl rfl hX h.1.1 hxi h.1.2.2.1 (by decide) (by decide) (by omega) (by omega) (fun r1 w1 hp => ?_)
  rcases hp with ⟨v, hv, rfl, hw⟩ | ⟨hv, rfl, hw⟩
  · rw [hw]
    have mt := an_soot (f := zI w) t1.1.1.2 t1.1.2.1.2 hH t2 (by omega) (lwv X i 1) (lwv X i 2) (lwv X i 3)
    rw [hv] at mt
    refine ⟨⟨Nat.le_refl _, Or.inl rfl⟩, ?_⟩
    refine z_istore (pc := 656) (i := 5) (ls' := [(0, .ref 1000030), (1, .ref 0), (2, .ref 44), (3, .ref 73), (4, .int (nI (7 * i))), (5, .int 0)]) rfl (show 5 < 7 by decide) rfl ?_
    refine z_aload_n (pc := 658) (i := 2) (j := 2) rfl rfl rfl ?_
    refine z_aload_n (pc := 659) (i := 0) (j := 0) rfl rfl rfl ?_
    refine z_iload (pc := 660) (i := 4) (j := 4) rfl rfl ?_
    refine z_iconst (pc := 662) (v := 1) rfl (by decide) ?_
    refine z_iadd (pc := 663) rfl ?_
    refine z_tX (pc := 664) rfl rfl hX (lwb (j := 1) hX hi (by decide)) ?_
    refine z_aload_n (pc := 665) (i := 0) (j := 0) rfl rfl rfl ?_
    refine z_iload (pc := 666) (i := 4) (j := 4) rfl rfl ?_
    refine z_iconst (pc := 668) (v := 2) rfl (by decide) ?_
    refine z_iadd (pc := 669) rfl ?_
    refine z_tX (pc := 670) rfl rfl hX (lwb (j := 2) hX hi (by decide)) ?_
    refine z_aload_n (pc := 671) (i := 0) (j := 0) rfl rfl rfl ?_
    refine z_iload (pc := 672) (i := 4) (j := 4) rfl rfl ?_
    refine z_iconst (pc := 674) (v := 3) rfl (by decide) ?_
    refine z_iadd (pc := 675) rfl ?_
    refine z_tX (pc := 676) rfl rfl hX (lwb (j := 3) hX hi (by decide)) ?_
    refine z_cV (pc := 677) (mc1 := 0) (ms1 := 0) (mc2 := mc) (ms2 := ms) (as := [.int (lwv X i 1), .int (lwv X i 2), .int (lwv X i 3)]) (rest := []) (o := 44) rfl rfl h.1.2.1.1 ok_Mod_soot rfl rfl cl_Lw_75 (show 139 < 140 by decide) (Nat.le_of_ble_eq_true rfl) (Nat.le_of_ble_eq_true rfl) (by omega) (by omega) (c_Mod_soot (w := (zsL w 73 0 v.toInt64)) h.1.2.1 hm (lwv X i 1) (lwv X i 2) (lwv X i 3) 139 (by decide)) (fun r2 w2 hq => ?_) rfl rfl
    obtain ⟨f, rfl, rfl, hf, fk, f0⟩ := hq
    have mq : mSoot (zI (zsL w 73 0 v.toInt64)) C R H (lwv X i 1) (lwv X i 2) (lwv X i 3) = (0, v) := mt
    rw [mq] at f0 ⊢
    refine ⟨⟨Nat.le_refl _, Or.inl rfl⟩, ?_⟩
    refine z_eqi (y := v) rfl ?_
    refine z_istore (pc := 680) (i := 6) (ls' := [(0, .ref 1000030), (1, .ref 0), (2, .ref 44), (3, .ref 73), (4, .int (nI (7 * i))), (5, .int 0), (6, .int v)]) rfl (show 6 < 7 by decide) rfl ?_
    refine z_aload_n (pc := 682) (i := 2) (j := 2) rfl rfl rfl ?_
    refine z_cV (pc := 683) (mc1 := 0) (ms1 := 0) (mc2 := mc) (ms2 := ms) (as := []) (rest := []) (o := 44) rfl rfl h.1.2.1.1 ok_Mod_thrown rfl rfl cl_Lw_76 (show 139 < 140 by decide) (Nat.le_of_ble_eq_true rfl) (Nat.le_of_ble_eq_true rfl) (by omega) (by omega) (c_Mod_thrown (w := zuI (zsL w 73 0 v.toInt64) f) h.1.2.1 139) (fun r3 w3 hq => ?_) rfl rfl
    obtain ⟨rfl, ew⟩ := hq
    rw [ew]
    refine ⟨⟨Nat.le_refl _, Or.inl rfl⟩, ?_⟩
    refine z_eqi (y := 0) f0 ?_
    refine z_iload (pc := 686) (i := 5) (j := 5) rfl rfl ?_
    refine z_icmp_eq (pc := 688) (tgt := 693) rfl (by decide) (fun h688 => ?_) (fun h688 => ?_)
    · refine z_iload (pc := 693) (i := 5) (j := 5) rfl rfl ?_
      refine z_if_ne (pc := 695) (tgt := 710) rfl (by decide) (fun h695 => ?_) (fun h695 => ?_)
      · exact absurd rfl h695
      · refine z_aload_n (pc := 698) (i := 3) (j := 3) rfl rfl rfl ?_
        refine z_iconst (pc := 699) (v := 0) rfl (by decide) ?_
        refine z_lald (pc := 700) rfl (show (zuI (zsL w 73 0 v.toInt64) f).1[73]? = some (11, 1) from h.1.2.2.1) (vp_in_nI (n := 0) (by decide) (by decide)) ?_
        refine z_eql (y := v.toInt64) (z2g_a (zL w) 73 0 v.toInt64) ?_
        refine z_iload (pc := 701) (i := 6) (j := 6) rfl rfl ?_
        refine z_i2l (pc := 703) rfl ?_
        refine z_lcmp (pc := 704) rfl ?_
        refine z_if_eq (pc := 705) (tgt := 710) rfl (by decide) (fun h705 => ?_) (fun h705 => ?_)
        · refine z_goto (pc := 710) (tgt := 1115) rfl (by decide) ?_
          refine z_drop (ls' := lLS i) (fun q hq => ?_) (kk (zuI (zsL w 73 0 v.toInt64) f) s (Iv_keep h (by omega) rfl rfl (fun o a1 a2 a3 a4 a5 a6 a7 a8 a9 => hf o a5) (fk 1 (by decide))))
          simp only [lLS, List.mem_cons, List.not_mem_nil, or_false] at hq ⊢
          rcases hq with rfl | rfl | rfl | rfl | rfl <;> simp
        · exact absurd (by unfold lg_cmp; simp) h705
    · exact absurd rfl h688
  · rw [hw]
    have mt := an_soot (f := zI w) t1.1.1.2 t1.1.2.1.2 hH t2 (by omega) (lwv X i 1) (lwv X i 2) (lwv X i 3)
    rw [hv] at mt
    refine ⟨⟨Nat.le_refl _, Or.inl rfl⟩, ?_⟩
    refine z_istore (pc := 656) (i := 5) (ls' := [(0, .ref 1000030), (1, .ref 0), (2, .ref 44), (3, .ref 73), (4, .int (nI (7 * i))), (5, .int 1)]) rfl (show 5 < 7 by decide) rfl ?_
    refine z_aload_n (pc := 658) (i := 2) (j := 2) rfl rfl rfl ?_
    refine z_aload_n (pc := 659) (i := 0) (j := 0) rfl rfl rfl ?_
    refine z_iload (pc := 660) (i := 4) (j := 4) rfl rfl ?_
    refine z_iconst (pc := 662) (v := 1) rfl (by decide) ?_
    refine z_iadd (pc := 663) rfl ?_
    refine z_tX (pc := 664) rfl rfl hX (lwb (j := 1) hX hi (by decide)) ?_
    refine z_aload_n (pc := 665) (i := 0) (j := 0) rfl rfl rfl ?_
    refine z_iload (pc := 666) (i := 4) (j := 4) rfl rfl ?_
    refine z_iconst (pc := 668) (v := 2) rfl (by decide) ?_
    refine z_iadd (pc := 669) rfl ?_
    refine z_tX (pc := 670) rfl rfl hX (lwb (j := 2) hX hi (by decide)) ?_
    refine z_aload_n (pc := 671) (i := 0) (j := 0) rfl rfl rfl ?_
    refine z_iload (pc := 672) (i := 4) (j := 4) rfl rfl ?_
    refine z_iconst (pc := 674) (v := 3) rfl (by decide) ?_
    refine z_iadd (pc := 675) rfl ?_
    refine z_tX (pc := 676) rfl rfl hX (lwb (j := 3) hX hi (by decide)) ?_
    refine z_cV (pc := 677) (mc1 := 0) (ms1 := 0) (mc2 := mc) (ms2 := ms) (as := [.int (lwv X i 1), .int (lwv X i 2), .int (lwv X i 3)]) (rest := []) (o := 44) rfl rfl h.1.2.1.1 ok_Mod_soot rfl rfl cl_Lw_75 (show 139 < 140 by decide) (Nat.le_of_ble_eq_true rfl) (Nat.le_of_ble_eq_true rfl) (by omega) (by omega) (c_Mod_soot (w := w) h.1.2.1 hm (lwv X i 1) (lwv X i 2) (lwv X i 3) 139 (by decide)) (fun r2 w2 hq => ?_) rfl rfl
    obtain ⟨f, rfl, rfl, hf, fk, f0⟩ := hq
    have mq : mSoot (zI w) C R H (lwv X i 1) (lwv X i 2) (lwv X i 3) = (1, 0) := mt
    rw [mq] at f0 ⊢
    refine ⟨⟨Nat.le_refl _, Or.inl rfl⟩, ?_⟩
    refine z_eqi (y := 0) rfl ?_
    refine z_istore (pc := 680) (i := 6) (ls' := [(0, .ref 1000030), (1, .ref 0), (2, .ref 44), (3, .ref 73), (4, .int (nI (7 * i))), (5, .int 1), (6, .int 0)]) rfl (show 6 < 7 by decide) rfl ?_
    refine z_aload_n (pc := 682) (i := 2) (j := 2) rfl rfl rfl ?_
    refine z_cV (pc := 683) (mc1 := 0) (ms1 := 0) (mc2 := mc) (ms2 := ms) (as := []) (rest := []) (o := 44) rfl rfl h.1.2.1.1 ok_Mod_thrown rfl rfl cl_Lw_76 (show 139 < 140 by decide) (Nat.le_of_ble_eq_true rfl) (Nat.le_of_ble_eq_true rfl) (by omega) (by omega) (c_Mod_thrown (w := zuI w f) h.1.2.1 139) (fun r3 w3 hq => ?_) rfl rfl
    obtain ⟨rfl, ew⟩ := hq
    rw [ew]
    refine ⟨⟨Nat.le_refl _, Or.inl rfl⟩, ?_⟩
    refine z_eqi (y := 1) f0 ?_
    refine z_iload (pc := 686) (i := 5) (j := 5) rfl rfl ?_
    refine z_icmp_eq (pc := 688) (tgt := 693) rfl (by decide) (fun h688 => ?_) (fun h688 => ?_)
    · refine z_iload (pc := 693) (i := 5) (j := 5) rfl rfl ?_
      refine z_if_ne (pc := 695) (tgt := 710) rfl (by decide) (fun h695 => ?_) (fun h695 => ?_)
      · refine z_goto (pc := 710) (tgt := 1115) rfl (by decide) ?_
        refine z_drop (ls' := lLS i) (fun q hq => ?_) (kk (zuI w f) s (Iv_keep h (by omega) rfl rfl (fun o a1 a2 a3 a4 a5 a6 a7 a8 a9 => hf o a5) (fk 1 (by decide))))
        simp only [lLS, List.mem_cons, List.not_mem_nil, or_false] at hq ⊢
        rcases hq with rfl | rfl | rfl | rfl | rfl <;> simp
      · exact absurd h695 (by decide)
    · exact absurd rfl h688
