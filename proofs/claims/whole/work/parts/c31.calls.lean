/-! the law: the other calls -/

set_option maxRecDepth 100000 in
set_option maxHeartbeats 4000000 in
theorem lc_light {X : Nat × (Nat → Int32)} {w : zW} {s N i mc ms : Nat} (hX : X.1 < 5000) (hi : 7 * i + 7 ≤ X.1) (h : Iv w s N) (hN : N ≤ 511000) (kk : ∀ w2 s2, Iv w2 s2 (N + 1000) → zS mc ms 140 (m_law X) lP 1115 (lLS i) [] w2) : zS (mc + 22) (ms + 3463) 140 (m_law X) lP 341 (lLS i) [] w := by
  refine z_aload_n (pc := 341) (i := 1) (j := 1) rfl rfl rfl ?_
  refine z_aload_n (pc := 342) (i := 0) (j := 0) rfl rfl rfl ?_
  refine z_iload (pc := 343) (i := 4) (j := 4) rfl rfl ?_
  refine z_iconst (pc := 345) (v := 1) rfl (by decide) ?_
  refine z_iadd (pc := 346) rfl ?_
  refine z_tX (pc := 347) rfl rfl hX (lwb (j := 1) hX hi (by decide)) ?_
  refine z_aload_n (pc := 348) (i := 0) (j := 0) rfl rfl rfl ?_
  refine z_iload (pc := 349) (i := 4) (j := 4) rfl rfl ?_
  refine z_iconst (pc := 351) (v := 2) rfl (by decide) ?_
  refine z_iadd (pc := 352) rfl ?_
  refine z_tX (pc := 353) rfl rfl hX (lwb (j := 2) hX hi (by decide)) ?_
  refine z_if_eq (pc := 354) (tgt := 361) rfl (by decide) (fun h354 => ?_) (fun h354 => ?_)
  · refine z_iconst (pc := 361) (v := 0) rfl (by decide) ?_
    refine z_cV (pc := 362) (mc1 := 22) (ms1 := 3463) (mc2 := mc) (ms2 := ms) (as := [.int (lwv X i 1), .int 0]) (rest := []) (o := 0) rfl rfl h.1.1.1 ok_SW_light rfl rfl cl_Lw_36 (by decide) (Nat.le_of_ble_eq_true rfl) (Nat.le_of_ble_eq_true rfl) (by omega) (by omega) (op_light h hN (lwv X i 1) 0) (fun r1 w1 hp => ?_) rfl rfl
    obtain ⟨v, rfl, ⟨l1, l2, l3⟩, hz⟩ := hp
    refine ⟨⟨l1, lw_vl h l2⟩, ?_⟩
    refine z_aload_n (pc := 365) (i := 2) (j := 2) rfl rfl rfl ?_
    refine z_aload_n (pc := 366) (i := 0) (j := 0) rfl rfl rfl ?_
    refine z_iload (pc := 367) (i := 4) (j := 4) rfl rfl ?_
    refine z_iconst (pc := 369) (v := 1) rfl (by decide) ?_
    refine z_iadd (pc := 370) rfl ?_
    refine z_tX (pc := 371) rfl rfl hX (lwb (j := 1) hX hi (by decide)) ?_
    refine z_aload_n (pc := 372) (i := 0) (j := 0) rfl rfl rfl ?_
    refine z_iload (pc := 373) (i := 4) (j := 4) rfl rfl ?_
    refine z_iconst (pc := 375) (v := 2) rfl (by decide) ?_
    refine z_iadd (pc := 376) rfl ?_
    refine z_tX (pc := 377) rfl rfl hX (lwb (j := 2) hX hi (by decide)) ?_
    refine z_if_eq (pc := 378) (tgt := 385) rfl (by decide) (fun h378 => ?_) (fun h378 => ?_)
    · refine z_iconst (pc := 385) (v := 0) rfl (by decide) ?_
      refine z_cV (pc := 386) (mc1 := 0) (ms1 := 0) (mc2 := mc) (ms2 := ms) (as := [.int (lwv X i 1), .int 0]) (rest := [.int v]) (o := 44) rfl rfl l3 ok_Mod_light rfl rfl cl_Lw_40 (by decide) (Nat.le_of_ble_eq_true rfl) (Nat.le_of_ble_eq_true rfl) (by omega) (by omega) hz (fun r2 w2 hq => ?_) rfl rfl
      obtain ⟨rfl, ew, s2, h2⟩ := hq
      refine ⟨⟨by rw [ew]; exact Nat.le_refl _, Or.inl (by rw [ew])⟩, ?_⟩
      refine z_icmp_eq (pc := 389) (tgt := 1115) rfl (by decide) (fun h389 => ?_) (fun h389 => ?_)
      · exact kk w2 s2 h2
      · exact absurd rfl h389
    · exact absurd h354 h378
  · refine z_iconst (pc := 357) (v := 1) rfl (by decide) ?_
    refine z_goto (pc := 358) (tgt := 362) rfl (by decide) ?_
    refine z_cV (pc := 362) (mc1 := 22) (ms1 := 3463) (mc2 := mc) (ms2 := ms) (as := [.int (lwv X i 1), .int 1]) (rest := []) (o := 0) rfl rfl h.1.1.1 ok_SW_light rfl rfl cl_Lw_36 (by decide) (Nat.le_of_ble_eq_true rfl) (Nat.le_of_ble_eq_true rfl) (by omega) (by omega) (op_light h hN (lwv X i 1) 1) (fun r1 w1 hp => ?_) rfl rfl
    obtain ⟨v, rfl, ⟨l1, l2, l3⟩, hz⟩ := hp
    refine ⟨⟨l1, lw_vl h l2⟩, ?_⟩
    refine z_aload_n (pc := 365) (i := 2) (j := 2) rfl rfl rfl ?_
    refine z_aload_n (pc := 366) (i := 0) (j := 0) rfl rfl rfl ?_
    refine z_iload (pc := 367) (i := 4) (j := 4) rfl rfl ?_
    refine z_iconst (pc := 369) (v := 1) rfl (by decide) ?_
    refine z_iadd (pc := 370) rfl ?_
    refine z_tX (pc := 371) rfl rfl hX (lwb (j := 1) hX hi (by decide)) ?_
    refine z_aload_n (pc := 372) (i := 0) (j := 0) rfl rfl rfl ?_
    refine z_iload (pc := 373) (i := 4) (j := 4) rfl rfl ?_
    refine z_iconst (pc := 375) (v := 2) rfl (by decide) ?_
    refine z_iadd (pc := 376) rfl ?_
    refine z_tX (pc := 377) rfl rfl hX (lwb (j := 2) hX hi (by decide)) ?_
    refine z_if_eq (pc := 378) (tgt := 385) rfl (by decide) (fun h378 => ?_) (fun h378 => ?_)
    · exact absurd h378 h354
    · refine z_iconst (pc := 381) (v := 1) rfl (by decide) ?_
      refine z_goto (pc := 382) (tgt := 386) rfl (by decide) ?_
      refine z_cV (pc := 386) (mc1 := 0) (ms1 := 0) (mc2 := mc) (ms2 := ms) (as := [.int (lwv X i 1), .int 1]) (rest := [.int v]) (o := 44) rfl rfl l3 ok_Mod_light rfl rfl cl_Lw_40 (by decide) (Nat.le_of_ble_eq_true rfl) (Nat.le_of_ble_eq_true rfl) (by omega) (by omega) hz (fun r2 w2 hq => ?_) rfl rfl
      obtain ⟨rfl, ew, s2, h2⟩ := hq
      refine ⟨⟨by rw [ew]; exact Nat.le_refl _, Or.inl (by rw [ew])⟩, ?_⟩
      refine z_icmp_eq (pc := 389) (tgt := 1115) rfl (by decide) (fun h389 => ?_) (fun h389 => ?_)
      · exact kk w2 s2 h2
      · exact absurd rfl h389

set_option maxRecDepth 100000 in
set_option maxHeartbeats 4000000 in
theorem lc_shut {X : Nat × (Nat → Int32)} {w : zW} {s N i mc ms : Nat} (hX : X.1 < 5000) (hi : 7 * i + 7 ≤ X.1) (h : Iv w s N) (hN : N ≤ 511000) (kk : ∀ w2 s2, Iv w2 s2 (N + 1000) → zS mc ms 140 (m_law X) lP 1115 (lLS i) [] w2) : zS (mc + 22) (ms + 3463) 140 (m_law X) lP 394 (lLS i) [] w := by
  refine z_aload_n (pc := 394) (i := 1) (j := 1) rfl rfl rfl ?_
  refine z_aload_n (pc := 395) (i := 0) (j := 0) rfl rfl rfl ?_
  refine z_iload (pc := 396) (i := 4) (j := 4) rfl rfl ?_
  refine z_iconst (pc := 398) (v := 1) rfl (by decide) ?_
  refine z_iadd (pc := 399) rfl ?_
  refine z_tX (pc := 400) rfl rfl hX (lwb (j := 1) hX hi (by decide)) ?_
  refine z_aload_n (pc := 401) (i := 0) (j := 0) rfl rfl rfl ?_
  refine z_iload (pc := 402) (i := 4) (j := 4) rfl rfl ?_
  refine z_iconst (pc := 404) (v := 2) rfl (by decide) ?_
  refine z_iadd (pc := 405) rfl ?_
  refine z_tX (pc := 406) rfl rfl hX (lwb (j := 2) hX hi (by decide)) ?_
  refine z_if_eq (pc := 407) (tgt := 414) rfl (by decide) (fun h407 => ?_) (fun h407 => ?_)
  · refine z_iconst (pc := 414) (v := 0) rfl (by decide) ?_
    refine z_cV (pc := 415) (mc1 := 22) (ms1 := 3463) (mc2 := mc) (ms2 := ms) (as := [.int (lwv X i 1), .int 0]) (rest := []) (o := 0) rfl rfl h.1.1.1 ok_SW_shut rfl rfl cl_Lw_41 (by decide) (Nat.le_of_ble_eq_true rfl) (Nat.le_of_ble_eq_true rfl) (by omega) (by omega) (op_shut h hN (lwv X i 1) 0) (fun r1 w1 hp => ?_) rfl rfl
    obtain ⟨v, rfl, ⟨l1, l2, l3⟩, hz⟩ := hp
    refine ⟨⟨l1, lw_vl h l2⟩, ?_⟩
    refine z_aload_n (pc := 418) (i := 2) (j := 2) rfl rfl rfl ?_
    refine z_aload_n (pc := 419) (i := 0) (j := 0) rfl rfl rfl ?_
    refine z_iload (pc := 420) (i := 4) (j := 4) rfl rfl ?_
    refine z_iconst (pc := 422) (v := 1) rfl (by decide) ?_
    refine z_iadd (pc := 423) rfl ?_
    refine z_tX (pc := 424) rfl rfl hX (lwb (j := 1) hX hi (by decide)) ?_
    refine z_aload_n (pc := 425) (i := 0) (j := 0) rfl rfl rfl ?_
    refine z_iload (pc := 426) (i := 4) (j := 4) rfl rfl ?_
    refine z_iconst (pc := 428) (v := 2) rfl (by decide) ?_
    refine z_iadd (pc := 429) rfl ?_
    refine z_tX (pc := 430) rfl rfl hX (lwb (j := 2) hX hi (by decide)) ?_
    refine z_if_eq (pc := 431) (tgt := 438) rfl (by decide) (fun h431 => ?_) (fun h431 => ?_)
    · refine z_iconst (pc := 438) (v := 0) rfl (by decide) ?_
      refine z_cV (pc := 439) (mc1 := 0) (ms1 := 0) (mc2 := mc) (ms2 := ms) (as := [.int (lwv X i 1), .int 0]) (rest := [.int v]) (o := 44) rfl rfl l3 ok_Mod_shut rfl rfl cl_Lw_44 (by decide) (Nat.le_of_ble_eq_true rfl) (Nat.le_of_ble_eq_true rfl) (by omega) (by omega) hz (fun r2 w2 hq => ?_) rfl rfl
      obtain ⟨rfl, ew, s2, h2⟩ := hq
      refine ⟨⟨by rw [ew]; exact Nat.le_refl _, Or.inl (by rw [ew])⟩, ?_⟩
      refine z_icmp_eq (pc := 442) (tgt := 1115) rfl (by decide) (fun h442 => ?_) (fun h442 => ?_)
      · exact kk w2 s2 h2
      · exact absurd rfl h442
    · exact absurd h407 h431
  · refine z_iconst (pc := 410) (v := 1) rfl (by decide) ?_
    refine z_goto (pc := 411) (tgt := 415) rfl (by decide) ?_
    refine z_cV (pc := 415) (mc1 := 22) (ms1 := 3463) (mc2 := mc) (ms2 := ms) (as := [.int (lwv X i 1), .int 1]) (rest := []) (o := 0) rfl rfl h.1.1.1 ok_SW_shut rfl rfl cl_Lw_41 (by decide) (Nat.le_of_ble_eq_true rfl) (Nat.le_of_ble_eq_true rfl) (by omega) (by omega) (op_shut h hN (lwv X i 1) 1) (fun r1 w1 hp => ?_) rfl rfl
    obtain ⟨v, rfl, ⟨l1, l2, l3⟩, hz⟩ := hp
    refine ⟨⟨l1, lw_vl h l2⟩, ?_⟩
    refine z_aload_n (pc := 418) (i := 2) (j := 2) rfl rfl rfl ?_
    refine z_aload_n (pc := 419) (i := 0) (j := 0) rfl rfl rfl ?_
    refine z_iload (pc := 420) (i := 4) (j := 4) rfl rfl ?_
    refine z_iconst (pc := 422) (v := 1) rfl (by decide) ?_
    refine z_iadd (pc := 423) rfl ?_
    refine z_tX (pc := 424) rfl rfl hX (lwb (j := 1) hX hi (by decide)) ?_
    refine z_aload_n (pc := 425) (i := 0) (j := 0) rfl rfl rfl ?_
    refine z_iload (pc := 426) (i := 4) (j := 4) rfl rfl ?_
    refine z_iconst (pc := 428) (v := 2) rfl (by decide) ?_
    refine z_iadd (pc := 429) rfl ?_
    refine z_tX (pc := 430) rfl rfl hX (lwb (j := 2) hX hi (by decide)) ?_
    refine z_if_eq (pc := 431) (tgt := 438) rfl (by decide) (fun h431 => ?_) (fun h431 => ?_)
    · exact absurd h431 h407
    · refine z_iconst (pc := 434) (v := 1) rfl (by decide) ?_
      refine z_goto (pc := 435) (tgt := 439) rfl (by decide) ?_
      refine z_cV (pc := 439) (mc1 := 0) (ms1 := 0) (mc2 := mc) (ms2 := ms) (as := [.int (lwv X i 1), .int 1]) (rest := [.int v]) (o := 44) rfl rfl l3 ok_Mod_shut rfl rfl cl_Lw_44 (by decide) (Nat.le_of_ble_eq_true rfl) (Nat.le_of_ble_eq_true rfl) (by omega) (by omega) hz (fun r2 w2 hq => ?_) rfl rfl
      obtain ⟨rfl, ew, s2, h2⟩ := hq
      refine ⟨⟨by rw [ew]; exact Nat.le_refl _, Or.inl (by rw [ew])⟩, ?_⟩
      refine z_icmp_eq (pc := 442) (tgt := 1115) rfl (by decide) (fun h442 => ?_) (fun h442 => ?_)
      · exact kk w2 s2 h2
      · exact absurd rfl h442

set_option maxRecDepth 100000 in
set_option maxHeartbeats 4000000 in
theorem lc_plume {X : Nat × (Nat → Int32)} {w : zW} {s N i mc ms : Nat} (hX : X.1 < 5000) (hi : 7 * i + 7 ≤ X.1) (h : Iv w s N) (hN : N ≤ 511000) (kk : ∀ w2 s2, Iv w2 s2 (N + 1000) → zS mc ms 140 (m_law X) lP 1115 (lLS i) [] w2) : zS (mc + 22) (ms + 3463) 140 (m_law X) lP 472 (lLS i) [] w := by
  refine z_aload_n (pc := 472) (i := 1) (j := 1) rfl rfl rfl ?_
  refine z_aload_n (pc := 473) (i := 0) (j := 0) rfl rfl rfl ?_
  refine z_iload (pc := 474) (i := 4) (j := 4) rfl rfl ?_
  refine z_iconst (pc := 476) (v := 1) rfl (by decide) ?_
  refine z_iadd (pc := 477) rfl ?_
  refine z_tX (pc := 478) rfl rfl hX (lwb (j := 1) hX hi (by decide)) ?_
  refine z_cV (pc := 479) (mc1 := 22) (ms1 := 3463) (mc2 := mc) (ms2 := ms) (as := [.int (lwv X i 1)]) (rest := []) (o := 0) rfl rfl h.1.1.1 ok_SW_plume rfl rfl cl_Lw_50 (by decide) (Nat.le_of_ble_eq_true rfl) (Nat.le_of_ble_eq_true rfl) (by omega) (by omega) (op_plume h hN (lwv X i 1)) (fun r1 w1 hp => ?_) rfl rfl
  obtain ⟨v, rfl, ⟨l1, l2, l3⟩, hz⟩ := hp
  refine ⟨⟨l1, lw_vl h l2⟩, ?_⟩
  refine z_aload_n (pc := 482) (i := 2) (j := 2) rfl rfl rfl ?_
  refine z_aload_n (pc := 483) (i := 0) (j := 0) rfl rfl rfl ?_
  refine z_iload (pc := 484) (i := 4) (j := 4) rfl rfl ?_
  refine z_iconst (pc := 486) (v := 1) rfl (by decide) ?_
  refine z_iadd (pc := 487) rfl ?_
  refine z_tX (pc := 488) rfl rfl hX (lwb (j := 1) hX hi (by decide)) ?_
  refine z_cV (pc := 489) (mc1 := 0) (ms1 := 0) (mc2 := mc) (ms2 := ms) (as := [.int (lwv X i 1)]) (rest := [.int v]) (o := 44) rfl rfl l3 ok_Mod_plume rfl rfl cl_Lw_53 (by decide) (Nat.le_of_ble_eq_true rfl) (Nat.le_of_ble_eq_true rfl) (by omega) (by omega) hz (fun r2 w2 hq => ?_) rfl rfl
  obtain ⟨rfl, ew, s2, h2⟩ := hq
  refine ⟨⟨by rw [ew]; exact Nat.le_refl _, Or.inl (by rw [ew])⟩, ?_⟩
  refine z_icmp_eq (pc := 492) (tgt := 1115) rfl (by decide) (fun h492 => ?_) (fun h492 => ?_)
  · exact kk w2 s2 h2
  · exact absurd rfl h492

set_option maxRecDepth 100000 in
set_option maxHeartbeats 4000000 in
theorem lc_smoke {X : Nat × (Nat → Int32)} {w : zW} {s N i mc ms : Nat} (hX : X.1 < 5000) (hi : 7 * i + 7 ≤ X.1) (h : Iv w s N) (hN : N ≤ 511000) (kk : ∀ w2 s2, Iv w2 s2 (N + 1000) → zS mc ms 140 (m_law X) lP 1115 (lLS i) [] w2) : zS (mc + 22) (ms + 3463) 140 (m_law X) lP 497 (lLS i) [] w := by
  refine z_aload_n (pc := 497) (i := 1) (j := 1) rfl rfl rfl ?_
  refine z_aload_n (pc := 498) (i := 0) (j := 0) rfl rfl rfl ?_
  refine z_iload (pc := 499) (i := 4) (j := 4) rfl rfl ?_
  refine z_iconst (pc := 501) (v := 1) rfl (by decide) ?_
  refine z_iadd (pc := 502) rfl ?_
  refine z_tX (pc := 503) rfl rfl hX (lwb (j := 1) hX hi (by decide)) ?_
  refine z_aload_n (pc := 504) (i := 0) (j := 0) rfl rfl rfl ?_
  refine z_iload (pc := 505) (i := 4) (j := 4) rfl rfl ?_
  refine z_iconst (pc := 507) (v := 2) rfl (by decide) ?_
  refine z_iadd (pc := 508) rfl ?_
  refine z_tX (pc := 509) rfl rfl hX (lwb (j := 2) hX hi (by decide)) ?_
  refine z_cV (pc := 510) (mc1 := 22) (ms1 := 3463) (mc2 := mc) (ms2 := ms) (as := [.int (lwv X i 1), .int (lwv X i 2)]) (rest := []) (o := 0) rfl rfl h.1.1.1 ok_SW_smoke rfl rfl cl_Lw_54 (by decide) (Nat.le_of_ble_eq_true rfl) (Nat.le_of_ble_eq_true rfl) (by omega) (by omega) (op_smoke h hN (lwv X i 1) (lwv X i 2)) (fun r1 w1 hp => ?_) rfl rfl
  obtain ⟨v, rfl, ⟨l1, l2, l3⟩, hz⟩ := hp
  refine ⟨⟨l1, lw_vl h l2⟩, ?_⟩
  refine z_aload_n (pc := 513) (i := 2) (j := 2) rfl rfl rfl ?_
  refine z_aload_n (pc := 514) (i := 0) (j := 0) rfl rfl rfl ?_
  refine z_iload (pc := 515) (i := 4) (j := 4) rfl rfl ?_
  refine z_iconst (pc := 517) (v := 1) rfl (by decide) ?_
  refine z_iadd (pc := 518) rfl ?_
  refine z_tX (pc := 519) rfl rfl hX (lwb (j := 1) hX hi (by decide)) ?_
  refine z_aload_n (pc := 520) (i := 0) (j := 0) rfl rfl rfl ?_
  refine z_iload (pc := 521) (i := 4) (j := 4) rfl rfl ?_
  refine z_iconst (pc := 523) (v := 2) rfl (by decide) ?_
  refine z_iadd (pc := 524) rfl ?_
  refine z_tX (pc := 525) rfl rfl hX (lwb (j := 2) hX hi (by decide)) ?_
  refine z_cV (pc := 526) (mc1 := 0) (ms1 := 0) (mc2 := mc) (ms2 := ms) (as := [.int (lwv X i 1), .int (lwv X i 2)]) (rest := [.int v]) (o := 44) rfl rfl l3 ok_Mod_smoke rfl rfl cl_Lw_57 (by decide) (Nat.le_of_ble_eq_true rfl) (Nat.le_of_ble_eq_true rfl) (by omega) (by omega) hz (fun r2 w2 hq => ?_) rfl rfl
  obtain ⟨rfl, ew, s2, h2⟩ := hq
  refine ⟨⟨by rw [ew]; exact Nat.le_refl _, Or.inl (by rw [ew])⟩, ?_⟩
  refine z_icmp_eq (pc := 529) (tgt := 1115) rfl (by decide) (fun h529 => ?_) (fun h529 => ?_)
  · exact kk w2 s2 h2
  · exact absurd rfl h529

set_option maxRecDepth 100000 in
set_option maxHeartbeats 4000000 in
theorem lc_meets {X : Nat × (Nat → Int32)} {w : zW} {s N i mc ms : Nat} (hX : X.1 < 5000) (hi : 7 * i + 7 ≤ X.1) (h : Iv w s N) (hN : N ≤ 511000) (kk : ∀ w2 s2, Iv w2 s2 (N + 1000) → zS mc ms 140 (m_law X) lP 1115 (lLS i) [] w2) : zS (mc + 22) (ms + 3463) 140 (m_law X) lP 534 (lLS i) [] w := by
  refine z_aload_n (pc := 534) (i := 1) (j := 1) rfl rfl rfl ?_
  refine z_aload_n (pc := 535) (i := 0) (j := 0) rfl rfl rfl ?_
  refine z_iload (pc := 536) (i := 4) (j := 4) rfl rfl ?_
  refine z_iconst (pc := 538) (v := 1) rfl (by decide) ?_
  refine z_iadd (pc := 539) rfl ?_
  refine z_tX (pc := 540) rfl rfl hX (lwb (j := 1) hX hi (by decide)) ?_
  refine z_cV (pc := 541) (mc1 := 22) (ms1 := 3463) (mc2 := mc) (ms2 := ms) (as := [.int (lwv X i 1)]) (rest := []) (o := 0) rfl rfl h.1.1.1 ok_SW_meets rfl rfl cl_Lw_58 (by decide) (Nat.le_of_ble_eq_true rfl) (Nat.le_of_ble_eq_true rfl) (by omega) (by omega) (op_meets h hN (lwv X i 1)) (fun r1 w1 hp => ?_) rfl rfl
  obtain ⟨v, rfl, ⟨l1, l2, l3⟩, hz⟩ := hp
  refine ⟨⟨l1, lw_vl h l2⟩, ?_⟩
  refine z_aload_n (pc := 544) (i := 2) (j := 2) rfl rfl rfl ?_
  refine z_aload_n (pc := 545) (i := 0) (j := 0) rfl rfl rfl ?_
  refine z_iload (pc := 546) (i := 4) (j := 4) rfl rfl ?_
  refine z_iconst (pc := 548) (v := 1) rfl (by decide) ?_
  refine z_iadd (pc := 549) rfl ?_
  refine z_tX (pc := 550) rfl rfl hX (lwb (j := 1) hX hi (by decide)) ?_
  refine z_cV (pc := 551) (mc1 := 0) (ms1 := 0) (mc2 := mc) (ms2 := ms) (as := [.int (lwv X i 1)]) (rest := [.int v]) (o := 44) rfl rfl l3 ok_Mod_meets rfl rfl cl_Lw_61 (by decide) (Nat.le_of_ble_eq_true rfl) (Nat.le_of_ble_eq_true rfl) (by omega) (by omega) hz (fun r2 w2 hq => ?_) rfl rfl
  obtain ⟨rfl, ew, s2, h2⟩ := hq
  refine ⟨⟨by rw [ew]; exact Nat.le_refl _, Or.inl (by rw [ew])⟩, ?_⟩
  refine z_icmp_eq (pc := 554) (tgt := 1115) rfl (by decide) (fun h554 => ?_) (fun h554 => ?_)
  · exact kk w2 s2 h2
  · exact absurd rfl h554

set_option maxRecDepth 100000 in
set_option maxHeartbeats 4000000 in
theorem lc_hours {X : Nat × (Nat → Int32)} {w : zW} {s N i mc ms : Nat} (hX : X.1 < 5000) (hi : 7 * i + 7 ≤ X.1) (h : Iv w s N) (hN : N ≤ 511000) (kk : ∀ w2 s2, Iv w2 s2 (N + 1000) → zS mc ms 140 (m_law X) lP 1115 (lLS i) [] w2) : zS (mc + 22) (ms + 3463) 140 (m_law X) lP 559 (lLS i) [] w := by
  refine z_aload_n (pc := 559) (i := 1) (j := 1) rfl rfl rfl ?_
  refine z_aload_n (pc := 560) (i := 0) (j := 0) rfl rfl rfl ?_
  refine z_iload (pc := 561) (i := 4) (j := 4) rfl rfl ?_
  refine z_iconst (pc := 563) (v := 1) rfl (by decide) ?_
  refine z_iadd (pc := 564) rfl ?_
  refine z_tX (pc := 565) rfl rfl hX (lwb (j := 1) hX hi (by decide)) ?_
  refine z_cV (pc := 566) (mc1 := 22) (ms1 := 3463) (mc2 := mc) (ms2 := ms) (as := [.int (lwv X i 1)]) (rest := []) (o := 0) rfl rfl h.1.1.1 ok_SW_hours rfl rfl cl_Lw_62 (by decide) (Nat.le_of_ble_eq_true rfl) (Nat.le_of_ble_eq_true rfl) (by omega) (by omega) (op_hours h hN (lwv X i 1)) (fun r1 w1 hp => ?_) rfl rfl
  obtain ⟨v, rfl, ⟨l1, l2, l3⟩, hz⟩ := hp
  refine ⟨⟨l1, lw_vl h l2⟩, ?_⟩
  refine z_aload_n (pc := 569) (i := 2) (j := 2) rfl rfl rfl ?_
  refine z_aload_n (pc := 570) (i := 0) (j := 0) rfl rfl rfl ?_
  refine z_iload (pc := 571) (i := 4) (j := 4) rfl rfl ?_
  refine z_iconst (pc := 573) (v := 1) rfl (by decide) ?_
  refine z_iadd (pc := 574) rfl ?_
  refine z_tX (pc := 575) rfl rfl hX (lwb (j := 1) hX hi (by decide)) ?_
  refine z_cV (pc := 576) (mc1 := 0) (ms1 := 0) (mc2 := mc) (ms2 := ms) (as := [.int (lwv X i 1)]) (rest := [.int v]) (o := 44) rfl rfl l3 ok_Mod_hours rfl rfl cl_Lw_65 (by decide) (Nat.le_of_ble_eq_true rfl) (Nat.le_of_ble_eq_true rfl) (by omega) (by omega) hz (fun r2 w2 hq => ?_) rfl rfl
  obtain ⟨rfl, ew, s2, h2⟩ := hq
  refine ⟨⟨by rw [ew]; exact Nat.le_refl _, Or.inl (by rw [ew])⟩, ?_⟩
  refine z_icmp_eq (pc := 579) (tgt := 1115) rfl (by decide) (fun h579 => ?_) (fun h579 => ?_)
  · exact kk w2 s2 h2
  · exact absurd rfl h579

set_option maxRecDepth 100000 in
set_option maxHeartbeats 4000000 in
theorem lc_pair {X : Nat × (Nat → Int32)} {w : zW} {s N i mc ms : Nat} (hX : X.1 < 5000) (hi : 7 * i + 7 ≤ X.1) (h : Iv w s N) (hN : N ≤ 511000) (kk : ∀ w2 s2, Iv w2 s2 (N + 1000) → zS mc ms 140 (m_law X) lP 1115 (lLS i) [] w2) : zS (mc + 22) (ms + 3463) 140 (m_law X) lP 584 (lLS i) [] w := by
  refine z_aload_n (pc := 584) (i := 1) (j := 1) rfl rfl rfl ?_
  refine z_aload_n (pc := 585) (i := 0) (j := 0) rfl rfl rfl ?_
  refine z_iload (pc := 586) (i := 4) (j := 4) rfl rfl ?_
  refine z_iconst (pc := 588) (v := 1) rfl (by decide) ?_
  refine z_iadd (pc := 589) rfl ?_
  refine z_tX (pc := 590) rfl rfl hX (lwb (j := 1) hX hi (by decide)) ?_
  refine z_aload_n (pc := 591) (i := 0) (j := 0) rfl rfl rfl ?_
  refine z_iload (pc := 592) (i := 4) (j := 4) rfl rfl ?_
  refine z_iconst (pc := 594) (v := 2) rfl (by decide) ?_
  refine z_iadd (pc := 595) rfl ?_
  refine z_tX (pc := 596) rfl rfl hX (lwb (j := 2) hX hi (by decide)) ?_
  refine z_aload_n (pc := 597) (i := 0) (j := 0) rfl rfl rfl ?_
  refine z_iload (pc := 598) (i := 4) (j := 4) rfl rfl ?_
  refine z_iconst (pc := 600) (v := 3) rfl (by decide) ?_
  refine z_iadd (pc := 601) rfl ?_
  refine z_tX (pc := 602) rfl rfl hX (lwb (j := 3) hX hi (by decide)) ?_
  refine z_cV (pc := 603) (mc1 := 22) (ms1 := 3463) (mc2 := mc) (ms2 := ms) (as := [.int (lwv X i 1), .int (lwv X i 2), .int (lwv X i 3)]) (rest := []) (o := 0) rfl rfl h.1.1.1 ok_SW_pair rfl rfl cl_Lw_66 (by decide) (Nat.le_of_ble_eq_true rfl) (Nat.le_of_ble_eq_true rfl) (by omega) (by omega) (op_pair h hN (lwv X i 1) (lwv X i 2) (lwv X i 3)) (fun r1 w1 hp => ?_) rfl rfl
  obtain ⟨v, rfl, ⟨l1, l2, l3⟩, hz⟩ := hp
  refine ⟨⟨l1, lw_vl h l2⟩, ?_⟩
  refine z_aload_n (pc := 606) (i := 2) (j := 2) rfl rfl rfl ?_
  refine z_aload_n (pc := 607) (i := 0) (j := 0) rfl rfl rfl ?_
  refine z_iload (pc := 608) (i := 4) (j := 4) rfl rfl ?_
  refine z_iconst (pc := 610) (v := 1) rfl (by decide) ?_
  refine z_iadd (pc := 611) rfl ?_
  refine z_tX (pc := 612) rfl rfl hX (lwb (j := 1) hX hi (by decide)) ?_
  refine z_aload_n (pc := 613) (i := 0) (j := 0) rfl rfl rfl ?_
  refine z_iload (pc := 614) (i := 4) (j := 4) rfl rfl ?_
  refine z_iconst (pc := 616) (v := 2) rfl (by decide) ?_
  refine z_iadd (pc := 617) rfl ?_
  refine z_tX (pc := 618) rfl rfl hX (lwb (j := 2) hX hi (by decide)) ?_
  refine z_aload_n (pc := 619) (i := 0) (j := 0) rfl rfl rfl ?_
  refine z_iload (pc := 620) (i := 4) (j := 4) rfl rfl ?_
  refine z_iconst (pc := 622) (v := 3) rfl (by decide) ?_
  refine z_iadd (pc := 623) rfl ?_
  refine z_tX (pc := 624) rfl rfl hX (lwb (j := 3) hX hi (by decide)) ?_
  refine z_cV (pc := 625) (mc1 := 0) (ms1 := 0) (mc2 := mc) (ms2 := ms) (as := [.int (lwv X i 1), .int (lwv X i 2), .int (lwv X i 3)]) (rest := [.int v]) (o := 44) rfl rfl l3 ok_Mod_pair rfl rfl cl_Lw_69 (by decide) (Nat.le_of_ble_eq_true rfl) (Nat.le_of_ble_eq_true rfl) (by omega) (by omega) hz (fun r2 w2 hq => ?_) rfl rfl
  obtain ⟨rfl, ew, s2, h2⟩ := hq
  refine ⟨⟨by rw [ew]; exact Nat.le_refl _, Or.inl (by rw [ew])⟩, ?_⟩
  refine z_icmp_eq (pc := 628) (tgt := 1115) rfl (by decide) (fun h628 => ?_) (fun h628 => ?_)
  · exact kk w2 s2 h2
  · exact absurd rfl h628

set_option maxRecDepth 100000 in
set_option maxHeartbeats 4000000 in
theorem lc_only {X : Nat × (Nat → Int32)} {w : zW} {s N i mc ms : Nat} (hX : X.1 < 5000) (hi : 7 * i + 7 ≤ X.1) (h : Iv w s N) (hN : N ≤ 511000) (kk : ∀ w2 s2, Iv w2 s2 (N + 1000) → zS mc ms 140 (m_law X) lP 1115 (lLS i) [] w2) : zS (mc + 22) (ms + 3463) 140 (m_law X) lP 713 (lLS i) [] w := by
  refine z_aload_n (pc := 713) (i := 1) (j := 1) rfl rfl rfl ?_
  refine z_aload_n (pc := 714) (i := 0) (j := 0) rfl rfl rfl ?_
  refine z_iload (pc := 715) (i := 4) (j := 4) rfl rfl ?_
  refine z_iconst (pc := 717) (v := 1) rfl (by decide) ?_
  refine z_iadd (pc := 718) rfl ?_
  refine z_tX (pc := 719) rfl rfl hX (lwb (j := 1) hX hi (by decide)) ?_
  refine z_aload_n (pc := 720) (i := 0) (j := 0) rfl rfl rfl ?_
  refine z_iload (pc := 721) (i := 4) (j := 4) rfl rfl ?_
  refine z_iconst (pc := 723) (v := 2) rfl (by decide) ?_
  refine z_iadd (pc := 724) rfl ?_
  refine z_tX (pc := 725) rfl rfl hX (lwb (j := 2) hX hi (by decide)) ?_
  refine z_cV (pc := 726) (mc1 := 22) (ms1 := 3463) (mc2 := mc) (ms2 := ms) (as := [.int (lwv X i 1), .int (lwv X i 2)]) (rest := []) (o := 0) rfl rfl h.1.1.1 ok_SW_only rfl rfl cl_Lw_79 (by decide) (Nat.le_of_ble_eq_true rfl) (Nat.le_of_ble_eq_true rfl) (by omega) (by omega) (op_only h hN (lwv X i 1) (lwv X i 2)) (fun r1 w1 hp => ?_) rfl rfl
  obtain ⟨v, rfl, ⟨l1, l2, l3⟩, hz⟩ := hp
  refine ⟨⟨l1, lw_vl h l2⟩, ?_⟩
  refine z_aload_n (pc := 729) (i := 2) (j := 2) rfl rfl rfl ?_
  refine z_aload_n (pc := 730) (i := 0) (j := 0) rfl rfl rfl ?_
  refine z_iload (pc := 731) (i := 4) (j := 4) rfl rfl ?_
  refine z_iconst (pc := 733) (v := 1) rfl (by decide) ?_
  refine z_iadd (pc := 734) rfl ?_
  refine z_tX (pc := 735) rfl rfl hX (lwb (j := 1) hX hi (by decide)) ?_
  refine z_aload_n (pc := 736) (i := 0) (j := 0) rfl rfl rfl ?_
  refine z_iload (pc := 737) (i := 4) (j := 4) rfl rfl ?_
  refine z_iconst (pc := 739) (v := 2) rfl (by decide) ?_
  refine z_iadd (pc := 740) rfl ?_
  refine z_tX (pc := 741) rfl rfl hX (lwb (j := 2) hX hi (by decide)) ?_
  refine z_cV (pc := 742) (mc1 := 0) (ms1 := 0) (mc2 := mc) (ms2 := ms) (as := [.int (lwv X i 1), .int (lwv X i 2)]) (rest := [.int v]) (o := 44) rfl rfl l3 ok_Mod_only rfl rfl cl_Lw_82 (by decide) (Nat.le_of_ble_eq_true rfl) (Nat.le_of_ble_eq_true rfl) (by omega) (by omega) hz (fun r2 w2 hq => ?_) rfl rfl
  obtain ⟨rfl, ew, s2, h2⟩ := hq
  refine ⟨⟨by rw [ew]; exact Nat.le_refl _, Or.inl (by rw [ew])⟩, ?_⟩
  refine z_icmp_eq (pc := 745) (tgt := 1115) rfl (by decide) (fun h745 => ?_) (fun h745 => ?_)
  · exact kk w2 s2 h2
  · exact absurd rfl h745

set_option maxRecDepth 100000 in
set_option maxHeartbeats 4000000 in
theorem lc_feast {X : Nat × (Nat → Int32)} {w : zW} {s N i mc ms : Nat} (hX : X.1 < 5000) (hi : 7 * i + 7 ≤ X.1) (h : Iv w s N) (hN : N ≤ 511000) (kk : ∀ w2 s2, Iv w2 s2 (N + 1000) → zS mc ms 140 (m_law X) lP 1115 (lLS i) [] w2) : zS (mc + 22) (ms + 3463) 140 (m_law X) lP 750 (lLS i) [] w := by
  refine z_aload_n (pc := 750) (i := 1) (j := 1) rfl rfl rfl ?_
  refine z_aload_n (pc := 751) (i := 0) (j := 0) rfl rfl rfl ?_
  refine z_iload (pc := 752) (i := 4) (j := 4) rfl rfl ?_
  refine z_iconst (pc := 754) (v := 1) rfl (by decide) ?_
  refine z_iadd (pc := 755) rfl ?_
  refine z_tX (pc := 756) rfl rfl hX (lwb (j := 1) hX hi (by decide)) ?_
  refine z_aload_n (pc := 757) (i := 0) (j := 0) rfl rfl rfl ?_
  refine z_iload (pc := 758) (i := 4) (j := 4) rfl rfl ?_
  refine z_iconst (pc := 760) (v := 2) rfl (by decide) ?_
  refine z_iadd (pc := 761) rfl ?_
  refine z_tX (pc := 762) rfl rfl hX (lwb (j := 2) hX hi (by decide)) ?_
  refine z_cV (pc := 763) (mc1 := 22) (ms1 := 3463) (mc2 := mc) (ms2 := ms) (as := [.int (lwv X i 1), .int (lwv X i 2)]) (rest := []) (o := 0) rfl rfl h.1.1.1 ok_SW_feast rfl rfl cl_Lw_83 (by decide) (Nat.le_of_ble_eq_true rfl) (Nat.le_of_ble_eq_true rfl) (by omega) (by omega) (op_feast h hN (lwv X i 1) (lwv X i 2)) (fun r1 w1 hp => ?_) rfl rfl
  obtain ⟨v, rfl, ⟨l1, l2, l3⟩, hz⟩ := hp
  refine ⟨⟨l1, lw_vl h l2⟩, ?_⟩
  refine z_aload_n (pc := 766) (i := 2) (j := 2) rfl rfl rfl ?_
  refine z_aload_n (pc := 767) (i := 0) (j := 0) rfl rfl rfl ?_
  refine z_iload (pc := 768) (i := 4) (j := 4) rfl rfl ?_
  refine z_iconst (pc := 770) (v := 1) rfl (by decide) ?_
  refine z_iadd (pc := 771) rfl ?_
  refine z_tX (pc := 772) rfl rfl hX (lwb (j := 1) hX hi (by decide)) ?_
  refine z_aload_n (pc := 773) (i := 0) (j := 0) rfl rfl rfl ?_
  refine z_iload (pc := 774) (i := 4) (j := 4) rfl rfl ?_
  refine z_iconst (pc := 776) (v := 2) rfl (by decide) ?_
  refine z_iadd (pc := 777) rfl ?_
  refine z_tX (pc := 778) rfl rfl hX (lwb (j := 2) hX hi (by decide)) ?_
  refine z_cV (pc := 779) (mc1 := 0) (ms1 := 0) (mc2 := mc) (ms2 := ms) (as := [.int (lwv X i 1), .int (lwv X i 2)]) (rest := [.int v]) (o := 44) rfl rfl l3 ok_Mod_feast rfl rfl cl_Lw_86 (by decide) (Nat.le_of_ble_eq_true rfl) (Nat.le_of_ble_eq_true rfl) (by omega) (by omega) hz (fun r2 w2 hq => ?_) rfl rfl
  obtain ⟨rfl, ew, s2, h2⟩ := hq
  refine ⟨⟨by rw [ew]; exact Nat.le_refl _, Or.inl (by rw [ew])⟩, ?_⟩
  refine z_icmp_eq (pc := 782) (tgt := 1115) rfl (by decide) (fun h782 => ?_) (fun h782 => ?_)
  · exact kk w2 s2 h2
  · exact absurd rfl h782

set_option maxRecDepth 100000 in
set_option maxHeartbeats 4000000 in
theorem lc_free {X : Nat × (Nat → Int32)} {w : zW} {s N i mc ms : Nat} (hX : X.1 < 5000) (hi : 7 * i + 7 ≤ X.1) (h : Iv w s N) (hN : N ≤ 511000) (kk : ∀ w2 s2, Iv w2 s2 (N + 1000) → zS mc ms 140 (m_law X) lP 1115 (lLS i) [] w2) : zS (mc + 22) (ms + 3463) 140 (m_law X) lP 787 (lLS i) [] w := by
  refine z_aload_n (pc := 787) (i := 1) (j := 1) rfl rfl rfl ?_
  refine z_aload_n (pc := 788) (i := 0) (j := 0) rfl rfl rfl ?_
  refine z_iload (pc := 789) (i := 4) (j := 4) rfl rfl ?_
  refine z_iconst (pc := 791) (v := 1) rfl (by decide) ?_
  refine z_iadd (pc := 792) rfl ?_
  refine z_tX (pc := 793) rfl rfl hX (lwb (j := 1) hX hi (by decide)) ?_
  refine z_aload_n (pc := 794) (i := 0) (j := 0) rfl rfl rfl ?_
  refine z_iload (pc := 795) (i := 4) (j := 4) rfl rfl ?_
  refine z_iconst (pc := 797) (v := 2) rfl (by decide) ?_
  refine z_iadd (pc := 798) rfl ?_
  refine z_tX (pc := 799) rfl rfl hX (lwb (j := 2) hX hi (by decide)) ?_
  refine z_cV (pc := 800) (mc1 := 22) (ms1 := 3463) (mc2 := mc) (ms2 := ms) (as := [.int (lwv X i 1), .int (lwv X i 2)]) (rest := []) (o := 0) rfl rfl h.1.1.1 ok_SW_free rfl rfl cl_Lw_87 (by decide) (Nat.le_of_ble_eq_true rfl) (Nat.le_of_ble_eq_true rfl) (by omega) (by omega) (op_free h hN (lwv X i 1) (lwv X i 2)) (fun r1 w1 hp => ?_) rfl rfl
  obtain ⟨v, rfl, ⟨l1, l2, l3⟩, hz⟩ := hp
  refine ⟨⟨l1, lw_vl h l2⟩, ?_⟩
  refine z_aload_n (pc := 803) (i := 2) (j := 2) rfl rfl rfl ?_
  refine z_aload_n (pc := 804) (i := 0) (j := 0) rfl rfl rfl ?_
  refine z_iload (pc := 805) (i := 4) (j := 4) rfl rfl ?_
  refine z_iconst (pc := 807) (v := 1) rfl (by decide) ?_
  refine z_iadd (pc := 808) rfl ?_
  refine z_tX (pc := 809) rfl rfl hX (lwb (j := 1) hX hi (by decide)) ?_
  refine z_aload_n (pc := 810) (i := 0) (j := 0) rfl rfl rfl ?_
  refine z_iload (pc := 811) (i := 4) (j := 4) rfl rfl ?_
  refine z_iconst (pc := 813) (v := 2) rfl (by decide) ?_
  refine z_iadd (pc := 814) rfl ?_
  refine z_tX (pc := 815) rfl rfl hX (lwb (j := 2) hX hi (by decide)) ?_
  refine z_cV (pc := 816) (mc1 := 0) (ms1 := 0) (mc2 := mc) (ms2 := ms) (as := [.int (lwv X i 1), .int (lwv X i 2)]) (rest := [.int v]) (o := 44) rfl rfl l3 ok_Mod_free rfl rfl cl_Lw_90 (by decide) (Nat.le_of_ble_eq_true rfl) (Nat.le_of_ble_eq_true rfl) (by omega) (by omega) hz (fun r2 w2 hq => ?_) rfl rfl
  obtain ⟨rfl, ew, s2, h2⟩ := hq
  refine ⟨⟨by rw [ew]; exact Nat.le_refl _, Or.inl (by rw [ew])⟩, ?_⟩
  refine z_icmp_eq (pc := 819) (tgt := 1115) rfl (by decide) (fun h819 => ?_) (fun h819 => ?_)
  · exact kk w2 s2 h2
  · exact absurd rfl h819

set_option maxRecDepth 100000 in
set_option maxHeartbeats 4000000 in
theorem lc_sight {X : Nat × (Nat → Int32)} {w : zW} {s N i mc ms : Nat} (hX : X.1 < 5000) (hi : 7 * i + 7 ≤ X.1) (h : Iv w s N) (hN : N ≤ 511000) (kk : ∀ w2 s2, Iv w2 s2 (N + 1000) → zS mc ms 140 (m_law X) lP 1115 (lLS i) [] w2) : zS (mc + 22) (ms + 3463) 140 (m_law X) lP 824 (lLS i) [] w := by
  refine z_aload_n (pc := 824) (i := 1) (j := 1) rfl rfl rfl ?_
  refine z_aload_n (pc := 825) (i := 0) (j := 0) rfl rfl rfl ?_
  refine z_iload (pc := 826) (i := 4) (j := 4) rfl rfl ?_
  refine z_iconst (pc := 828) (v := 1) rfl (by decide) ?_
  refine z_iadd (pc := 829) rfl ?_
  refine z_tX (pc := 830) rfl rfl hX (lwb (j := 1) hX hi (by decide)) ?_
  refine z_aload_n (pc := 831) (i := 0) (j := 0) rfl rfl rfl ?_
  refine z_iload (pc := 832) (i := 4) (j := 4) rfl rfl ?_
  refine z_iconst (pc := 834) (v := 2) rfl (by decide) ?_
  refine z_iadd (pc := 835) rfl ?_
  refine z_tX (pc := 836) rfl rfl hX (lwb (j := 2) hX hi (by decide)) ?_
  refine z_aload_n (pc := 837) (i := 0) (j := 0) rfl rfl rfl ?_
  refine z_iload (pc := 838) (i := 4) (j := 4) rfl rfl ?_
  refine z_iconst (pc := 840) (v := 3) rfl (by decide) ?_
  refine z_iadd (pc := 841) rfl ?_
  refine z_tX (pc := 842) rfl rfl hX (lwb (j := 3) hX hi (by decide)) ?_
  refine z_if_eq (pc := 843) (tgt := 850) rfl (by decide) (fun h843 => ?_) (fun h843 => ?_)
  · refine z_iconst (pc := 850) (v := 0) rfl (by decide) ?_
    refine z_cV (pc := 851) (mc1 := 22) (ms1 := 3463) (mc2 := mc) (ms2 := ms) (as := [.int (lwv X i 1), .int (lwv X i 2), .int 0]) (rest := []) (o := 0) rfl rfl h.1.1.1 ok_SW_sight rfl rfl cl_Lw_91 (by decide) (Nat.le_of_ble_eq_true rfl) (Nat.le_of_ble_eq_true rfl) (by omega) (by omega) (op_sight h hN (lwv X i 1) (lwv X i 2) 0) (fun r1 w1 hp => ?_) rfl rfl
    obtain ⟨v, rfl, ⟨l1, l2, l3⟩, hz⟩ := hp
    refine ⟨⟨l1, lw_vl h l2⟩, ?_⟩
    refine z_aload_n (pc := 854) (i := 2) (j := 2) rfl rfl rfl ?_
    refine z_aload_n (pc := 855) (i := 0) (j := 0) rfl rfl rfl ?_
    refine z_iload (pc := 856) (i := 4) (j := 4) rfl rfl ?_
    refine z_iconst (pc := 858) (v := 1) rfl (by decide) ?_
    refine z_iadd (pc := 859) rfl ?_
    refine z_tX (pc := 860) rfl rfl hX (lwb (j := 1) hX hi (by decide)) ?_
    refine z_aload_n (pc := 861) (i := 0) (j := 0) rfl rfl rfl ?_
    refine z_iload (pc := 862) (i := 4) (j := 4) rfl rfl ?_
    refine z_iconst (pc := 864) (v := 2) rfl (by decide) ?_
    refine z_iadd (pc := 865) rfl ?_
    refine z_tX (pc := 866) rfl rfl hX (lwb (j := 2) hX hi (by decide)) ?_
    refine z_aload_n (pc := 867) (i := 0) (j := 0) rfl rfl rfl ?_
    refine z_iload (pc := 868) (i := 4) (j := 4) rfl rfl ?_
    refine z_iconst (pc := 870) (v := 3) rfl (by decide) ?_
    refine z_iadd (pc := 871) rfl ?_
    refine z_tX (pc := 872) rfl rfl hX (lwb (j := 3) hX hi (by decide)) ?_
    refine z_if_eq (pc := 873) (tgt := 880) rfl (by decide) (fun h873 => ?_) (fun h873 => ?_)
    · refine z_iconst (pc := 880) (v := 0) rfl (by decide) ?_
      refine z_cV (pc := 881) (mc1 := 0) (ms1 := 0) (mc2 := mc) (ms2 := ms) (as := [.int (lwv X i 1), .int (lwv X i 2), .int 0]) (rest := [.int v]) (o := 44) rfl rfl l3 ok_Mod_sight rfl rfl cl_Lw_95 (by decide) (Nat.le_of_ble_eq_true rfl) (Nat.le_of_ble_eq_true rfl) (by omega) (by omega) hz (fun r2 w2 hq => ?_) rfl rfl
      obtain ⟨rfl, ew, s2, h2⟩ := hq
      refine ⟨⟨by rw [ew]; exact Nat.le_refl _, Or.inl (by rw [ew])⟩, ?_⟩
      refine z_icmp_eq (pc := 884) (tgt := 1115) rfl (by decide) (fun h884 => ?_) (fun h884 => ?_)
      · exact kk w2 s2 h2
      · exact absurd rfl h884
    · exact absurd h843 h873
  · refine z_iconst (pc := 846) (v := 1) rfl (by decide) ?_
    refine z_goto (pc := 847) (tgt := 851) rfl (by decide) ?_
    refine z_cV (pc := 851) (mc1 := 22) (ms1 := 3463) (mc2 := mc) (ms2 := ms) (as := [.int (lwv X i 1), .int (lwv X i 2), .int 1]) (rest := []) (o := 0) rfl rfl h.1.1.1 ok_SW_sight rfl rfl cl_Lw_91 (by decide) (Nat.le_of_ble_eq_true rfl) (Nat.le_of_ble_eq_true rfl) (by omega) (by omega) (op_sight h hN (lwv X i 1) (lwv X i 2) 1) (fun r1 w1 hp => ?_) rfl rfl
    obtain ⟨v, rfl, ⟨l1, l2, l3⟩, hz⟩ := hp
    refine ⟨⟨l1, lw_vl h l2⟩, ?_⟩
    refine z_aload_n (pc := 854) (i := 2) (j := 2) rfl rfl rfl ?_
    refine z_aload_n (pc := 855) (i := 0) (j := 0) rfl rfl rfl ?_
    refine z_iload (pc := 856) (i := 4) (j := 4) rfl rfl ?_
    refine z_iconst (pc := 858) (v := 1) rfl (by decide) ?_
    refine z_iadd (pc := 859) rfl ?_
    refine z_tX (pc := 860) rfl rfl hX (lwb (j := 1) hX hi (by decide)) ?_
    refine z_aload_n (pc := 861) (i := 0) (j := 0) rfl rfl rfl ?_
    refine z_iload (pc := 862) (i := 4) (j := 4) rfl rfl ?_
    refine z_iconst (pc := 864) (v := 2) rfl (by decide) ?_
    refine z_iadd (pc := 865) rfl ?_
    refine z_tX (pc := 866) rfl rfl hX (lwb (j := 2) hX hi (by decide)) ?_
    refine z_aload_n (pc := 867) (i := 0) (j := 0) rfl rfl rfl ?_
    refine z_iload (pc := 868) (i := 4) (j := 4) rfl rfl ?_
    refine z_iconst (pc := 870) (v := 3) rfl (by decide) ?_
    refine z_iadd (pc := 871) rfl ?_
    refine z_tX (pc := 872) rfl rfl hX (lwb (j := 3) hX hi (by decide)) ?_
    refine z_if_eq (pc := 873) (tgt := 880) rfl (by decide) (fun h873 => ?_) (fun h873 => ?_)
    · exact absurd h873 h843
    · refine z_iconst (pc := 876) (v := 1) rfl (by decide) ?_
      refine z_goto (pc := 877) (tgt := 881) rfl (by decide) ?_
      refine z_cV (pc := 881) (mc1 := 0) (ms1 := 0) (mc2 := mc) (ms2 := ms) (as := [.int (lwv X i 1), .int (lwv X i 2), .int 1]) (rest := [.int v]) (o := 44) rfl rfl l3 ok_Mod_sight rfl rfl cl_Lw_95 (by decide) (Nat.le_of_ble_eq_true rfl) (Nat.le_of_ble_eq_true rfl) (by omega) (by omega) hz (fun r2 w2 hq => ?_) rfl rfl
      obtain ⟨rfl, ew, s2, h2⟩ := hq
      refine ⟨⟨by rw [ew]; exact Nat.le_refl _, Or.inl (by rw [ew])⟩, ?_⟩
      refine z_icmp_eq (pc := 884) (tgt := 1115) rfl (by decide) (fun h884 => ?_) (fun h884 => ?_)
      · exact kk w2 s2 h2
      · exact absurd rfl h884

set_option maxRecDepth 100000 in
set_option maxHeartbeats 4000000 in
theorem lc_clear {X : Nat × (Nat → Int32)} {w : zW} {s N i mc ms : Nat} (hX : X.1 < 5000) (hi : 7 * i + 7 ≤ X.1) (h : Iv w s N) (hN : N ≤ 511000) (kk : ∀ w2 s2, Iv w2 s2 (N + 1000) → zS mc ms 140 (m_law X) lP 1115 (lLS i) [] w2) : zS (mc + 22) (ms + 3463) 140 (m_law X) lP 889 (lLS i) [] w := by
  refine z_aload_n (pc := 889) (i := 1) (j := 1) rfl rfl rfl ?_
  refine z_cV (pc := 890) (mc1 := 22) (ms1 := 3463) (mc2 := mc) (ms2 := ms) (as := []) (rest := []) (o := 0) rfl rfl h.1.1.1 ok_SW_clear rfl rfl cl_Lw_96 (by decide) (Nat.le_of_ble_eq_true rfl) (Nat.le_of_ble_eq_true rfl) (by omega) (by omega) (op_clear h hN ) (fun r1 w1 hp => ?_) rfl rfl
  obtain ⟨v, rfl, ⟨l1, l2, l3⟩, hz⟩ := hp
  refine ⟨⟨l1, lw_vl h l2⟩, ?_⟩
  refine z_aload_n (pc := 893) (i := 2) (j := 2) rfl rfl rfl ?_
  refine z_cV (pc := 894) (mc1 := 0) (ms1 := 0) (mc2 := mc) (ms2 := ms) (as := []) (rest := [.int v]) (o := 44) rfl rfl l3 ok_Mod_clear rfl rfl cl_Lw_100 (by decide) (Nat.le_of_ble_eq_true rfl) (Nat.le_of_ble_eq_true rfl) (by omega) (by omega) hz (fun r2 w2 hq => ?_) rfl rfl
  obtain ⟨rfl, ew, s2, h2⟩ := hq
  refine ⟨⟨by rw [ew]; exact Nat.le_refl _, Or.inl (by rw [ew])⟩, ?_⟩
  refine z_icmp_eq (pc := 897) (tgt := 1115) rfl (by decide) (fun h897 => ?_) (fun h897 => ?_)
  · exact kk w2 s2 h2
  · exact absurd rfl h897

set_option maxRecDepth 100000 in
set_option maxHeartbeats 4000000 in
theorem lc_fits {X : Nat × (Nat → Int32)} {w : zW} {s N i mc ms : Nat} (hX : X.1 < 5000) (hi : 7 * i + 7 ≤ X.1) (h : Iv w s N) (hN : N ≤ 511000) (kk : ∀ w2 s2, Iv w2 s2 (N + 1000) → zS mc ms 140 (m_law X) lP 1115 (lLS i) [] w2) : zS (mc + 22) (ms + 3463) 140 (m_law X) lP 902 (lLS i) [] w := by
  refine z_aload_n (pc := 902) (i := 1) (j := 1) rfl rfl rfl ?_
  refine z_cV (pc := 903) (mc1 := 22) (ms1 := 3463) (mc2 := mc) (ms2 := ms) (as := []) (rest := []) (o := 0) rfl rfl h.1.1.1 ok_SW_fits rfl rfl cl_Lw_101 (by decide) (Nat.le_of_ble_eq_true rfl) (Nat.le_of_ble_eq_true rfl) (by omega) (by omega) (op_fits h hN ) (fun r1 w1 hp => ?_) rfl rfl
  obtain ⟨v, rfl, ⟨l1, l2, l3⟩, hz⟩ := hp
  refine ⟨⟨l1, lw_vl h l2⟩, ?_⟩
  refine z_aload_n (pc := 906) (i := 2) (j := 2) rfl rfl rfl ?_
  refine z_cV (pc := 907) (mc1 := 0) (ms1 := 0) (mc2 := mc) (ms2 := ms) (as := []) (rest := [.int v]) (o := 44) rfl rfl l3 ok_Mod_fits rfl rfl cl_Lw_104 (by decide) (Nat.le_of_ble_eq_true rfl) (Nat.le_of_ble_eq_true rfl) (by omega) (by omega) hz (fun r2 w2 hq => ?_) rfl rfl
  obtain ⟨rfl, ew, s2, h2⟩ := hq
  refine ⟨⟨by rw [ew]; exact Nat.le_refl _, Or.inl (by rw [ew])⟩, ?_⟩
  refine z_icmp_eq (pc := 910) (tgt := 1115) rfl (by decide) (fun h910 => ?_) (fun h910 => ?_)
  · exact kk w2 s2 h2
  · exact absurd rfl h910

set_option maxRecDepth 100000 in
set_option maxHeartbeats 4000000 in
theorem lc_share {X : Nat × (Nat → Int32)} {w : zW} {s N i mc ms : Nat} (hX : X.1 < 5000) (hi : 7 * i + 7 ≤ X.1) (h : Iv w s N) (hN : N ≤ 511000) (kk : ∀ w2 s2, Iv w2 s2 (N + 1000) → zS mc ms 140 (m_law X) lP 1115 (lLS i) [] w2) : zS (mc + 22) (ms + 3463) 140 (m_law X) lP 915 (lLS i) [] w := by
  refine z_aload_n (pc := 915) (i := 1) (j := 1) rfl rfl rfl ?_
  refine z_aload_n (pc := 916) (i := 0) (j := 0) rfl rfl rfl ?_
  refine z_iload (pc := 917) (i := 4) (j := 4) rfl rfl ?_
  refine z_iconst (pc := 919) (v := 1) rfl (by decide) ?_
  refine z_iadd (pc := 920) rfl ?_
  refine z_tX (pc := 921) rfl rfl hX (lwb (j := 1) hX hi (by decide)) ?_
  refine z_aload_n (pc := 922) (i := 0) (j := 0) rfl rfl rfl ?_
  refine z_iload (pc := 923) (i := 4) (j := 4) rfl rfl ?_
  refine z_iconst (pc := 925) (v := 2) rfl (by decide) ?_
  refine z_iadd (pc := 926) rfl ?_
  refine z_tX (pc := 927) rfl rfl hX (lwb (j := 2) hX hi (by decide)) ?_
  refine z_aload_n (pc := 928) (i := 0) (j := 0) rfl rfl rfl ?_
  refine z_iload (pc := 929) (i := 4) (j := 4) rfl rfl ?_
  refine z_iconst (pc := 931) (v := 3) rfl (by decide) ?_
  refine z_iadd (pc := 932) rfl ?_
  refine z_tX (pc := 933) rfl rfl hX (lwb (j := 3) hX hi (by decide)) ?_
  refine z_aload_n (pc := 934) (i := 0) (j := 0) rfl rfl rfl ?_
  refine z_iload (pc := 935) (i := 4) (j := 4) rfl rfl ?_
  refine z_iconst (pc := 937) (v := 4) rfl (by decide) ?_
  refine z_iadd (pc := 938) rfl ?_
  refine z_tX (pc := 939) rfl rfl hX (lwb (j := 4) hX hi (by decide)) ?_
  refine z_cV (pc := 940) (mc1 := 22) (ms1 := 3463) (mc2 := mc) (ms2 := ms) (as := [.int (lwv X i 1), .int (lwv X i 2), .int (lwv X i 3), .int (lwv X i 4)]) (rest := []) (o := 0) rfl rfl h.1.1.1 ok_SW_share rfl rfl cl_Lw_105 (by decide) (Nat.le_of_ble_eq_true rfl) (Nat.le_of_ble_eq_true rfl) (by omega) (by omega) (op_share h hN (lwv X i 1) (lwv X i 2) (lwv X i 3) (lwv X i 4)) (fun r1 w1 hp => ?_) rfl rfl
  obtain ⟨v, rfl, ⟨l1, l2, l3⟩, hz⟩ := hp
  refine ⟨⟨l1, lw_vl h l2⟩, ?_⟩
  refine z_aload_n (pc := 943) (i := 2) (j := 2) rfl rfl rfl ?_
  refine z_aload_n (pc := 944) (i := 0) (j := 0) rfl rfl rfl ?_
  refine z_iload (pc := 945) (i := 4) (j := 4) rfl rfl ?_
  refine z_iconst (pc := 947) (v := 1) rfl (by decide) ?_
  refine z_iadd (pc := 948) rfl ?_
  refine z_tX (pc := 949) rfl rfl hX (lwb (j := 1) hX hi (by decide)) ?_
  refine z_aload_n (pc := 950) (i := 0) (j := 0) rfl rfl rfl ?_
  refine z_iload (pc := 951) (i := 4) (j := 4) rfl rfl ?_
  refine z_iconst (pc := 953) (v := 2) rfl (by decide) ?_
  refine z_iadd (pc := 954) rfl ?_
  refine z_tX (pc := 955) rfl rfl hX (lwb (j := 2) hX hi (by decide)) ?_
  refine z_aload_n (pc := 956) (i := 0) (j := 0) rfl rfl rfl ?_
  refine z_iload (pc := 957) (i := 4) (j := 4) rfl rfl ?_
  refine z_iconst (pc := 959) (v := 3) rfl (by decide) ?_
  refine z_iadd (pc := 960) rfl ?_
  refine z_tX (pc := 961) rfl rfl hX (lwb (j := 3) hX hi (by decide)) ?_
  refine z_aload_n (pc := 962) (i := 0) (j := 0) rfl rfl rfl ?_
  refine z_iload (pc := 963) (i := 4) (j := 4) rfl rfl ?_
  refine z_iconst (pc := 965) (v := 4) rfl (by decide) ?_
  refine z_iadd (pc := 966) rfl ?_
  refine z_tX (pc := 967) rfl rfl hX (lwb (j := 4) hX hi (by decide)) ?_
  refine z_cV (pc := 968) (mc1 := 0) (ms1 := 0) (mc2 := mc) (ms2 := ms) (as := [.int (lwv X i 1), .int (lwv X i 2), .int (lwv X i 3), .int (lwv X i 4)]) (rest := [.int v]) (o := 44) rfl rfl l3 ok_Mod_share rfl rfl cl_Lw_109 (by decide) (Nat.le_of_ble_eq_true rfl) (Nat.le_of_ble_eq_true rfl) (by omega) (by omega) hz (fun r2 w2 hq => ?_) rfl rfl
  obtain ⟨rfl, ew, s2, h2⟩ := hq
  refine ⟨⟨by rw [ew]; exact Nat.le_refl _, Or.inl (by rw [ew])⟩, ?_⟩
  refine z_icmp_eq (pc := 971) (tgt := 1115) rfl (by decide) (fun h971 => ?_) (fun h971 => ?_)
  · exact kk w2 s2 h2
  · exact absurd rfl h971

set_option maxRecDepth 100000 in
set_option maxHeartbeats 4000000 in
theorem lc_days {X : Nat × (Nat → Int32)} {w : zW} {s N i mc ms : Nat} (hX : X.1 < 5000) (hi : 7 * i + 7 ≤ X.1) (h : Iv w s N) (hN : N ≤ 511000) (kk : ∀ w2 s2, Iv w2 s2 (N + 1000) → zS mc ms 140 (m_law X) lP 1115 (lLS i) [] w2) : zS (mc + 22) (ms + 3463) 140 (m_law X) lP 976 (lLS i) [] w := by
  refine z_aload_n (pc := 976) (i := 1) (j := 1) rfl rfl rfl ?_
  refine z_aload_n (pc := 977) (i := 0) (j := 0) rfl rfl rfl ?_
  refine z_iload (pc := 978) (i := 4) (j := 4) rfl rfl ?_
  refine z_iconst (pc := 980) (v := 1) rfl (by decide) ?_
  refine z_iadd (pc := 981) rfl ?_
  refine z_tX (pc := 982) rfl rfl hX (lwb (j := 1) hX hi (by decide)) ?_
  refine z_aload_n (pc := 983) (i := 0) (j := 0) rfl rfl rfl ?_
  refine z_iload (pc := 984) (i := 4) (j := 4) rfl rfl ?_
  refine z_iconst (pc := 986) (v := 2) rfl (by decide) ?_
  refine z_iadd (pc := 987) rfl ?_
  refine z_tX (pc := 988) rfl rfl hX (lwb (j := 2) hX hi (by decide)) ?_
  refine z_aload_n (pc := 989) (i := 0) (j := 0) rfl rfl rfl ?_
  refine z_iload (pc := 990) (i := 4) (j := 4) rfl rfl ?_
  refine z_iconst (pc := 992) (v := 3) rfl (by decide) ?_
  refine z_iadd (pc := 993) rfl ?_
  refine z_tX (pc := 994) rfl rfl hX (lwb (j := 3) hX hi (by decide)) ?_
  refine z_aload_n (pc := 995) (i := 0) (j := 0) rfl rfl rfl ?_
  refine z_iload (pc := 996) (i := 4) (j := 4) rfl rfl ?_
  refine z_iconst (pc := 998) (v := 4) rfl (by decide) ?_
  refine z_iadd (pc := 999) rfl ?_
  refine z_tX (pc := 1000) rfl rfl hX (lwb (j := 4) hX hi (by decide)) ?_
  refine z_cV (pc := 1001) (mc1 := 22) (ms1 := 3463) (mc2 := mc) (ms2 := ms) (as := [.int (lwv X i 1), .int (lwv X i 2), .int (lwv X i 3), .int (lwv X i 4)]) (rest := []) (o := 0) rfl rfl h.1.1.1 ok_SW_days rfl rfl cl_Lw_110 (by decide) (Nat.le_of_ble_eq_true rfl) (Nat.le_of_ble_eq_true rfl) (by omega) (by omega) (op_days h hN (lwv X i 1) (lwv X i 2) (lwv X i 3) (lwv X i 4)) (fun r1 w1 hp => ?_) rfl rfl
  obtain ⟨v, rfl, ⟨l1, l2, l3⟩, hz⟩ := hp
  refine ⟨⟨l1, lw_vl h l2⟩, ?_⟩
  refine z_aload_n (pc := 1004) (i := 2) (j := 2) rfl rfl rfl ?_
  refine z_aload_n (pc := 1005) (i := 0) (j := 0) rfl rfl rfl ?_
  refine z_iload (pc := 1006) (i := 4) (j := 4) rfl rfl ?_
  refine z_iconst (pc := 1008) (v := 1) rfl (by decide) ?_
  refine z_iadd (pc := 1009) rfl ?_
  refine z_tX (pc := 1010) rfl rfl hX (lwb (j := 1) hX hi (by decide)) ?_
  refine z_aload_n (pc := 1011) (i := 0) (j := 0) rfl rfl rfl ?_
  refine z_iload (pc := 1012) (i := 4) (j := 4) rfl rfl ?_
  refine z_iconst (pc := 1014) (v := 2) rfl (by decide) ?_
  refine z_iadd (pc := 1015) rfl ?_
  refine z_tX (pc := 1016) rfl rfl hX (lwb (j := 2) hX hi (by decide)) ?_
  refine z_aload_n (pc := 1017) (i := 0) (j := 0) rfl rfl rfl ?_
  refine z_iload (pc := 1018) (i := 4) (j := 4) rfl rfl ?_
  refine z_iconst (pc := 1020) (v := 3) rfl (by decide) ?_
  refine z_iadd (pc := 1021) rfl ?_
  refine z_tX (pc := 1022) rfl rfl hX (lwb (j := 3) hX hi (by decide)) ?_
  refine z_aload_n (pc := 1023) (i := 0) (j := 0) rfl rfl rfl ?_
  refine z_iload (pc := 1024) (i := 4) (j := 4) rfl rfl ?_
  refine z_iconst (pc := 1026) (v := 4) rfl (by decide) ?_
  refine z_iadd (pc := 1027) rfl ?_
  refine z_tX (pc := 1028) rfl rfl hX (lwb (j := 4) hX hi (by decide)) ?_
  refine z_cV (pc := 1029) (mc1 := 0) (ms1 := 0) (mc2 := mc) (ms2 := ms) (as := [.int (lwv X i 1), .int (lwv X i 2), .int (lwv X i 3), .int (lwv X i 4)]) (rest := [.int v]) (o := 44) rfl rfl l3 ok_Mod_days rfl rfl cl_Lw_113 (by decide) (Nat.le_of_ble_eq_true rfl) (Nat.le_of_ble_eq_true rfl) (by omega) (by omega) hz (fun r2 w2 hq => ?_) rfl rfl
  obtain ⟨rfl, ew, s2, h2⟩ := hq
  refine ⟨⟨by rw [ew]; exact Nat.le_refl _, Or.inl (by rw [ew])⟩, ?_⟩
  refine z_icmp_eq (pc := 1032) (tgt := 1115) rfl (by decide) (fun h1032 => ?_) (fun h1032 => ?_)
  · exact kk w2 s2 h2
  · exact absurd rfl h1032

set_option maxRecDepth 100000 in
set_option maxHeartbeats 4000000 in
theorem lc_mark {X : Nat × (Nat → Int32)} {w : zW} {s N i mc ms : Nat} (hX : X.1 < 5000) (hi : 7 * i + 7 ≤ X.1) (h : Iv w s N) (hN : N ≤ 511000) (kk : ∀ w2 s2, Iv w2 s2 (N + 1000) → zS mc ms 140 (m_law X) lP 1115 (lLS i) [] w2) : zS (mc + 22) (ms + 3463) 140 (m_law X) lP 1037 (lLS i) [] w := by
  refine z_aload_n (pc := 1037) (i := 1) (j := 1) rfl rfl rfl ?_
  refine z_aload_n (pc := 1038) (i := 0) (j := 0) rfl rfl rfl ?_
  refine z_iload (pc := 1039) (i := 4) (j := 4) rfl rfl ?_
  refine z_iconst (pc := 1041) (v := 1) rfl (by decide) ?_
  refine z_iadd (pc := 1042) rfl ?_
  refine z_tX (pc := 1043) rfl rfl hX (lwb (j := 1) hX hi (by decide)) ?_
  refine z_aload_n (pc := 1044) (i := 0) (j := 0) rfl rfl rfl ?_
  refine z_iload (pc := 1045) (i := 4) (j := 4) rfl rfl ?_
  refine z_iconst (pc := 1047) (v := 2) rfl (by decide) ?_
  refine z_iadd (pc := 1048) rfl ?_
  refine z_tX (pc := 1049) rfl rfl hX (lwb (j := 2) hX hi (by decide)) ?_
  refine z_if_eq (pc := 1050) (tgt := 1057) rfl (by decide) (fun h1050 => ?_) (fun h1050 => ?_)
  · refine z_iconst (pc := 1057) (v := 0) rfl (by decide) ?_
    refine z_cV (pc := 1058) (mc1 := 22) (ms1 := 3463) (mc2 := mc) (ms2 := ms) (as := [.int (lwv X i 1), .int 0]) (rest := []) (o := 0) rfl rfl h.1.1.1 ok_SW_mark rfl rfl cl_Lw_114 (by decide) (Nat.le_of_ble_eq_true rfl) (Nat.le_of_ble_eq_true rfl) (by omega) (by omega) (op_mark h hN (lwv X i 1) 0) (fun r1 w1 hp => ?_) rfl rfl
    obtain ⟨v, rfl, ⟨l1, l2, l3⟩, hz⟩ := hp
    refine ⟨⟨l1, lw_vl h l2⟩, ?_⟩
    refine z_aload_n (pc := 1061) (i := 2) (j := 2) rfl rfl rfl ?_
    refine z_aload_n (pc := 1062) (i := 0) (j := 0) rfl rfl rfl ?_
    refine z_iload (pc := 1063) (i := 4) (j := 4) rfl rfl ?_
    refine z_iconst (pc := 1065) (v := 1) rfl (by decide) ?_
    refine z_iadd (pc := 1066) rfl ?_
    refine z_tX (pc := 1067) rfl rfl hX (lwb (j := 1) hX hi (by decide)) ?_
    refine z_aload_n (pc := 1068) (i := 0) (j := 0) rfl rfl rfl ?_
    refine z_iload (pc := 1069) (i := 4) (j := 4) rfl rfl ?_
    refine z_iconst (pc := 1071) (v := 2) rfl (by decide) ?_
    refine z_iadd (pc := 1072) rfl ?_
    refine z_tX (pc := 1073) rfl rfl hX (lwb (j := 2) hX hi (by decide)) ?_
    refine z_if_eq (pc := 1074) (tgt := 1081) rfl (by decide) (fun h1074 => ?_) (fun h1074 => ?_)
    · refine z_iconst (pc := 1081) (v := 0) rfl (by decide) ?_
      refine z_cV (pc := 1082) (mc1 := 0) (ms1 := 0) (mc2 := mc) (ms2 := ms) (as := [.int (lwv X i 1), .int 0]) (rest := [.int v]) (o := 44) rfl rfl l3 ok_Mod_mark rfl rfl cl_Lw_117 (by decide) (Nat.le_of_ble_eq_true rfl) (Nat.le_of_ble_eq_true rfl) (by omega) (by omega) hz (fun r2 w2 hq => ?_) rfl rfl
      obtain ⟨rfl, ew, s2, h2⟩ := hq
      refine ⟨⟨by rw [ew]; exact Nat.le_refl _, Or.inl (by rw [ew])⟩, ?_⟩
      refine z_icmp_eq (pc := 1085) (tgt := 1115) rfl (by decide) (fun h1085 => ?_) (fun h1085 => ?_)
      · exact kk w2 s2 h2
      · exact absurd rfl h1085
    · exact absurd h1050 h1074
  · refine z_iconst (pc := 1053) (v := 1) rfl (by decide) ?_
    refine z_goto (pc := 1054) (tgt := 1058) rfl (by decide) ?_
    refine z_cV (pc := 1058) (mc1 := 22) (ms1 := 3463) (mc2 := mc) (ms2 := ms) (as := [.int (lwv X i 1), .int 1]) (rest := []) (o := 0) rfl rfl h.1.1.1 ok_SW_mark rfl rfl cl_Lw_114 (by decide) (Nat.le_of_ble_eq_true rfl) (Nat.le_of_ble_eq_true rfl) (by omega) (by omega) (op_mark h hN (lwv X i 1) 1) (fun r1 w1 hp => ?_) rfl rfl
    obtain ⟨v, rfl, ⟨l1, l2, l3⟩, hz⟩ := hp
    refine ⟨⟨l1, lw_vl h l2⟩, ?_⟩
    refine z_aload_n (pc := 1061) (i := 2) (j := 2) rfl rfl rfl ?_
    refine z_aload_n (pc := 1062) (i := 0) (j := 0) rfl rfl rfl ?_
    refine z_iload (pc := 1063) (i := 4) (j := 4) rfl rfl ?_
    refine z_iconst (pc := 1065) (v := 1) rfl (by decide) ?_
    refine z_iadd (pc := 1066) rfl ?_
    refine z_tX (pc := 1067) rfl rfl hX (lwb (j := 1) hX hi (by decide)) ?_
    refine z_aload_n (pc := 1068) (i := 0) (j := 0) rfl rfl rfl ?_
    refine z_iload (pc := 1069) (i := 4) (j := 4) rfl rfl ?_
    refine z_iconst (pc := 1071) (v := 2) rfl (by decide) ?_
    refine z_iadd (pc := 1072) rfl ?_
    refine z_tX (pc := 1073) rfl rfl hX (lwb (j := 2) hX hi (by decide)) ?_
    refine z_if_eq (pc := 1074) (tgt := 1081) rfl (by decide) (fun h1074 => ?_) (fun h1074 => ?_)
    · exact absurd h1074 h1050
    · refine z_iconst (pc := 1077) (v := 1) rfl (by decide) ?_
      refine z_goto (pc := 1078) (tgt := 1082) rfl (by decide) ?_
      refine z_cV (pc := 1082) (mc1 := 0) (ms1 := 0) (mc2 := mc) (ms2 := ms) (as := [.int (lwv X i 1), .int 1]) (rest := [.int v]) (o := 44) rfl rfl l3 ok_Mod_mark rfl rfl cl_Lw_117 (by decide) (Nat.le_of_ble_eq_true rfl) (Nat.le_of_ble_eq_true rfl) (by omega) (by omega) hz (fun r2 w2 hq => ?_) rfl rfl
      obtain ⟨rfl, ew, s2, h2⟩ := hq
      refine ⟨⟨by rw [ew]; exact Nat.le_refl _, Or.inl (by rw [ew])⟩, ?_⟩
      refine z_icmp_eq (pc := 1085) (tgt := 1115) rfl (by decide) (fun h1085 => ?_) (fun h1085 => ?_)
      · exact kk w2 s2 h2
      · exact absurd rfl h1085

set_option maxRecDepth 100000 in
set_option maxHeartbeats 4000000 in
theorem lc_count {X : Nat × (Nat → Int32)} {w : zW} {s N i mc ms : Nat} (hX : X.1 < 5000) (hi : 7 * i + 7 ≤ X.1) (h : Iv w s N) (hN : N ≤ 511000) (kk : ∀ w2 s2, Iv w2 s2 (N + 1000) → zS mc ms 140 (m_law X) lP 1115 (lLS i) [] w2) : zS (mc + 22) (ms + 3463) 140 (m_law X) lP 1090 (lLS i) [] w := by
  refine z_aload_n (pc := 1090) (i := 1) (j := 1) rfl rfl rfl ?_
  refine z_aload_n (pc := 1091) (i := 0) (j := 0) rfl rfl rfl ?_
  refine z_iload (pc := 1092) (i := 4) (j := 4) rfl rfl ?_
  refine z_iconst (pc := 1094) (v := 1) rfl (by decide) ?_
  refine z_iadd (pc := 1095) rfl ?_
  refine z_tX (pc := 1096) rfl rfl hX (lwb (j := 1) hX hi (by decide)) ?_
  refine z_cV (pc := 1097) (mc1 := 22) (ms1 := 3463) (mc2 := mc) (ms2 := ms) (as := [.int (lwv X i 1)]) (rest := []) (o := 0) rfl rfl h.1.1.1 ok_SW_count rfl rfl cl_Lw_118 (by decide) (Nat.le_of_ble_eq_true rfl) (Nat.le_of_ble_eq_true rfl) (by omega) (by omega) (op_count h hN (lwv X i 1)) (fun r1 w1 hp => ?_) rfl rfl
  obtain ⟨v, rfl, ⟨l1, l2, l3⟩, hz⟩ := hp
  refine ⟨⟨l1, lw_vl h l2⟩, ?_⟩
  refine z_aload_n (pc := 1100) (i := 2) (j := 2) rfl rfl rfl ?_
  refine z_aload_n (pc := 1101) (i := 0) (j := 0) rfl rfl rfl ?_
  refine z_iload (pc := 1102) (i := 4) (j := 4) rfl rfl ?_
  refine z_iconst (pc := 1104) (v := 1) rfl (by decide) ?_
  refine z_iadd (pc := 1105) rfl ?_
  refine z_tX (pc := 1106) rfl rfl hX (lwb (j := 1) hX hi (by decide)) ?_
  refine z_cV (pc := 1107) (mc1 := 0) (ms1 := 0) (mc2 := mc) (ms2 := ms) (as := [.int (lwv X i 1)]) (rest := [.int v]) (o := 44) rfl rfl l3 ok_Mod_count rfl rfl cl_Lw_121 (by decide) (Nat.le_of_ble_eq_true rfl) (Nat.le_of_ble_eq_true rfl) (by omega) (by omega) hz (fun r2 w2 hq => ?_) rfl rfl
  obtain ⟨rfl, ew, s2, h2⟩ := hq
  refine ⟨⟨by rw [ew]; exact Nat.le_refl _, Or.inl (by rw [ew])⟩, ?_⟩
  refine z_icmp_eq (pc := 1110) (tgt := 1115) rfl (by decide) (fun h1110 => ?_) (fun h1110 => ?_)
  · exact kk w2 s2 h2
  · exact absurd rfl h1110
