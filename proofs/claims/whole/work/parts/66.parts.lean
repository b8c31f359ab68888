/-! THE READER: a test, a part, and all of a law -/
set_option maxRecDepth 100000 in
set_option maxHeartbeats 4000000 in
theorem c_Reader_readTest {T : Nat → Int32} {n s L x d : Nat} (hL : rLo s L) {pt : rQt → rQt} (hP : RC T n s L m_Reader_readSum x d (cSum T n pt)) : RC T n s L m_Reader_readTest x (d + 5) (cTest T n pt) := by
  intro w q hk hl hQ
  have h3 := rLo_3 hk hL
  refine z_aload_n (pc := 0) (i := 0) (j := 0) rfl rfl rfl ?_
  refine z_iload_n (pc := 1) (i := 1) (j := 1) rfl rfl rfl ?_
  refine z_cV (pc := 2) (mc1 := 0) (ms1 := 0) (mc2 := 0) (ms2 := 0) (as := [.int (nI x)]) (rest := []) (o := 3) rfl rfl hk.1 ok_Reader_readSum rfl rfl cl_Reader_203 (by omega) (Nat.le_of_ble_eq_true rfl) (Nat.le_of_ble_eq_true rfl) (Nat.le_refl _) (Nat.le_refl _) (hP w _ hk hl hQ) (fun r1 w1 hp => ?_) rfl rfl
  obtain ⟨rfl, hG1, hQ1⟩ := hp
  refine ⟨⟨by rw [hG1.1]; exact Nat.le_refl _, Or.inl (by rw [hG1.1])⟩, ?_⟩
  have hk1 := rdK_G hk h3 hG1
  have hl1 := rG_l hG1 hl
  refine z_aload_n (pc := 5) (i := 0) (j := 0) rfl rfl rfl ?_
  refine z_getI (pc := 6) rfl fl_Reader_61 hk1.1 rfl ?_
  refine z_eqi (y := tkc T n (cSum T n pt q).1) (rS_c hQ1.1) ?_
  refine z_bipush (pc := 9) (v := 60) rfl (by decide) ?_
  refine z_icmp_eq (pc := 11) (tgt := 23) rfl (by decide) (fun h11 => ?_) (fun h11 => ?_)
  · refine z_aload_n (pc := 23) (i := 0) (j := 0) rfl rfl rfl ?_
    refine z_getI (pc := 24) rfl fl_Reader_61 hk1.1 rfl ?_
    refine z_eqi (y := tkc T n (cSum T n pt q).1) (rS_c hQ1.1) ?_
    refine z_bipush (pc := 27) (v := 60) rfl (by decide) ?_
    refine z_icmp_ne (pc := 29) (tgt := 37) rfl (by decide) (fun h29 => ?_) (fun h29 => ?_)
    · refine z_bipush (pc := 37) (v := (-9)) rfl (by decide) ?_
      refine z_istore_n (pc := 39) (i := 2) (ls' := [(0, .ref 3), (1, .int (nI x)), (2, .int (-9))]) rfl rfl (by decide) rfl ?_
      refine z_aload_n (pc := 40) (i := 0) (j := 0) rfl rfl rfl ?_
      refine z_cV (pc := 41) (mc1 := 0) (ms1 := 0) (mc2 := 0) (ms2 := 0) (as := []) (rest := []) (o := 3) rfl rfl hk1.1 ok_Reader_next rfl rfl cl_Reader_58 (by omega) (Nat.le_of_ble_eq_true rfl) (Nat.le_of_ble_eq_true rfl) (Nat.le_refl _) (Nat.le_refl _) (c_Reader_next hk1 _ hQ1.1 4 (by decide)) (fun r1 w2 hp => ?_) rfl rfl
      obtain ⟨rfl, hF2, hS2⟩ := hp
      refine ⟨⟨by rw [hF2.1]; exact Nat.le_refl _, Or.inl (by rw [hF2.1])⟩, ?_⟩
      have hQ2 := rQ_F hQ1 h3 hF2 hS2
      have hG2 : rG L w1 w2 := rG_F hF2
      have hk2 := rdK_F hk1 hF2
      have hl2 := rG_l hG2 hl1
      refine z_aload_n (pc := 44) (i := 0) (j := 0) rfl rfl rfl ?_
      refine z_iload_n (pc := 45) (i := 1) (j := 1) rfl rfl rfl ?_
      refine z_cV (pc := 46) (mc1 := 0) (ms1 := 0) (mc2 := 0) (ms2 := 0) (as := [.int (nI x)]) (rest := []) (o := 3) rfl rfl hk2.1 ok_Reader_readSum rfl rfl cl_Reader_203 (by omega) (Nat.le_of_ble_eq_true rfl) (Nat.le_of_ble_eq_true rfl) (Nat.le_refl _) (Nat.le_refl _) (hP w2 _ hk2 hl2 hQ2) (fun r1 w3 hp => ?_) rfl rfl
      obtain ⟨rfl, hG3, hQ3⟩ := hp
      refine ⟨⟨by rw [hG3.1]; exact Nat.le_refl _, Or.inl (by rw [hG3.1])⟩, ?_⟩
      have hk3 := rdK_G hk2 h3 hG3
      have hl3 := rG_l hG3 hl2
      refine z_aload_n (pc := 49) (i := 0) (j := 0) rfl rfl rfl ?_
      refine z_getR (pc := 50) (x := L) rfl fl_Reader_29 hk3.1 rfl hl3 ?_
      refine z_iload_n (pc := 53) (i := 2) (j := 2) rfl rfl rfl ?_
      refine z_cV (pc := 54) (mc1 := 0) (ms1 := 0) (mc2 := 0) (ms2 := 0) (as := [.int (-9)]) (rest := []) (o := L) rfl rfl (rLo_k hk3 hL).1 ok_Law_addStep rfl rfl cl_Reader_200 (by omega) (Nat.le_of_ble_eq_true rfl) (Nat.le_of_ble_eq_true rfl) (Nat.le_refl _) (Nat.le_refl _) (c_addQ hk3 hL hQ3 (-9) 1) (fun r1 w4 hp => ?_) rfl rfl
      obtain ⟨rfl, hG4, hQ4⟩ := hp
      refine ⟨⟨by rw [hG4.1]; exact Nat.le_refl _, Or.inl (by rw [hG4.1])⟩, ?_⟩
      have hk4 := rdK_G hk3 h3 hG4
      have hl4 := rG_l hG4 hl3
      exact z_vret (pc := 57) rfl rfl ⟨rfl, rG_t hG1 (rG_t hG2 (rG_t hG3 hG4)), by unfold cTest; rw [if_pos (Or.inl h11), if_neg h29]; exact hQ4⟩
    · refine z_bipush (pc := 32) (v := (-8)) rfl (by decide) ?_
      refine z_goto (pc := 34) (tgt := 39) rfl (by decide) ?_
      refine z_istore_n (pc := 39) (i := 2) (ls' := [(0, .ref 3), (1, .int (nI x)), (2, .int (-8))]) rfl rfl (by decide) rfl ?_
      refine z_aload_n (pc := 40) (i := 0) (j := 0) rfl rfl rfl ?_
      refine z_cV (pc := 41) (mc1 := 0) (ms1 := 0) (mc2 := 0) (ms2 := 0) (as := []) (rest := []) (o := 3) rfl rfl hk1.1 ok_Reader_next rfl rfl cl_Reader_58 (by omega) (Nat.le_of_ble_eq_true rfl) (Nat.le_of_ble_eq_true rfl) (Nat.le_refl _) (Nat.le_refl _) (c_Reader_next hk1 _ hQ1.1 4 (by decide)) (fun r1 w2 hp => ?_) rfl rfl
      obtain ⟨rfl, hF2, hS2⟩ := hp
      refine ⟨⟨by rw [hF2.1]; exact Nat.le_refl _, Or.inl (by rw [hF2.1])⟩, ?_⟩
      have hQ2 := rQ_F hQ1 h3 hF2 hS2
      have hG2 : rG L w1 w2 := rG_F hF2
      have hk2 := rdK_F hk1 hF2
      have hl2 := rG_l hG2 hl1
      refine z_aload_n (pc := 44) (i := 0) (j := 0) rfl rfl rfl ?_
      refine z_iload_n (pc := 45) (i := 1) (j := 1) rfl rfl rfl ?_
      refine z_cV (pc := 46) (mc1 := 0) (ms1 := 0) (mc2 := 0) (ms2 := 0) (as := [.int (nI x)]) (rest := []) (o := 3) rfl rfl hk2.1 ok_Reader_readSum rfl rfl cl_Reader_203 (by omega) (Nat.le_of_ble_eq_true rfl) (Nat.le_of_ble_eq_true rfl) (Nat.le_refl _) (Nat.le_refl _) (hP w2 _ hk2 hl2 hQ2) (fun r1 w3 hp => ?_) rfl rfl
      obtain ⟨rfl, hG3, hQ3⟩ := hp
      refine ⟨⟨by rw [hG3.1]; exact Nat.le_refl _, Or.inl (by rw [hG3.1])⟩, ?_⟩
      have hk3 := rdK_G hk2 h3 hG3
      have hl3 := rG_l hG3 hl2
      refine z_aload_n (pc := 49) (i := 0) (j := 0) rfl rfl rfl ?_
      refine z_getR (pc := 50) (x := L) rfl fl_Reader_29 hk3.1 rfl hl3 ?_
      refine z_iload_n (pc := 53) (i := 2) (j := 2) rfl rfl rfl ?_
      refine z_cV (pc := 54) (mc1 := 0) (ms1 := 0) (mc2 := 0) (ms2 := 0) (as := [.int (-8)]) (rest := []) (o := L) rfl rfl (rLo_k hk3 hL).1 ok_Law_addStep rfl rfl cl_Reader_200 (by omega) (Nat.le_of_ble_eq_true rfl) (Nat.le_of_ble_eq_true rfl) (Nat.le_refl _) (Nat.le_refl _) (c_addQ hk3 hL hQ3 (-8) 1) (fun r1 w4 hp => ?_) rfl rfl
      obtain ⟨rfl, hG4, hQ4⟩ := hp
      refine ⟨⟨by rw [hG4.1]; exact Nat.le_refl _, Or.inl (by rw [hG4.1])⟩, ?_⟩
      have hk4 := rdK_G hk3 h3 hG4
      have hl4 := rG_l hG4 hl3
      exact z_vret (pc := 57) rfl rfl ⟨rfl, rG_t hG1 (rG_t hG2 (rG_t hG3 hG4)), by unfold cTest; rw [if_pos (Or.inl h11), if_pos h29]; exact hQ4⟩
  · refine z_aload_n (pc := 14) (i := 0) (j := 0) rfl rfl rfl ?_
    refine z_getI (pc := 15) rfl fl_Reader_61 hk1.1 rfl ?_
    refine z_eqi (y := tkc T n (cSum T n pt q).1) (rS_c hQ1.1) ?_
    refine z_bipush (pc := 18) (v := 61) rfl (by decide) ?_
    refine z_icmp_ne (pc := 20) (tgt := 57) rfl (by decide) (fun h20 => ?_) (fun h20 => ?_)
    · exact z_vret (pc := 57) rfl rfl ⟨rfl, hG1, by unfold cTest; rw [if_neg (fun e => e.elim h11 h20)]; exact hQ1⟩
    · refine z_aload_n (pc := 23) (i := 0) (j := 0) rfl rfl rfl ?_
      refine z_getI (pc := 24) rfl fl_Reader_61 hk1.1 rfl ?_
      refine z_eqi (y := tkc T n (cSum T n pt q).1) (rS_c hQ1.1) ?_
      refine z_bipush (pc := 27) (v := 60) rfl (by decide) ?_
      refine z_icmp_ne (pc := 29) (tgt := 37) rfl (by decide) (fun h29 => ?_) (fun h29 => ?_)
      · refine z_bipush (pc := 37) (v := (-9)) rfl (by decide) ?_
        refine z_istore_n (pc := 39) (i := 2) (ls' := [(0, .ref 3), (1, .int (nI x)), (2, .int (-9))]) rfl rfl (by decide) rfl ?_
        refine z_aload_n (pc := 40) (i := 0) (j := 0) rfl rfl rfl ?_
        refine z_cV (pc := 41) (mc1 := 0) (ms1 := 0) (mc2 := 0) (ms2 := 0) (as := []) (rest := []) (o := 3) rfl rfl hk1.1 ok_Reader_next rfl rfl cl_Reader_58 (by omega) (Nat.le_of_ble_eq_true rfl) (Nat.le_of_ble_eq_true rfl) (Nat.le_refl _) (Nat.le_refl _) (c_Reader_next hk1 _ hQ1.1 4 (by decide)) (fun r1 w2 hp => ?_) rfl rfl
        obtain ⟨rfl, hF2, hS2⟩ := hp
        refine ⟨⟨by rw [hF2.1]; exact Nat.le_refl _, Or.inl (by rw [hF2.1])⟩, ?_⟩
        have hQ2 := rQ_F hQ1 h3 hF2 hS2
        have hG2 : rG L w1 w2 := rG_F hF2
        have hk2 := rdK_F hk1 hF2
        have hl2 := rG_l hG2 hl1
        refine z_aload_n (pc := 44) (i := 0) (j := 0) rfl rfl rfl ?_
        refine z_iload_n (pc := 45) (i := 1) (j := 1) rfl rfl rfl ?_
        refine z_cV (pc := 46) (mc1 := 0) (ms1 := 0) (mc2 := 0) (ms2 := 0) (as := [.int (nI x)]) (rest := []) (o := 3) rfl rfl hk2.1 ok_Reader_readSum rfl rfl cl_Reader_203 (by omega) (Nat.le_of_ble_eq_true rfl) (Nat.le_of_ble_eq_true rfl) (Nat.le_refl _) (Nat.le_refl _) (hP w2 _ hk2 hl2 hQ2) (fun r1 w3 hp => ?_) rfl rfl
        obtain ⟨rfl, hG3, hQ3⟩ := hp
        refine ⟨⟨by rw [hG3.1]; exact Nat.le_refl _, Or.inl (by rw [hG3.1])⟩, ?_⟩
        have hk3 := rdK_G hk2 h3 hG3
        have hl3 := rG_l hG3 hl2
        refine z_aload_n (pc := 49) (i := 0) (j := 0) rfl rfl rfl ?_
        refine z_getR (pc := 50) (x := L) rfl fl_Reader_29 hk3.1 rfl hl3 ?_
        refine z_iload_n (pc := 53) (i := 2) (j := 2) rfl rfl rfl ?_
        refine z_cV (pc := 54) (mc1 := 0) (ms1 := 0) (mc2 := 0) (ms2 := 0) (as := [.int (-9)]) (rest := []) (o := L) rfl rfl (rLo_k hk3 hL).1 ok_Law_addStep rfl rfl cl_Reader_200 (by omega) (Nat.le_of_ble_eq_true rfl) (Nat.le_of_ble_eq_true rfl) (Nat.le_refl _) (Nat.le_refl _) (c_addQ hk3 hL hQ3 (-9) 1) (fun r1 w4 hp => ?_) rfl rfl
        obtain ⟨rfl, hG4, hQ4⟩ := hp
        refine ⟨⟨by rw [hG4.1]; exact Nat.le_refl _, Or.inl (by rw [hG4.1])⟩, ?_⟩
        have hk4 := rdK_G hk3 h3 hG4
        have hl4 := rG_l hG4 hl3
        exact z_vret (pc := 57) rfl rfl ⟨rfl, rG_t hG1 (rG_t hG2 (rG_t hG3 hG4)), by unfold cTest; rw [if_pos (Or.inr h20), if_neg h29]; exact hQ4⟩
      · refine z_bipush (pc := 32) (v := (-8)) rfl (by decide) ?_
        refine z_goto (pc := 34) (tgt := 39) rfl (by decide) ?_
        refine z_istore_n (pc := 39) (i := 2) (ls' := [(0, .ref 3), (1, .int (nI x)), (2, .int (-8))]) rfl rfl (by decide) rfl ?_
        refine z_aload_n (pc := 40) (i := 0) (j := 0) rfl rfl rfl ?_
        refine z_cV (pc := 41) (mc1 := 0) (ms1 := 0) (mc2 := 0) (ms2 := 0) (as := []) (rest := []) (o := 3) rfl rfl hk1.1 ok_Reader_next rfl rfl cl_Reader_58 (by omega) (Nat.le_of_ble_eq_true rfl) (Nat.le_of_ble_eq_true rfl) (Nat.le_refl _) (Nat.le_refl _) (c_Reader_next hk1 _ hQ1.1 4 (by decide)) (fun r1 w2 hp => ?_) rfl rfl
        obtain ⟨rfl, hF2, hS2⟩ := hp
        refine ⟨⟨by rw [hF2.1]; exact Nat.le_refl _, Or.inl (by rw [hF2.1])⟩, ?_⟩
        have hQ2 := rQ_F hQ1 h3 hF2 hS2
        have hG2 : rG L w1 w2 := rG_F hF2
        have hk2 := rdK_F hk1 hF2
        have hl2 := rG_l hG2 hl1
        refine z_aload_n (pc := 44) (i := 0) (j := 0) rfl rfl rfl ?_
        refine z_iload_n (pc := 45) (i := 1) (j := 1) rfl rfl rfl ?_
        refine z_cV (pc := 46) (mc1 := 0) (ms1 := 0) (mc2 := 0) (ms2 := 0) (as := [.int (nI x)]) (rest := []) (o := 3) rfl rfl hk2.1 ok_Reader_readSum rfl rfl cl_Reader_203 (by omega) (Nat.le_of_ble_eq_true rfl) (Nat.le_of_ble_eq_true rfl) (Nat.le_refl _) (Nat.le_refl _) (hP w2 _ hk2 hl2 hQ2) (fun r1 w3 hp => ?_) rfl rfl
        obtain ⟨rfl, hG3, hQ3⟩ := hp
        refine ⟨⟨by rw [hG3.1]; exact Nat.le_refl _, Or.inl (by rw [hG3.1])⟩, ?_⟩
        have hk3 := rdK_G hk2 h3 hG3
        have hl3 := rG_l hG3 hl2
        refine z_aload_n (pc := 49) (i := 0) (j := 0) rfl rfl rfl ?_
        refine z_getR (pc := 50) (x := L) rfl fl_Reader_29 hk3.1 rfl hl3 ?_
        refine z_iload_n (pc := 53) (i := 2) (j := 2) rfl rfl rfl ?_
        refine z_cV (pc := 54) (mc1 := 0) (ms1 := 0) (mc2 := 0) (ms2 := 0) (as := [.int (-8)]) (rest := []) (o := L) rfl rfl (rLo_k hk3 hL).1 ok_Law_addStep rfl rfl cl_Reader_200 (by omega) (Nat.le_of_ble_eq_true rfl) (Nat.le_of_ble_eq_true rfl) (Nat.le_refl _) (Nat.le_refl _) (c_addQ hk3 hL hQ3 (-8) 1) (fun r1 w4 hp => ?_) rfl rfl
        obtain ⟨rfl, hG4, hQ4⟩ := hp
        refine ⟨⟨by rw [hG4.1]; exact Nat.le_refl _, Or.inl (by rw [hG4.1])⟩, ?_⟩
        have hk4 := rdK_G hk3 h3 hG4
        have hl4 := rG_l hG4 hl3
        exact z_vret (pc := 57) rfl rfl ⟨rfl, rG_t hG1 (rG_t hG2 (rG_t hG3 hG4)), by unfold cTest; rw [if_pos (Or.inr h20), if_pos h29]; exact hQ4⟩
set_option maxRecDepth 100000 in
set_option maxHeartbeats 4000000 in
theorem c_Reader_readPart0 {T : Nat → Int32} {n s L : Nat} (hL : rLo s L) (d : Nat) (hd : 6 ≤ d) : RC T n s L m_Reader_readPart 5 d (cPart T n L s 0) := by
  intro w q hk hl hQ
  have h3 := rLo_3 hk hL
  refine z_aload_n (pc := 0) (i := 0) (j := 0) rfl rfl rfl ?_
  refine z_cV (pc := 1) (mc1 := 0) (ms1 := 0) (mc2 := 0) (ms2 := 0) (as := []) (rest := []) (o := 3) rfl rfl hk.1 ok_Reader_factTold rfl rfl cl_Reader_212 (by omega) (Nat.le_of_ble_eq_true rfl) (Nat.le_of_ble_eq_true rfl) (Nat.le_refl _) (Nat.le_refl _) (c_Reader_factTold hk hL hl q.1 hQ.1 0) (fun r1 w1 hp => ?_) rfl rfl
  obtain ⟨rfl, hw1⟩ := hp
  rw [hw1]
  refine ⟨⟨Nat.le_refl _, Or.inl rfl⟩, ?_⟩
  refine z_istore_n (pc := 4) (i := 2) (ls' := [(0, .ref 3), (1, .int 5), (2, .int (fctS T n L s q.1))]) rfl rfl (by decide) rfl ?_
  have j44 : (isOp T n L s q = true) → zS 0 0 d m_Reader_readPart (fun rv w1 => rv = none ∧ rG L w w1 ∧ rQ w1 T n L (cPart T n L s 0 q)) 44 [(0, .ref 3), (1, .int 5), (2, .int (fctS T n L s q.1))] [] w := by
    intro h_j44
    refine z_iload_n (pc := 44) (i := 1) (j := 1) rfl rfl rfl ?_
    refine z_iconst (pc := 45) (v := 5) rfl (by decide) ?_
    refine z_icmp_lt (pc := 46) (tgt := 57) rfl (by decide) (fun h46 => ?_) (fun h46 => ?_)
    · exact absurd h46 (by decide)
    · refine z_aload_n (pc := 49) (i := 0) (j := 0) rfl rfl rfl ?_
      refine z_iconst (pc := 50) (v := 5) rfl (by decide) ?_
      refine z_cV (pc := 51) (mc1 := 0) (ms1 := 0) (mc2 := 0) (ms2 := 0) (as := [.int 5]) (rest := []) (o := 3) rfl rfl hk.1 ok_Reader_wrong rfl rfl cl_Reader_122 (by omega) (Nat.le_of_ble_eq_true rfl) (Nat.le_of_ble_eq_true rfl) (Nat.le_refl _) (Nat.le_refl _) (c_Reader_wrong5 hk q.1 hQ.1 1 (by decide)) (fun r1 w1 hp => ?_) rfl rfl
      obtain ⟨rfl, hF1, hS1⟩ := hp
      refine ⟨⟨by rw [hF1.1]; exact Nat.le_refl _, Or.inl (by rw [hF1.1])⟩, ?_⟩
      have hk1 := rdK_F hk hF1
      refine z_goto (pc := 54) (tgt := 146) rfl (by decide) ?_
      exact z_vret (pc := 146) rfl rfl ⟨rfl, rG_F hF1, by rw [show cPart T n L s 0 q = qW T n 5 q from if_pos h_j44]; exact rQ_F hQ h3 hF1 hS1⟩
  refine z_aload_n (pc := 5) (i := 0) (j := 0) rfl rfl rfl ?_
  refine z_getI (pc := 6) rfl fl_Reader_61 hk.1 rfl ?_
  refine z_eqi (y := tkc T n q.1) (rS_c hQ.1) ?_
  refine z_iconst (pc := 9) (v := 2) rfl (by decide) ?_
  refine z_icmp_eq (pc := 10) (tgt := 44) rfl (by decide) (fun h10 => ?_) (fun h10 => ?_)
  · exact j44 (decide_eq_true (Or.inl h10))
  · refine z_aload_n (pc := 13) (i := 0) (j := 0) rfl rfl rfl ?_
    refine z_getI (pc := 14) rfl fl_Reader_61 hk.1 rfl ?_
    refine z_eqi (y := tkc T n q.1) (rS_c hQ.1) ?_
    refine z_bipush (pc := 17) (v := 40) rfl (by decide) ?_
    refine z_icmp_eq (pc := 19) (tgt := 44) rfl (by decide) (fun h19 => ?_) (fun h19 => ?_)
    · exact j44 (decide_eq_true (Or.inr (Or.inl h19)))
    · refine z_aload_n (pc := 22) (i := 0) (j := 0) rfl rfl rfl ?_
      refine z_getA (pc := 23) rfl fl_Reader_67 hk.1 rfl ?_
      refine z_gets (pc := 26) (C0 := "SmokeWeds$Word") (n1 := "NOT") (d1 := "LSmokeWeds$Word;") (v := .ref 1000013) rfl (by decide +kernel) gl_Reader_215 ?_
      refine z_acmp_eq (x := (zR w 3 8)) (y := (some 1000013)) (pc := 29) (tgt := 44) rfl (by decide) (zid_t hQ.1) (zid_c (by decide) (by decide)) (fun h29 => ?_) (fun h29 => ?_)
      · exact j44 (decide_eq_true (Or.inr (Or.inr (Or.inl ((rS_w hQ.1).symm.trans h29)))))
      · refine z_iload_n (pc := 32) (i := 2) (j := 2) rfl rfl rfl ?_
        refine z_if_ne (pc := 33) (tgt := 44) rfl (by decide) (fun h33 => ?_) (fun h33 => ?_)
        · exact j44 (decide_eq_true (Or.inr (Or.inr (Or.inr h33))))
        · refine z_aload_n (pc := 36) (i := 0) (j := 0) rfl rfl rfl ?_
          refine z_iconst (pc := 37) (v := 1) rfl (by decide) ?_
          refine z_cV (pc := 38) (mc1 := 0) (ms1 := 0) (mc2 := 0) (ms2 := 0) (as := [.int 1]) (rest := []) (o := 3) rfl rfl hk.1 ok_Reader_wrong rfl rfl cl_Reader_122 (by omega) (Nat.le_of_ble_eq_true rfl) (Nat.le_of_ble_eq_true rfl) (Nat.le_refl _) (Nat.le_refl _) (c_Reader_wrong1 hk q.1 hQ.1 1 (by decide)) (fun r1 w1 hp => ?_) rfl rfl
          obtain ⟨rfl, hF1, hS1⟩ := hp
          refine ⟨⟨by rw [hF1.1]; exact Nat.le_refl _, Or.inl (by rw [hF1.1])⟩, ?_⟩
          have hk1 := rdK_F hk hF1
          refine z_goto (pc := 41) (tgt := 146) rfl (by decide) ?_
          exact z_vret (pc := 146) rfl rfl ⟨rfl, rG_F hF1, by rw [show cPart T n L s 0 q = qW T n 1 q from if_neg (fun e => (of_decide_eq_true e).elim h10 (fun e => e.elim h19 (fun e => e.elim (fun z => h29 ((rS_w hQ.1).trans z)) (fun z => z h33))))]; exact rQ_F hQ h3 hF1 hS1⟩
set_option maxRecDepth 100000 in
set_option maxHeartbeats 4000000 in
theorem c_Reader_readPartS {T : Nat → Int32} {n s L m i d : Nat} (hL : rLo s L) (hi5 : i < 5) (hd : 6 ≤ d) (hPm : RC T n s L m_Reader_readPart (i + 1) d (cPart T n L s m)) (hC : RC T n s L m_Reader_readChoice (i + 1) (d + 20) (cChoice T n (cPart T n L s m))) : RC T n s L m_Reader_readPart i (d + 21) (cPart T n L s (m + 1)) := by
  intro w q hk hl hQ
  have h3 := rLo_3 hk hL
  refine z_aload_n (pc := 0) (i := 0) (j := 0) rfl rfl rfl ?_
  refine z_cV (pc := 1) (mc1 := 0) (ms1 := 0) (mc2 := 0) (ms2 := 0) (as := []) (rest := []) (o := 3) rfl rfl hk.1 ok_Reader_factTold rfl rfl cl_Reader_212 (by omega) (Nat.le_of_ble_eq_true rfl) (Nat.le_of_ble_eq_true rfl) (Nat.le_refl _) (Nat.le_refl _) (c_Reader_factTold hk hL hl q.1 hQ.1 0) (fun r1 w1 hp => ?_) rfl rfl
  obtain ⟨rfl, hw1⟩ := hp
  rw [hw1]
  refine ⟨⟨Nat.le_refl _, Or.inl rfl⟩, ?_⟩
  refine z_istore_n (pc := 4) (i := 2) (ls' := [(0, .ref 3), (1, .int (nI i)), (2, .int (fctS T n L s q.1))]) rfl rfl (by decide) rfl ?_
  have j44 : (isOp T n L s q = true) → zS 0 0 (d + 21) m_Reader_readPart (fun rv w1 => rv = none ∧ rG L w w1 ∧ rQ w1 T n L (cPart T n L s (m + 1) q)) 44 [(0, .ref 3), (1, .int (nI i)), (2, .int (fctS T n L s q.1))] [] w := by
    intro h_j44
    refine z_iload_n (pc := 44) (i := 1) (j := 1) rfl rfl rfl ?_
    refine z_iconst (pc := 45) (v := 5) rfl (by decide) ?_
    refine z_icmp_lt (pc := 46) (tgt := 57) rfl (by decide) (fun h46 => ?_) (fun h46 => ?_)
    · refine z_aload_n (pc := 57) (i := 0) (j := 0) rfl rfl rfl ?_
      refine z_getI (pc := 58) rfl fl_Reader_61 hk.1 rfl ?_
      refine z_eqi (y := tkc T n q.1) (rS_c hQ.1) ?_
      refine z_bipush (pc := 61) (v := 40) rfl (by decide) ?_
      refine z_icmp_ne (pc := 63) (tgt := 86) rfl (by decide) (fun h63 => ?_) (fun h63 => ?_)
      · refine z_aload_n (pc := 86) (i := 0) (j := 0) rfl rfl rfl ?_
        refine z_getA (pc := 87) rfl fl_Reader_67 hk.1 rfl ?_
        refine z_gets (pc := 90) (C0 := "SmokeWeds$Word") (n1 := "NOT") (d1 := "LSmokeWeds$Word;") (v := .ref 1000013) rfl (by decide +kernel) gl_Reader_215 ?_
        refine z_acmp_ne (x := (zR w 3 8)) (y := (some 1000013)) (pc := 93) (tgt := 119) rfl (by decide) (zid_t hQ.1) (zid_c (by decide) (by decide)) (fun h93 => ?_) (fun h93 => ?_)
        · refine z_aload_n (pc := 119) (i := 0) (j := 0) rfl rfl rfl ?_
          refine z_getR (pc := 120) (x := L) rfl fl_Reader_29 hk.1 rfl hl ?_
          refine z_aload_n (pc := 123) (i := 0) (j := 0) rfl rfl rfl ?_
          refine z_getI (pc := 124) rfl fl_Reader_61 hk.1 rfl ?_
          refine z_eqi (y := tkc T n q.1) (rS_c hQ.1) ?_
          refine z_iconst (pc := 127) (v := 2) rfl (by decide) ?_
          refine z_icmp_ne (pc := 128) (tgt := 138) rfl (by decide) (fun h128 => ?_) (fun h128 => ?_)
          · refine z_iload_n (pc := 138) (i := 2) (j := 2) rfl rfl rfl ?_
            refine z_cV (pc := 139) (mc1 := 0) (ms1 := 0) (mc2 := 0) (ms2 := 0) (as := [.int (fctS T n L s q.1)]) (rest := []) (o := L) rfl rfl (rLo_k hk hL).1 ok_Law_addStep rfl rfl cl_Reader_200 (by omega) (Nat.le_of_ble_eq_true rfl) (Nat.le_of_ble_eq_true rfl) (Nat.le_refl _) (Nat.le_refl _) (c_addQ hk hL hQ (fctS T n L s q.1) 1) (fun r1 w1 hp => ?_) rfl rfl
            obtain ⟨rfl, hG1, hQ1⟩ := hp
            refine ⟨⟨by rw [hG1.1]; exact Nat.le_refl _, Or.inl (by rw [hG1.1])⟩, ?_⟩
            have hk1 := rdK_G hk h3 hG1
            have hl1 := rG_l hG1 hl
            refine z_aload_n (pc := 142) (i := 0) (j := 0) rfl rfl rfl ?_
            refine z_cV (pc := 143) (mc1 := 0) (ms1 := 0) (mc2 := 0) (ms2 := 0) (as := []) (rest := []) (o := 3) rfl rfl hk1.1 ok_Reader_next rfl rfl cl_Reader_58 (by omega) (Nat.le_of_ble_eq_true rfl) (Nat.le_of_ble_eq_true rfl) (Nat.le_refl _) (Nat.le_refl _) (c_Reader_next hk1 _ hQ1.1 4 (by decide)) (fun r1 w2 hp => ?_) rfl rfl
            obtain ⟨rfl, hF2, hS2⟩ := hp
            refine ⟨⟨by rw [hF2.1]; exact Nat.le_refl _, Or.inl (by rw [hF2.1])⟩, ?_⟩
            have hQ2 := rQ_F hQ1 h3 hF2 hS2
            have hG2 : rG L w1 w2 := rG_F hF2
            have hk2 := rdK_F hk1 hF2
            have hl2 := rG_l hG2 hl1
            exact z_vret (pc := 146) rfl rfl ⟨rfl, rG_t hG1 hG2, by show rQ _ _ _ _ (if _ then _ else _); rw [if_pos h_j44, if_neg h63, if_neg (fun z => h93 ((rS_w hQ.1).trans z)), if_neg h128]; exact hQ2⟩
          · refine z_aload_n (pc := 131) (i := 0) (j := 0) rfl rfl rfl ?_
            refine z_getI (pc := 132) rfl fl_Reader_183 hk.1 rfl ?_
            refine z_eqi (y := tkn T n q.1) (rS_n hQ.1 h128) ?_
            refine z_goto (pc := 135) (tgt := 139) rfl (by decide) ?_
            refine z_cV (pc := 139) (mc1 := 0) (ms1 := 0) (mc2 := 0) (ms2 := 0) (as := [.int (tkn T n q.1)]) (rest := []) (o := L) rfl rfl (rLo_k hk hL).1 ok_Law_addStep rfl rfl cl_Reader_200 (by omega) (Nat.le_of_ble_eq_true rfl) (Nat.le_of_ble_eq_true rfl) (Nat.le_refl _) (Nat.le_refl _) (c_addQ hk hL hQ (tkn T n q.1) 1) (fun r1 w1 hp => ?_) rfl rfl
            obtain ⟨rfl, hG1, hQ1⟩ := hp
            refine ⟨⟨by rw [hG1.1]; exact Nat.le_refl _, Or.inl (by rw [hG1.1])⟩, ?_⟩
            have hk1 := rdK_G hk h3 hG1
            have hl1 := rG_l hG1 hl
            refine z_aload_n (pc := 142) (i := 0) (j := 0) rfl rfl rfl ?_
            refine z_cV (pc := 143) (mc1 := 0) (ms1 := 0) (mc2 := 0) (ms2 := 0) (as := []) (rest := []) (o := 3) rfl rfl hk1.1 ok_Reader_next rfl rfl cl_Reader_58 (by omega) (Nat.le_of_ble_eq_true rfl) (Nat.le_of_ble_eq_true rfl) (Nat.le_refl _) (Nat.le_refl _) (c_Reader_next hk1 _ hQ1.1 4 (by decide)) (fun r1 w2 hp => ?_) rfl rfl
            obtain ⟨rfl, hF2, hS2⟩ := hp
            refine ⟨⟨by rw [hF2.1]; exact Nat.le_refl _, Or.inl (by rw [hF2.1])⟩, ?_⟩
            have hQ2 := rQ_F hQ1 h3 hF2 hS2
            have hG2 : rG L w1 w2 := rG_F hF2
            have hk2 := rdK_F hk1 hF2
            have hl2 := rG_l hG2 hl1
            exact z_vret (pc := 146) rfl rfl ⟨rfl, rG_t hG1 hG2, by show rQ _ _ _ _ (if _ then _ else _); rw [if_pos h_j44, if_neg h63, if_neg (fun z => h93 ((rS_w hQ.1).trans z)), if_pos h128]; exact hQ2⟩
        · refine z_aload_n (pc := 96) (i := 0) (j := 0) rfl rfl rfl ?_
          refine z_cV (pc := 97) (mc1 := 0) (ms1 := 0) (mc2 := 0) (ms2 := 0) (as := []) (rest := []) (o := 3) rfl rfl hk.1 ok_Reader_next rfl rfl cl_Reader_58 (by omega) (Nat.le_of_ble_eq_true rfl) (Nat.le_of_ble_eq_true rfl) (Nat.le_refl _) (Nat.le_refl _) (c_Reader_next hk _ hQ.1 4 (by decide)) (fun r1 w1 hp => ?_) rfl rfl
          obtain ⟨rfl, hF1, hS1⟩ := hp
          refine ⟨⟨by rw [hF1.1]; exact Nat.le_refl _, Or.inl (by rw [hF1.1])⟩, ?_⟩
          have hQ1 := rQ_F hQ h3 hF1 hS1
          have hG1 : rG L w w1 := rG_F hF1
          have hk1 := rdK_F hk hF1
          have hl1 := rG_l hG1 hl
          refine z_aload_n (pc := 100) (i := 0) (j := 0) rfl rfl rfl ?_
          refine z_iload_n (pc := 101) (i := 1) (j := 1) rfl rfl rfl ?_
          refine z_iconst (pc := 102) (v := 1) rfl (by decide) ?_
          refine z_iadd (pc := 103) rfl ?_
          refine z_eqi (y := nI (i + 1)) (nI_1 i) ?_
          refine z_cV (pc := 104) (mc1 := 0) (ms1 := 0) (mc2 := 0) (ms2 := 0) (as := [.int (nI (i + 1))]) (rest := []) (o := 3) rfl rfl hk1.1 ok_Reader_readPart rfl rfl cl_Reader_209 (by omega) (Nat.le_of_ble_eq_true rfl) (Nat.le_of_ble_eq_true rfl) (Nat.le_refl _) (Nat.le_refl _) (hPm w1 _ hk1 hl1 hQ1) (fun r1 w2 hp => ?_) rfl rfl
          obtain ⟨rfl, hG2, hQ2⟩ := hp
          refine ⟨⟨by rw [hG2.1]; exact Nat.le_refl _, Or.inl (by rw [hG2.1])⟩, ?_⟩
          have hk2 := rdK_G hk1 h3 hG2
          have hl2 := rG_l hG2 hl1
          refine z_aload_n (pc := 107) (i := 0) (j := 0) rfl rfl rfl ?_
          refine z_getR (pc := 108) (x := L) rfl fl_Reader_29 hk2.1 rfl hl2 ?_
          refine z_bipush (pc := 111) (v := (-5)) rfl (by decide) ?_
          refine z_cV (pc := 113) (mc1 := 0) (ms1 := 0) (mc2 := 0) (ms2 := 0) (as := [.int (-5)]) (rest := []) (o := L) rfl rfl (rLo_k hk2 hL).1 ok_Law_addStep rfl rfl cl_Reader_200 (by omega) (Nat.le_of_ble_eq_true rfl) (Nat.le_of_ble_eq_true rfl) (Nat.le_refl _) (Nat.le_refl _) (c_addQ hk2 hL hQ2 (-5) 1) (fun r1 w3 hp => ?_) rfl rfl
          obtain ⟨rfl, hG3, hQ3⟩ := hp
          refine ⟨⟨by rw [hG3.1]; exact Nat.le_refl _, Or.inl (by rw [hG3.1])⟩, ?_⟩
          have hk3 := rdK_G hk2 h3 hG3
          have hl3 := rG_l hG3 hl2
          refine z_goto (pc := 116) (tgt := 146) rfl (by decide) ?_
          exact z_vret (pc := 146) rfl rfl ⟨rfl, rG_t hG1 (rG_t hG2 hG3), by show rQ _ _ _ _ (if _ then _ else _); rw [if_pos h_j44, if_neg h63, if_pos ((rS_w hQ.1).symm.trans h93)]; exact hQ3⟩
      · refine z_aload_n (pc := 66) (i := 0) (j := 0) rfl rfl rfl ?_
        refine z_cV (pc := 67) (mc1 := 0) (ms1 := 0) (mc2 := 0) (ms2 := 0) (as := []) (rest := []) (o := 3) rfl rfl hk.1 ok_Reader_next rfl rfl cl_Reader_58 (by omega) (Nat.le_of_ble_eq_true rfl) (Nat.le_of_ble_eq_true rfl) (Nat.le_refl _) (Nat.le_refl _) (c_Reader_next hk _ hQ.1 4 (by decide)) (fun r1 w1 hp => ?_) rfl rfl
        obtain ⟨rfl, hF1, hS1⟩ := hp
        refine ⟨⟨by rw [hF1.1]; exact Nat.le_refl _, Or.inl (by rw [hF1.1])⟩, ?_⟩
        have hQ1 := rQ_F hQ h3 hF1 hS1
        have hG1 : rG L w w1 := rG_F hF1
        have hk1 := rdK_F hk hF1
        have hl1 := rG_l hG1 hl
        refine z_aload_n (pc := 70) (i := 0) (j := 0) rfl rfl rfl ?_
        refine z_iload_n (pc := 71) (i := 1) (j := 1) rfl rfl rfl ?_
        refine z_iconst (pc := 72) (v := 1) rfl (by decide) ?_
        refine z_iadd (pc := 73) rfl ?_
        refine z_eqi (y := nI (i + 1)) (nI_1 i) ?_
        refine z_cV (pc := 74) (mc1 := 0) (ms1 := 0) (mc2 := 0) (ms2 := 0) (as := [.int (nI (i + 1))]) (rest := []) (o := 3) rfl rfl hk1.1 ok_Reader_readChoice rfl rfl cl_Reader_90 (by omega) (Nat.le_of_ble_eq_true rfl) (Nat.le_of_ble_eq_true rfl) (Nat.le_refl _) (Nat.le_refl _) (hC w1 _ hk1 hl1 hQ1) (fun r1 w2 hp => ?_) rfl rfl
        obtain ⟨rfl, hG2, hQ2⟩ := hp
        refine ⟨⟨by rw [hG2.1]; exact Nat.le_refl _, Or.inl (by rw [hG2.1])⟩, ?_⟩
        have hk2 := rdK_G hk1 h3 hG2
        have hl2 := rG_l hG2 hl1
        refine z_aload_n (pc := 77) (i := 0) (j := 0) rfl rfl rfl ?_
        refine z_bipush (pc := 78) (v := 41) rfl (by decide) ?_
        refine z_cV (pc := 80) (mc1 := 0) (ms1 := 0) (mc2 := 0) (ms2 := 0) (as := [.int 41]) (rest := []) (o := 3) rfl rfl hk2.1 ok_Reader_expectSign rfl rfl cl_Reader_125 (by omega) (Nat.le_of_ble_eq_true rfl) (Nat.le_of_ble_eq_true rfl) (Nat.le_refl _) (Nat.le_refl _) (c_Reader_expectSign hk2 _ hQ2.1 41 5 (by decide)) (fun r1 w3 hp => ?_) rfl rfl
        obtain ⟨rfl, hF3, hS3⟩ := hp
        refine ⟨⟨by rw [hF3.1]; exact Nat.le_refl _, Or.inl (by rw [hF3.1])⟩, ?_⟩
        have hk3 := rdK_F hk2 hF3
        refine z_goto (pc := 83) (tgt := 146) rfl (by decide) ?_
        exact z_vret (pc := 146) rfl rfl ⟨rfl, rG_t hG1 (rG_t hG2 (rG_F hF3)), by show rQ _ _ _ _ (if _ then _ else _); rw [if_pos h_j44, if_pos h63]; exact rQ_F hQ2 h3 hF3 hS3⟩
    · exact absurd (nI_lt (b := 5) hi5 (by decide)) h46
  refine z_aload_n (pc := 5) (i := 0) (j := 0) rfl rfl rfl ?_
  refine z_getI (pc := 6) rfl fl_Reader_61 hk.1 rfl ?_
  refine z_eqi (y := tkc T n q.1) (rS_c hQ.1) ?_
  refine z_iconst (pc := 9) (v := 2) rfl (by decide) ?_
  refine z_icmp_eq (pc := 10) (tgt := 44) rfl (by decide) (fun h10 => ?_) (fun h10 => ?_)
  · exact j44 (decide_eq_true (Or.inl h10))
  · refine z_aload_n (pc := 13) (i := 0) (j := 0) rfl rfl rfl ?_
    refine z_getI (pc := 14) rfl fl_Reader_61 hk.1 rfl ?_
    refine z_eqi (y := tkc T n q.1) (rS_c hQ.1) ?_
    refine z_bipush (pc := 17) (v := 40) rfl (by decide) ?_
    refine z_icmp_eq (pc := 19) (tgt := 44) rfl (by decide) (fun h19 => ?_) (fun h19 => ?_)
    · exact j44 (decide_eq_true (Or.inr (Or.inl h19)))
    · refine z_aload_n (pc := 22) (i := 0) (j := 0) rfl rfl rfl ?_
      refine z_getA (pc := 23) rfl fl_Reader_67 hk.1 rfl ?_
      refine z_gets (pc := 26) (C0 := "SmokeWeds$Word") (n1 := "NOT") (d1 := "LSmokeWeds$Word;") (v := .ref 1000013) rfl (by decide +kernel) gl_Reader_215 ?_
      refine z_acmp_eq (x := (zR w 3 8)) (y := (some 1000013)) (pc := 29) (tgt := 44) rfl (by decide) (zid_t hQ.1) (zid_c (by decide) (by decide)) (fun h29 => ?_) (fun h29 => ?_)
      · exact j44 (decide_eq_true (Or.inr (Or.inr (Or.inl ((rS_w hQ.1).symm.trans h29)))))
      · refine z_iload_n (pc := 32) (i := 2) (j := 2) rfl rfl rfl ?_
        refine z_if_ne (pc := 33) (tgt := 44) rfl (by decide) (fun h33 => ?_) (fun h33 => ?_)
        · exact j44 (decide_eq_true (Or.inr (Or.inr (Or.inr h33))))
        · refine z_aload_n (pc := 36) (i := 0) (j := 0) rfl rfl rfl ?_
          refine z_iconst (pc := 37) (v := 1) rfl (by decide) ?_
          refine z_cV (pc := 38) (mc1 := 0) (ms1 := 0) (mc2 := 0) (ms2 := 0) (as := [.int 1]) (rest := []) (o := 3) rfl rfl hk.1 ok_Reader_wrong rfl rfl cl_Reader_122 (by omega) (Nat.le_of_ble_eq_true rfl) (Nat.le_of_ble_eq_true rfl) (Nat.le_refl _) (Nat.le_refl _) (c_Reader_wrong1 hk q.1 hQ.1 1 (by decide)) (fun r1 w1 hp => ?_) rfl rfl
          obtain ⟨rfl, hF1, hS1⟩ := hp
          refine ⟨⟨by rw [hF1.1]; exact Nat.le_refl _, Or.inl (by rw [hF1.1])⟩, ?_⟩
          have hk1 := rdK_F hk hF1
          refine z_goto (pc := 41) (tgt := 146) rfl (by decide) ?_
          exact z_vret (pc := 146) rfl rfl ⟨rfl, rG_F hF1, by rw [show cPart T n L s (m + 1) q = qW T n 1 q from if_neg (fun e => (of_decide_eq_true e).elim h10 (fun e => e.elim h19 (fun e => e.elim (fun z => h29 ((rS_w hQ.1).trans z)) (fun z => z h33))))]; exact rQ_F hQ h3 hF1 hS1⟩
theorem c_parts {T : Nat → Int32} {n s L : Nat} (hL : rLo s L) : ∀ m i, i + m = 5 → RC T n s L m_Reader_readPart i (6 + 21 * m) (cPart T n L s m)
  | 0, i, h => by
    obtain rfl : i = 5 := by omega
    exact c_Reader_readPart0 hL 6 (Nat.le_refl _)
  | m + 1, i, h => by
    have hP := c_parts (T := T) (n := n) hL m (i + 1) (by omega)
    exact c_Reader_readPartS hL (by omega) (show 6 ≤ 6 + 21 * m by omega) hP (c_Reader_readChoice hL (c_Reader_readTest hL (c_Reader_readSum hL (c_Reader_readProduct hL hP))))
theorem c_law {T : Nat → Int32} {n s L : Nat} (hL : rLo s L) : RC T n s L m_Reader_readChoice 0 131 (cChoice T n (cPart T n L s 5)) :=
  c_Reader_readChoice hL (c_Reader_readTest hL (c_Reader_readSum hL (c_Reader_readProduct hL (c_parts hL 5 0 rfl))))
