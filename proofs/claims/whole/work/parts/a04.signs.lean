/-! THE MODEL READS A LAW: numbers and facts, signs, the end -/
set_option maxRecDepth 100000 in
set_option maxHeartbeats 4000000 in
theorem l_pop1 {w : zW} {n dd : Nat} {T : Nat → Int32} {P : Option Value → zW → Prop} (hk : mK w n T) {op : Nat → Int32} (h55 : zI w 55 = op) (x y z : Int32) : ∀ d, d ≤ 6 → zS 0 0 dd m_Mod_reads P 172 [(0, .ref 44), (1, .int (nI (pd op d))), (2, .int 0), (3, .int x), (4, .int y), (5, .int z)] [] w → zS 0 0 dd m_Mod_reads P 152 [(0, .ref 44), (1, .int (nI d)), (2, .int 0), (3, .int x), (4, .int y), (5, .int z)] [] w := by
  intro d
  induction d with
  | zero =>
    intro hd k
    refine z_iload_n (pc := 152) (i := 1) (j := 1) rfl rfl rfl ?_
    refine z_if_le (pc := 153) (tgt := 172) rfl (by decide) (fun h153 => ?_) (fun h153 => ?_)
    · exact k
    · exact absurd (by decide) h153
  | succ d ih =>
    intro hd k
    refine z_iload_n (pc := 152) (i := 1) (j := 1) rfl rfl rfl ?_
    refine z_if_le (pc := 153) (tgt := 172) rfl (by decide) (fun h153 => ?_) (fun h153 => ?_)
    · exact absurd h153 (nI_nle (by omega) (by omega))
    · refine z_aload_n (pc := 156) (i := 0) (j := 0) rfl rfl rfl ?_
      refine z_getR (pc := 157) (x := 55) rfl fl_Mod_41 hk.1.1 rfl (mr_55 hk.1) ?_
      refine z_iload_n (pc := 160) (i := 1) (j := 1) rfl rfl rfl ?_
      refine z_iald (pc := 161) rfl (mk_55 hk.1) (vp_in_nI (n := d + 1) (N := 7) (by omega) (by decide)) ?_
      refine z_eqi (y := op (d + 1)) (by rw [nI_clamp (by omega), h55]) ?_
      refine z_iconst (pc := 162) (v := 1) rfl (by decide) ?_
      refine z_icmp_ne (pc := 163) (tgt := 172) rfl (by decide) (fun h163 => ?_) (fun h163 => ?_)
      · rw [show pd op (d + 1) = d + 1 from if_neg h163] at k
        exact k
      · refine z_iinc (pc := 166) (i := 1) (j := 1) (v := nI d) (ls' := [(0, .ref 44), (1, .int (nI d)), (2, .int 0), (3, .int x), (4, .int y), (5, .int z)]) rfl rfl (pk_m1 d) (by decide) rfl ?_
        refine z_goto (pc := 169) (tgt := 152) rfl (by decide) ?_
        rw [show pd op (d + 1) = pd op d from if_pos h163] at k
        exact ih (by omega) k
set_option maxRecDepth 100000 in
set_option maxHeartbeats 4000000 in
theorem l_pop2 {w : zW} {n dd : Nat} {T : Nat → Int32} {P : Option Value → zW → Prop} (hk : mK w n T) {op : Nat → Int32} (h55 : zI w 55 = op) : ∀ d, d ≤ 6 → zS 0 0 dd m_Mod_reads P 424 [(0, .ref 44), (1, .int (nI (pd op d))), (2, .int 0)] [] w → zS 0 0 dd m_Mod_reads P 379 [(0, .ref 44), (1, .int (nI d)), (2, .int 0)] [] w := by
  intro d
  induction d with
  | zero =>
    intro hd k
    refine z_iload_n (pc := 379) (i := 1) (j := 1) rfl rfl rfl ?_
    refine z_if_le (pc := 380) (tgt := 424) rfl (by decide) (fun h380 => ?_) (fun h380 => ?_)
    · exact k
    · exact absurd (by decide) h380
  | succ d ih =>
    intro hd k
    refine z_iload_n (pc := 379) (i := 1) (j := 1) rfl rfl rfl ?_
    refine z_if_le (pc := 380) (tgt := 424) rfl (by decide) (fun h380 => ?_) (fun h380 => ?_)
    · exact absurd h380 (nI_nle (by omega) (by omega))
    · refine z_aload_n (pc := 383) (i := 0) (j := 0) rfl rfl rfl ?_
      refine z_getR (pc := 384) (x := 55) rfl fl_Mod_41 hk.1.1 rfl (mr_55 hk.1) ?_
      refine z_iload_n (pc := 387) (i := 1) (j := 1) rfl rfl rfl ?_
      refine z_iald (pc := 388) rfl (mk_55 hk.1) (vp_in_nI (n := d + 1) (N := 7) (by omega) (by decide)) ?_
      refine z_eqi (y := op (d + 1)) (by rw [nI_clamp (by omega), h55]) ?_
      refine z_iconst (pc := 389) (v := 1) rfl (by decide) ?_
      refine z_icmp_ne (pc := 390) (tgt := 424) rfl (by decide) (fun h390 => ?_) (fun h390 => ?_)
      · rw [show pd op (d + 1) = d + 1 from if_neg h390] at k
        exact k
      · refine z_iinc (pc := 393) (i := 1) (j := 1) (v := nI d) (ls' := [(0, .ref 44), (1, .int (nI d)), (2, .int 0)]) rfl rfl (pk_m1 d) (by decide) rfl ?_
        refine z_goto (pc := 396) (tgt := 379) rfl (by decide) ?_
        rw [show pd op (d + 1) = pd op d from if_pos h390] at k
        exact ih (by omega) k
theorem pd_le (op : Nat → Int32) : ∀ d, pd op d ≤ d
  | 0 => Nat.le_refl _
  | d + 1 => by
    show (if op (d + 1) = 1 then pd op d else d + 1) ≤ d + 1
    split
    · exact Nat.le_trans (pd_le op d) (Nat.le_succ d)
    · exact Nat.le_refl _
set_option maxRecDepth 100000 in
set_option maxHeartbeats 4000000 in
theorem rd_A5n {T : Nat → Int32} {n L s j0 dd : Nat} {w0 : zW} {P : Option Value → zW → Prop} (hk0 : mK w0 n T) (hpl : (zI w0 44 21 = 0 ∧ ¬ L = s + 9) ∨ (zI w0 44 21 = 1 ∧ L = s + 9)) (hdd : 2 ≤ dd) (hj0 : 1000 ≤ j0 ∧ j0 ≤ 5000) {p d : Nat} {op cm : Nat → Int32} {Y : List Int32} (hd : d < 5) (h2 : tC T n p = 2) (hH : rdH T n w0 j0 dd P (tEnd T n p) (pd op d) false op cm (Y ++ [(100 + numV T (tBeg T n p) (tLen T n p))])) : rdH T n w0 j0 dd P p d true op cm Y := by
  intro hp hd5 hj w hQ
  have hk := mK_R hk0 hQ.1
  have hS := hQ.2.1
  have hj19 := hQ.2.2.2.2.1
  have hn1 := hk0.2.2.1
  have hlt : tBeg T n p < n := tC_lt (by rw [h2]; decide)
  have q3 := tEnd_lt hlt
  have q5 := tBeg_ge T n p
  have hpd : pd op d ≤ d := pd_le op d
  refine z_iload_n (pc := 11) (i := 2) (j := 2) rfl rfl rfl ?_
  refine z_if_eq (pc := 12) (tgt := 179) rfl (by decide) (fun h12 => ?_) (fun h12 => ?_)
  · first | exact absurd h12 (by decide) | exact absurd (by decide) h12
  · refine z_aload_n (pc := 15) (i := 0) (j := 0) rfl rfl rfl ?_
    refine z_cV (pc := 16) (mc1 := 0) (ms1 := 0) (mc2 := 0) (ms2 := 0) (as := []) (rest := []) (o := 44) rfl rfl hk.1.1 ok_Mod_fact rfl rfl cl_Mod_154 (by omega) (Nat.le_of_ble_eq_true rfl) (Nat.le_of_ble_eq_true rfl) (Nat.le_refl _) (Nat.le_refl _) (c_fac hk hS 0) (fun r1 w1 hp => ?_) rfl rfl
    obtain ⟨rfl, hw1⟩ := hp
    rw [hw1]
    refine ⟨⟨Nat.le_refl _, Or.inl rfl⟩, ?_⟩
    refine z_eqi (y := 0) (by rw [hQ.1.2.2.2.1 21 (by decide), fac_e hpl, tW_no (by rw [h2]; decide), fct_none]; rfl) ?_
    refine z_istore_n (pc := 19) (i := 3) (ls' := [(0, .ref 44), (1, .int (nI d)), (2, .int 1), (3, .int 0)]) rfl rfl (by decide) rfl ?_
    refine z_aload_n (pc := 20) (i := 0) (j := 0) rfl rfl rfl ?_
    refine z_ldc2 (pc := 21) (v := 10631) rfl kl_Mod_158 ?_
    refine z_cV (pc := 24) (mc1 := 0) (ms1 := 0) (mc2 := 0) (ms2 := 0) (as := [.long 10631]) (rest := []) (o := 44) rfl rfl hk.1.1 ok_Mod_isWord rfl rfl cl_Mod_160 (by omega) (Nat.le_of_ble_eq_true rfl) (Nat.le_of_ble_eq_true rfl) (Nat.le_refl _) (Nat.le_refl _) (c_wd hk hS (i := 13) (by decide) (x := 10631) rfl 0) (fun r1 w1 hp => ?_) rfl rfl
    obtain ⟨rfl, hw1⟩ := hp
    rw [hw1]
    refine ⟨⟨Nat.le_refl _, Or.inl rfl⟩, ?_⟩
    refine z_eqi (y := 0) (if_neg (fun e => absurd (tW_3 e) (by rw [h2]; decide))) ?_
    refine z_istore (pc := 27) (i := 4) (ls' := [(0, .ref 44), (1, .int (nI d)), (2, .int 1), (3, .int 0), (4, .int 0)]) rfl (by decide) rfl ?_
    refine z_aload_n (pc := 29) (i := 0) (j := 0) rfl rfl rfl ?_
    refine z_bipush (pc := 30) (v := 40) rfl (by decide) ?_
    refine z_cV (pc := 32) (mc1 := 0) (ms1 := 0) (mc2 := 0) (ms2 := 0) (as := [.int 40]) (rest := []) (o := 44) rfl rfl hk.1.1 ok_Mod_isSign rfl rfl cl_Mod_164 (by omega) (Nat.le_of_ble_eq_true rfl) (Nat.le_of_ble_eq_true rfl) (Nat.le_refl _) (Nat.le_refl _) (c_Mod_isSign hk hS (c := 40) (by decide) 0) (fun r1 w1 hp => ?_) rfl rfl
    obtain ⟨rfl, hw1⟩ := hp
    rw [hw1]
    refine ⟨⟨Nat.le_refl _, Or.inl rfl⟩, ?_⟩
    refine z_eqi (y := 0) (if_neg (by rw [h2]; decide)) ?_
    refine z_istore (pc := 35) (i := 5) (ls' := [(0, .ref 44), (1, .int (nI d)), (2, .int 1), (3, .int 0), (4, .int 0), (5, .int 0)]) rfl (by decide) rfl ?_
    refine z_iload_n (pc := 37) (i := 3) (j := 3) rfl rfl rfl ?_
    refine z_if_ne (pc := 38) (tgt := 65) rfl (by decide) (fun h38 => ?_) (fun h38 => ?_)
    · first | exact absurd h38 (by decide) | exact absurd (by decide) h38
    · refine z_iload (pc := 41) (i := 4) (j := 4) rfl rfl ?_
      refine z_if_ne (pc := 43) (tgt := 65) rfl (by decide) (fun h43 => ?_) (fun h43 => ?_)
      · first | exact absurd h43 (by decide) | exact absurd (by decide) h43
      · refine z_iload (pc := 46) (i := 5) (j := 5) rfl rfl ?_
        refine z_if_ne (pc := 48) (tgt := 65) rfl (by decide) (fun h48 => ?_) (fun h48 => ?_)
        · first | exact absurd h48 (by decide) | exact absurd (by decide) h48
        · refine z_aload_n (pc := 51) (i := 0) (j := 0) rfl rfl rfl ?_
          refine z_getI (pc := 52) rfl fl_Mod_125 hk.1.1 rfl ?_
          refine z_eqi (y := tM T n p) hS.2.2.1 ?_
          refine z_iconst (pc := 55) (v := 2) rfl (by decide) ?_
          refine z_icmp_eq (pc := 56) (tgt := 65) rfl (by decide) (fun h56 => ?_) (fun h56 => ?_)
          · refine z_iload_n (pc := 65) (i := 1) (j := 1) rfl rfl rfl ?_
            refine z_iconst (pc := 66) (v := 5) rfl (by decide) ?_
            refine z_icmp_ne (pc := 67) (tgt := 76) rfl (by decide) (fun h67 => ?_) (fun h67 => ?_)
            · refine z_iload (pc := 76) (i := 4) (j := 4) rfl rfl ?_
              refine z_if_ne (pc := 78) (tgt := 86) rfl (by decide) (fun h78 => ?_) (fun h78 => ?_)
              · first | exact absurd h78 (by decide) | exact absurd (by decide) h78
              · refine z_iload (pc := 81) (i := 5) (j := 5) rfl rfl ?_
                refine z_if_eq (pc := 83) (tgt := 131) rfl (by decide) (fun h83 => ?_) (fun h83 => ?_)
                · refine z_aload_n (pc := 131) (i := 0) (j := 0) rfl rfl rfl ?_
                  refine z_iload_n (pc := 132) (i := 3) (j := 3) rfl rfl rfl ?_
                  refine z_if_le (pc := 133) (tgt := 140) rfl (by decide) (fun h133 => ?_) (fun h133 => ?_)
                  · refine z_bipush (pc := 140) (v := 100) rfl (by decide) ?_
                    refine z_aload_n (pc := 142) (i := 0) (j := 0) rfl rfl rfl ?_
                    refine z_getI (pc := 143) rfl fl_Mod_122 hk.1.1 rfl ?_
                    refine z_eqi (y := numV T (tBeg T n p) (tLen T n p)) (hS.2.2.2.2.1.trans (tTo_n h2)) ?_
                    refine z_iadd (pc := 146) rfl ?_
                    refine z_cV (pc := 147) (mc1 := 0) (ms1 := 0) (mc2 := 0) (ms2 := 0) (as := [.int (100 + (numV T (tBeg T n p) (tLen T n p)))]) (rest := []) (o := 44) rfl rfl hk.1.1 ok_Mod_puts rfl rfl cl_Mod_171 (by omega) (Nat.le_of_ble_eq_true rfl) (Nat.le_of_ble_eq_true rfl) (Nat.le_refl _) (Nat.le_refl _) (c_Mod_puts hk (j := j0 + Y.length) hj19 (by omega) (100 + (numV T (tBeg T n p) (tLen T n p))) 0) (fun r1 w1 hp => ?_) rfl rfl
                    obtain ⟨rfl, hw1⟩ := hp
                    rw [hw1]
                    refine ⟨⟨Nat.le_refl _, Or.inl rfl⟩, ?_⟩
                    refine z_iconst (pc := 150) (v := 0) rfl (by decide) ?_
                    refine z_istore_n (pc := 151) (i := 2) (ls' := [(0, .ref 44), (1, .int (nI d)), (2, .int 0), (3, .int 0), (4, .int 0), (5, .int 0)]) rfl rfl (by decide) rfl ?_
                    refine l_pop1 (w := zsI (zsI w 54 (j0 + Y.length) (100 + (numV T (tBeg T n p) (tLen T n p)))) 44 19 (nI (j0 + Y.length + 1))) (mK_R hk0 (rdQ_put hQ (by omega) (100 + numV T (tBeg T n p) (tLen T n p))).1) (rdQ_put hQ (by omega) (100 + numV T (tBeg T n p) (tLen T n p))).2.2.1 0 0 0 d (by omega) ?_
                    refine z_aload_n (pc := 172) (i := 0) (j := 0) rfl rfl rfl ?_
                    refine z_nmw (fun w7 hw7 => ?_)
                    have hQ7 : rdQ T n w0 j0 p op cm (Y ++ [(100 + numV T (tBeg T n p) (tLen T n p))]) w7 := by
                      rw [hw7]
                      exact rdQ_put hQ (by omega) (100 + numV T (tBeg T n p) (tLen T n p))
                    refine z_cV (pc := 173) (mc1 := 0) (ms1 := 0) (mc2 := 0) (ms2 := 0) (as := []) (rest := []) (o := 44) rfl rfl (mK_R hk0 hQ7.1).1.1 ok_Mod_nextToken rfl rfl cl_Mod_174 (by omega) (Nat.le_of_ble_eq_true rfl) (Nat.le_of_ble_eq_true rfl) (Nat.le_refl _) (Nat.le_refl _) (c_Mod_nextToken (w := w7) (mK_R hk0 hQ7.1) (p := tEnd T n p) (tEnd_le hS.2.2.2.2.2) hQ7.2.1.1 1 (by decide)) (fun r1 w8 hp => ?_) rfl rfl
                    obtain ⟨rfl, hF8, hS8⟩ := hp
                    refine ⟨⟨by rw [hF8.1]; exact Nat.le_refl _, Or.inl (by rw [hF8.1])⟩, ?_⟩
                    refine z_goto (pc := 176) (tgt := 11) rfl (by decide) ?_
                    refine z_drop (ls' := [(0, .ref 44), (1, .int (nI (pd op d))), (2, .int 0)]) (by simp) ?_
                    exact hH (tEnd_le hS.2.2.2.2.2) (by omega) (by rw [List.length_append]; show j0 + (Y.length + 1) ≤ _; omega) w8 (rdQ_nx hQ7 hF8 hS8)
                  · first | exact absurd h133 (by decide) | exact absurd (by decide) h133
                · first | exact absurd h83 (by decide) | exact absurd (by decide) h83
            · exact absurd ((nI_eq (a := d) (b := 5) (by omega) (by omega)).mp h67) (by omega)
          · exact absurd ((t2_iff T n p).mpr h2) h56
set_option maxRecDepth 100000 in
set_option maxHeartbeats 4000000 in
theorem rd_A5f {T : Nat → Int32} {n L s j0 dd : Nat} {w0 : zW} {P : Option Value → zW → Prop} (hk0 : mK w0 n T) (hpl : (zI w0 44 21 = 0 ∧ ¬ L = s + 9) ∨ (zI w0 44 21 = 1 ∧ L = s + 9)) (hdd : 2 ≤ dd) (hj0 : 1000 ≤ j0 ∧ j0 ≤ 5000) {p d : Nat} {op cm : Nat → Int32} {Y : List Int32} (hd : d < 5) (hf : ¬ fctS T n L s (.inl p) = 0) (h40 : ¬ tC T n p = 40) (hN : ¬ tW T n p = some 1000013) (hH : rdH T n w0 j0 dd P (tEnd T n p) (pd op d) false op cm (Y ++ [(0 - fctS T n L s (.inl p))])) : rdH T n w0 j0 dd P p d true op cm Y := by
  intro hp hd5 hj w hQ
  have hk := mK_R hk0 hQ.1
  have hS := hQ.2.1
  have hj19 := hQ.2.2.2.2.1
  have hn1 := hk0.2.2.1
  have hlt : tBeg T n p < n := isO_lt (L := L) (s := s) (Or.inr (Or.inr (Or.inr hf)))
  have q3 := tEnd_lt hlt
  have q5 := tBeg_ge T n p
  have hpd : pd op d ≤ d := pd_le op d
  have hf0 : ¬ (0 - fctS T n L s (.inl p)) = 0 := by rcases (fct_v hf).2 with y | y | y | y <;> (have y1 := y.1; rw [show fctS T n L s (.inl p) = fctO L (s + 9) (tkw T n (.inl p)) from rfl, y1]; decide)
  have hfp : ¬ (0 - fctS T n L s (.inl p)) ≤ 0 := by rcases (fct_v hf).2 with y | y | y | y <;> (have y1 := y.1; rw [show fctS T n L s (.inl p) = fctO L (s + 9) (tkw T n (.inl p)) from rfl, y1]; decide)
  refine z_iload_n (pc := 11) (i := 2) (j := 2) rfl rfl rfl ?_
  refine z_if_eq (pc := 12) (tgt := 179) rfl (by decide) (fun h12 => ?_) (fun h12 => ?_)
  · first | exact absurd h12 (by decide) | exact absurd (by decide) h12
  · refine z_aload_n (pc := 15) (i := 0) (j := 0) rfl rfl rfl ?_
    refine z_cV (pc := 16) (mc1 := 0) (ms1 := 0) (mc2 := 0) (ms2 := 0) (as := []) (rest := []) (o := 44) rfl rfl hk.1.1 ok_Mod_fact rfl rfl cl_Mod_154 (by omega) (Nat.le_of_ble_eq_true rfl) (Nat.le_of_ble_eq_true rfl) (Nat.le_refl _) (Nat.le_refl _) (c_fac hk hS 0) (fun r1 w1 hp => ?_) rfl rfl
    obtain ⟨rfl, hw1⟩ := hp
    rw [hw1]
    refine ⟨⟨Nat.le_refl _, Or.inl rfl⟩, ?_⟩
    refine z_eqi (y := (0 - fctS T n L s (.inl p))) (by rw [hQ.1.2.2.2.1 21 (by decide), fac_e hpl]; rfl) ?_
    refine z_istore_n (pc := 19) (i := 3) (ls' := [(0, .ref 44), (1, .int (nI d)), (2, .int 1), (3, .int (0 - fctS T n L s (.inl p)))]) rfl rfl (by decide) rfl ?_
    refine z_aload_n (pc := 20) (i := 0) (j := 0) rfl rfl rfl ?_
    refine z_ldc2 (pc := 21) (v := 10631) rfl kl_Mod_158 ?_
    refine z_cV (pc := 24) (mc1 := 0) (ms1 := 0) (mc2 := 0) (ms2 := 0) (as := [.long 10631]) (rest := []) (o := 44) rfl rfl hk.1.1 ok_Mod_isWord rfl rfl cl_Mod_160 (by omega) (Nat.le_of_ble_eq_true rfl) (Nat.le_of_ble_eq_true rfl) (Nat.le_refl _) (Nat.le_refl _) (c_wd hk hS (i := 13) (by decide) (x := 10631) rfl 0) (fun r1 w1 hp => ?_) rfl rfl
    obtain ⟨rfl, hw1⟩ := hp
    rw [hw1]
    refine ⟨⟨Nat.le_refl _, Or.inl rfl⟩, ?_⟩
    refine z_eqi (y := 0) (if_neg hN) ?_
    refine z_istore (pc := 27) (i := 4) (ls' := [(0, .ref 44), (1, .int (nI d)), (2, .int 1), (3, .int (0 - fctS T n L s (.inl p))), (4, .int 0)]) rfl (by decide) rfl ?_
    refine z_aload_n (pc := 29) (i := 0) (j := 0) rfl rfl rfl ?_
    refine z_bipush (pc := 30) (v := 40) rfl (by decide) ?_
    refine z_cV (pc := 32) (mc1 := 0) (ms1 := 0) (mc2 := 0) (ms2 := 0) (as := [.int 40]) (rest := []) (o := 44) rfl rfl hk.1.1 ok_Mod_isSign rfl rfl cl_Mod_164 (by omega) (Nat.le_of_ble_eq_true rfl) (Nat.le_of_ble_eq_true rfl) (Nat.le_refl _) (Nat.le_refl _) (c_Mod_isSign hk hS (c := 40) (by decide) 0) (fun r1 w1 hp => ?_) rfl rfl
    obtain ⟨rfl, hw1⟩ := hp
    rw [hw1]
    refine ⟨⟨Nat.le_refl _, Or.inl rfl⟩, ?_⟩
    refine z_eqi (y := 0) (if_neg h40) ?_
    refine z_istore (pc := 35) (i := 5) (ls' := [(0, .ref 44), (1, .int (nI d)), (2, .int 1), (3, .int (0 - fctS T n L s (.inl p))), (4, .int 0), (5, .int 0)]) rfl (by decide) rfl ?_
    refine z_iload_n (pc := 37) (i := 3) (j := 3) rfl rfl rfl ?_
    refine z_if_ne (pc := 38) (tgt := 65) rfl (by decide) (fun h38 => ?_) (fun h38 => ?_)
    · refine z_iload_n (pc := 65) (i := 1) (j := 1) rfl rfl rfl ?_
      refine z_iconst (pc := 66) (v := 5) rfl (by decide) ?_
      refine z_icmp_ne (pc := 67) (tgt := 76) rfl (by decide) (fun h67 => ?_) (fun h67 => ?_)
      · refine z_iload (pc := 76) (i := 4) (j := 4) rfl rfl ?_
        refine z_if_ne (pc := 78) (tgt := 86) rfl (by decide) (fun h78 => ?_) (fun h78 => ?_)
        · first | exact absurd h78 (by decide) | exact absurd (by decide) h78
        · refine z_iload (pc := 81) (i := 5) (j := 5) rfl rfl ?_
          refine z_if_eq (pc := 83) (tgt := 131) rfl (by decide) (fun h83 => ?_) (fun h83 => ?_)
          · refine z_aload_n (pc := 131) (i := 0) (j := 0) rfl rfl rfl ?_
            refine z_iload_n (pc := 132) (i := 3) (j := 3) rfl rfl rfl ?_
            refine z_if_le (pc := 133) (tgt := 140) rfl (by decide) (fun h133 => ?_) (fun h133 => ?_)
            · exact absurd h133 hfp
            · refine z_iload_n (pc := 136) (i := 3) (j := 3) rfl rfl rfl ?_
              refine z_goto (pc := 137) (tgt := 147) rfl (by decide) ?_
              refine z_cV (pc := 147) (mc1 := 0) (ms1 := 0) (mc2 := 0) (ms2 := 0) (as := [.int (0 - fctS T n L s (.inl p))]) (rest := []) (o := 44) rfl rfl hk.1.1 ok_Mod_puts rfl rfl cl_Mod_171 (by omega) (Nat.le_of_ble_eq_true rfl) (Nat.le_of_ble_eq_true rfl) (Nat.le_refl _) (Nat.le_refl _) (c_Mod_puts hk (j := j0 + Y.length) hj19 (by omega) (0 - fctS T n L s (.inl p)) 0) (fun r1 w1 hp => ?_) rfl rfl
              obtain ⟨rfl, hw1⟩ := hp
              rw [hw1]
              refine ⟨⟨Nat.le_refl _, Or.inl rfl⟩, ?_⟩
              refine z_iconst (pc := 150) (v := 0) rfl (by decide) ?_
              refine z_istore_n (pc := 151) (i := 2) (ls' := [(0, .ref 44), (1, .int (nI d)), (2, .int 0), (3, .int (0 - fctS T n L s (.inl p))), (4, .int 0), (5, .int 0)]) rfl rfl (by decide) rfl ?_
              refine l_pop1 (w := zsI (zsI w 54 (j0 + Y.length) (0 - fctS T n L s (.inl p))) 44 19 (nI (j0 + Y.length + 1))) (mK_R hk0 (rdQ_put hQ (by omega) (0 - fctS T n L s (.inl p))).1) (rdQ_put hQ (by omega) (0 - fctS T n L s (.inl p))).2.2.1 (0 - fctS T n L s (.inl p)) 0 0 d (by omega) ?_
              refine z_aload_n (pc := 172) (i := 0) (j := 0) rfl rfl rfl ?_
              refine z_nmw (fun w7 hw7 => ?_)
              have hQ7 : rdQ T n w0 j0 p op cm (Y ++ [(0 - fctS T n L s (.inl p))]) w7 := by
                rw [hw7]
                exact rdQ_put hQ (by omega) (0 - fctS T n L s (.inl p))
              refine z_cV (pc := 173) (mc1 := 0) (ms1 := 0) (mc2 := 0) (ms2 := 0) (as := []) (rest := []) (o := 44) rfl rfl (mK_R hk0 hQ7.1).1.1 ok_Mod_nextToken rfl rfl cl_Mod_174 (by omega) (Nat.le_of_ble_eq_true rfl) (Nat.le_of_ble_eq_true rfl) (Nat.le_refl _) (Nat.le_refl _) (c_Mod_nextToken (w := w7) (mK_R hk0 hQ7.1) (p := tEnd T n p) (tEnd_le hS.2.2.2.2.2) hQ7.2.1.1 1 (by decide)) (fun r1 w8 hp => ?_) rfl rfl
              obtain ⟨rfl, hF8, hS8⟩ := hp
              refine ⟨⟨by rw [hF8.1]; exact Nat.le_refl _, Or.inl (by rw [hF8.1])⟩, ?_⟩
              refine z_goto (pc := 176) (tgt := 11) rfl (by decide) ?_
              refine z_drop (ls' := [(0, .ref 44), (1, .int (nI (pd op d))), (2, .int 0)]) (by simp) ?_
              exact hH (tEnd_le hS.2.2.2.2.2) (by omega) (by rw [List.length_append]; show j0 + (Y.length + 1) ≤ _; omega) w8 (rdQ_nx hQ7 hF8 hS8)
          · first | exact absurd h83 (by decide) | exact absurd (by decide) h83
      · exact absurd ((nI_eq (a := d) (b := 5) (by omega) (by omega)).mp h67) (by omega)
    · exact absurd h38 hf0
set_option maxRecDepth 100000 in
set_option maxHeartbeats 4000000 in
theorem rd_B1p {T : Nat → Int32} {n L s j0 dd : Nat} {w0 : zW} {P : Option Value → zW → Prop} (hk0 : mK w0 n T) (hpl : (zI w0 44 21 = 0 ∧ ¬ L = s + 9) ∨ (zI w0 44 21 = 1 ∧ L = s + 9)) (hdd : 2 ≤ dd) (hj0 : 1000 ≤ j0 ∧ j0 ≤ 5000) {p d : Nat} {op cm : Nat → Int32} {Y : List Int32} (hc : tC T n p = 43) (hH : rdH T n w0 j0 dd P (tEnd T n p) d true op cm (Y ++ [20])) : rdH T n w0 j0 dd P p d false op cm Y := by
  intro hp hd5 hj w hQ
  have hk := mK_R hk0 hQ.1
  have hS := hQ.2.1
  have hj19 := hQ.2.2.2.2.1
  have hn1 := hk0.2.2.1
  have hlt : tBeg T n p < n := tC_lt (by rw [hc]; decide)
  have q3 := tEnd_lt hlt
  have q5 := tBeg_ge T n p
  refine z_iload_n (pc := 11) (i := 2) (j := 2) rfl rfl rfl ?_
  refine z_if_eq (pc := 12) (tgt := 179) rfl (by decide) (fun h12 => ?_) (fun h12 => ?_)
  · refine z_aload_n (pc := 179) (i := 0) (j := 0) rfl rfl rfl ?_
    refine z_bipush (pc := 180) (v := 43) rfl (by decide) ?_
    refine z_cV (pc := 182) (mc1 := 0) (ms1 := 0) (mc2 := 0) (ms2 := 0) (as := [.int 43]) (rest := []) (o := 44) rfl rfl hk.1.1 ok_Mod_isSign rfl rfl cl_Mod_164 (by omega) (Nat.le_of_ble_eq_true rfl) (Nat.le_of_ble_eq_true rfl) (Nat.le_refl _) (Nat.le_refl _) (c_Mod_isSign hk hS (c := 43) (by decide) 0) (fun r1 w1 hp => ?_) rfl rfl
    obtain ⟨rfl, hw1⟩ := hp
    rw [hw1]
    refine ⟨⟨Nat.le_refl _, Or.inl rfl⟩, ?_⟩
    refine z_eqi (y := 1) (if_pos hc) ?_
    refine z_if_ne (pc := 185) (tgt := 206) rfl (by decide) (fun h185 => ?_) (fun h185 => ?_)
    · refine z_aload_n (pc := 206) (i := 0) (j := 0) rfl rfl rfl ?_
      refine z_aload_n (pc := 207) (i := 0) (j := 0) rfl rfl rfl ?_
      refine z_bipush (pc := 208) (v := 43) rfl (by decide) ?_
      refine z_cV (pc := 210) (mc1 := 0) (ms1 := 0) (mc2 := 0) (ms2 := 0) (as := [.int 43]) (rest := [.ref 44]) (o := 44) rfl rfl hk.1.1 ok_Mod_isSign rfl rfl cl_Mod_164 (by omega) (Nat.le_of_ble_eq_true rfl) (Nat.le_of_ble_eq_true rfl) (Nat.le_refl _) (Nat.le_refl _) (c_Mod_isSign hk hS (c := 43) (by decide) 0) (fun r1 w1 hp => ?_) rfl rfl
      obtain ⟨rfl, hw1⟩ := hp
      rw [hw1]
      refine ⟨⟨Nat.le_refl _, Or.inl rfl⟩, ?_⟩
      refine z_eqi (y := 1) (if_pos hc) ?_
      refine z_if_eq (pc := 213) (tgt := 221) rfl (by decide) (fun h213 => ?_) (fun h213 => ?_)
      · first | exact absurd h213 (by decide) | exact absurd (by decide) h213
      · refine z_bipush (pc := 216) (v := 20) rfl (by decide) ?_
        refine z_goto (pc := 218) (tgt := 237) rfl (by decide) ?_
        refine z_cV (pc := 237) (mc1 := 0) (ms1 := 0) (mc2 := 0) (ms2 := 0) (as := [.int 20]) (rest := []) (o := 44) rfl rfl hk.1.1 ok_Mod_puts rfl rfl cl_Mod_171 (by omega) (Nat.le_of_ble_eq_true rfl) (Nat.le_of_ble_eq_true rfl) (Nat.le_refl _) (Nat.le_refl _) (c_Mod_puts hk (j := j0 + Y.length) hj19 (by omega) 20 0) (fun r1 w1 hp => ?_) rfl rfl
        obtain ⟨rfl, hw1⟩ := hp
        rw [hw1]
        refine ⟨⟨Nat.le_refl _, Or.inl rfl⟩, ?_⟩
        refine z_iconst (pc := 240) (v := 1) rfl (by decide) ?_
        refine z_istore_n (pc := 241) (i := 2) (ls' := [(0, .ref 44), (1, .int (nI d)), (2, .int 1)]) rfl rfl (by decide) rfl ?_
        refine z_goto (pc := 242) (tgt := 424) rfl (by decide) ?_
        refine z_aload_n (pc := 424) (i := 0) (j := 0) rfl rfl rfl ?_
        refine z_nmw (fun w7 hw7 => ?_)
        have hQ7 : rdQ T n w0 j0 p op cm (Y ++ [20]) w7 := by
          rw [hw7]
          exact rdQ_put hQ (by omega) 20
        refine z_cV (pc := 425) (mc1 := 0) (ms1 := 0) (mc2 := 0) (ms2 := 0) (as := []) (rest := []) (o := 44) rfl rfl (mK_R hk0 hQ7.1).1.1 ok_Mod_nextToken rfl rfl cl_Mod_174 (by omega) (Nat.le_of_ble_eq_true rfl) (Nat.le_of_ble_eq_true rfl) (Nat.le_refl _) (Nat.le_refl _) (c_Mod_nextToken (w := w7) (mK_R hk0 hQ7.1) (p := tEnd T n p) (tEnd_le hS.2.2.2.2.2) hQ7.2.1.1 1 (by decide)) (fun r1 w8 hp => ?_) rfl rfl
        obtain ⟨rfl, hF8, hS8⟩ := hp
        refine ⟨⟨by rw [hF8.1]; exact Nat.le_refl _, Or.inl (by rw [hF8.1])⟩, ?_⟩
        refine z_goto (pc := 428) (tgt := 11) rfl (by decide) ?_
        refine z_drop (ls' := [(0, .ref 44), (1, .int (nI d)), (2, .int 1)]) (by simp) ?_
        exact hH (tEnd_le hS.2.2.2.2.2) (by omega) (by rw [List.length_append]; show j0 + (Y.length + 1) ≤ _; omega) w8 (rdQ_nx hQ7 hF8 hS8)
    · first | exact absurd h185 (by decide) | exact absurd (by decide) h185
  · first | exact absurd h12 (by decide) | exact absurd (by decide) h12
set_option maxRecDepth 100000 in
set_option maxHeartbeats 4000000 in
theorem rd_B1m {T : Nat → Int32} {n L s j0 dd : Nat} {w0 : zW} {P : Option Value → zW → Prop} (hk0 : mK w0 n T) (hpl : (zI w0 44 21 = 0 ∧ ¬ L = s + 9) ∨ (zI w0 44 21 = 1 ∧ L = s + 9)) (hdd : 2 ≤ dd) (hj0 : 1000 ≤ j0 ∧ j0 ≤ 5000) {p d : Nat} {op cm : Nat → Int32} {Y : List Int32} (hc : tC T n p = 45) (hH : rdH T n w0 j0 dd P (tEnd T n p) d true op cm (Y ++ [21])) : rdH T n w0 j0 dd P p d false op cm Y := by
  intro hp hd5 hj w hQ
  have hk := mK_R hk0 hQ.1
  have hS := hQ.2.1
  have hj19 := hQ.2.2.2.2.1
  have hn1 := hk0.2.2.1
  have hlt : tBeg T n p < n := tC_lt (by rw [hc]; decide)
  have q3 := tEnd_lt hlt
  have q5 := tBeg_ge T n p
  refine z_iload_n (pc := 11) (i := 2) (j := 2) rfl rfl rfl ?_
  refine z_if_eq (pc := 12) (tgt := 179) rfl (by decide) (fun h12 => ?_) (fun h12 => ?_)
  · refine z_aload_n (pc := 179) (i := 0) (j := 0) rfl rfl rfl ?_
    refine z_bipush (pc := 180) (v := 43) rfl (by decide) ?_
    refine z_cV (pc := 182) (mc1 := 0) (ms1 := 0) (mc2 := 0) (ms2 := 0) (as := [.int 43]) (rest := []) (o := 44) rfl rfl hk.1.1 ok_Mod_isSign rfl rfl cl_Mod_164 (by omega) (Nat.le_of_ble_eq_true rfl) (Nat.le_of_ble_eq_true rfl) (Nat.le_refl _) (Nat.le_refl _) (c_Mod_isSign hk hS (c := 43) (by decide) 0) (fun r1 w1 hp => ?_) rfl rfl
    obtain ⟨rfl, hw1⟩ := hp
    rw [hw1]
    refine ⟨⟨Nat.le_refl _, Or.inl rfl⟩, ?_⟩
    refine z_eqi (y := 0) (if_neg (by rw [hc]; decide)) ?_
    refine z_if_ne (pc := 185) (tgt := 206) rfl (by decide) (fun h185 => ?_) (fun h185 => ?_)
    · first | exact absurd h185 (by decide) | exact absurd (by decide) h185
    · refine z_aload_n (pc := 188) (i := 0) (j := 0) rfl rfl rfl ?_
      refine z_bipush (pc := 189) (v := 45) rfl (by decide) ?_
      refine z_cV (pc := 191) (mc1 := 0) (ms1 := 0) (mc2 := 0) (ms2 := 0) (as := [.int 45]) (rest := []) (o := 44) rfl rfl hk.1.1 ok_Mod_isSign rfl rfl cl_Mod_164 (by omega) (Nat.le_of_ble_eq_true rfl) (Nat.le_of_ble_eq_true rfl) (Nat.le_refl _) (Nat.le_refl _) (c_Mod_isSign hk hS (c := 45) (by decide) 0) (fun r1 w1 hp => ?_) rfl rfl
      obtain ⟨rfl, hw1⟩ := hp
      rw [hw1]
      refine ⟨⟨Nat.le_refl _, Or.inl rfl⟩, ?_⟩
      refine z_eqi (y := 1) (if_pos hc) ?_
      refine z_if_ne (pc := 194) (tgt := 206) rfl (by decide) (fun h194 => ?_) (fun h194 => ?_)
      · refine z_aload_n (pc := 206) (i := 0) (j := 0) rfl rfl rfl ?_
        refine z_aload_n (pc := 207) (i := 0) (j := 0) rfl rfl rfl ?_
        refine z_bipush (pc := 208) (v := 43) rfl (by decide) ?_
        refine z_cV (pc := 210) (mc1 := 0) (ms1 := 0) (mc2 := 0) (ms2 := 0) (as := [.int 43]) (rest := [.ref 44]) (o := 44) rfl rfl hk.1.1 ok_Mod_isSign rfl rfl cl_Mod_164 (by omega) (Nat.le_of_ble_eq_true rfl) (Nat.le_of_ble_eq_true rfl) (Nat.le_refl _) (Nat.le_refl _) (c_Mod_isSign hk hS (c := 43) (by decide) 0) (fun r1 w1 hp => ?_) rfl rfl
        obtain ⟨rfl, hw1⟩ := hp
        rw [hw1]
        refine ⟨⟨Nat.le_refl _, Or.inl rfl⟩, ?_⟩
        refine z_eqi (y := 0) (if_neg (by rw [hc]; decide)) ?_
        refine z_if_eq (pc := 213) (tgt := 221) rfl (by decide) (fun h213 => ?_) (fun h213 => ?_)
        · refine z_aload_n (pc := 221) (i := 0) (j := 0) rfl rfl rfl ?_
          refine z_bipush (pc := 222) (v := 45) rfl (by decide) ?_
          refine z_cV (pc := 224) (mc1 := 0) (ms1 := 0) (mc2 := 0) (ms2 := 0) (as := [.int 45]) (rest := [.ref 44]) (o := 44) rfl rfl hk.1.1 ok_Mod_isSign rfl rfl cl_Mod_164 (by omega) (Nat.le_of_ble_eq_true rfl) (Nat.le_of_ble_eq_true rfl) (Nat.le_refl _) (Nat.le_refl _) (c_Mod_isSign hk hS (c := 45) (by decide) 0) (fun r1 w1 hp => ?_) rfl rfl
          obtain ⟨rfl, hw1⟩ := hp
          rw [hw1]
          refine ⟨⟨Nat.le_refl _, Or.inl rfl⟩, ?_⟩
          refine z_eqi (y := 1) (if_pos hc) ?_
          refine z_if_eq (pc := 227) (tgt := 235) rfl (by decide) (fun h227 => ?_) (fun h227 => ?_)
          · first | exact absurd h227 (by decide) | exact absurd (by decide) h227
          · refine z_bipush (pc := 230) (v := 21) rfl (by decide) ?_
            refine z_goto (pc := 232) (tgt := 237) rfl (by decide) ?_
            refine z_cV (pc := 237) (mc1 := 0) (ms1 := 0) (mc2 := 0) (ms2 := 0) (as := [.int 21]) (rest := []) (o := 44) rfl rfl hk.1.1 ok_Mod_puts rfl rfl cl_Mod_171 (by omega) (Nat.le_of_ble_eq_true rfl) (Nat.le_of_ble_eq_true rfl) (Nat.le_refl _) (Nat.le_refl _) (c_Mod_puts hk (j := j0 + Y.length) hj19 (by omega) 21 0) (fun r1 w1 hp => ?_) rfl rfl
            obtain ⟨rfl, hw1⟩ := hp
            rw [hw1]
            refine ⟨⟨Nat.le_refl _, Or.inl rfl⟩, ?_⟩
            refine z_iconst (pc := 240) (v := 1) rfl (by decide) ?_
            refine z_istore_n (pc := 241) (i := 2) (ls' := [(0, .ref 44), (1, .int (nI d)), (2, .int 1)]) rfl rfl (by decide) rfl ?_
            refine z_goto (pc := 242) (tgt := 424) rfl (by decide) ?_
            refine z_aload_n (pc := 424) (i := 0) (j := 0) rfl rfl rfl ?_
            refine z_nmw (fun w7 hw7 => ?_)
            have hQ7 : rdQ T n w0 j0 p op cm (Y ++ [21]) w7 := by
              rw [hw7]
              exact rdQ_put hQ (by omega) 21
            refine z_cV (pc := 425) (mc1 := 0) (ms1 := 0) (mc2 := 0) (ms2 := 0) (as := []) (rest := []) (o := 44) rfl rfl (mK_R hk0 hQ7.1).1.1 ok_Mod_nextToken rfl rfl cl_Mod_174 (by omega) (Nat.le_of_ble_eq_true rfl) (Nat.le_of_ble_eq_true rfl) (Nat.le_refl _) (Nat.le_refl _) (c_Mod_nextToken (w := w7) (mK_R hk0 hQ7.1) (p := tEnd T n p) (tEnd_le hS.2.2.2.2.2) hQ7.2.1.1 1 (by decide)) (fun r1 w8 hp => ?_) rfl rfl
            obtain ⟨rfl, hF8, hS8⟩ := hp
            refine ⟨⟨by rw [hF8.1]; exact Nat.le_refl _, Or.inl (by rw [hF8.1])⟩, ?_⟩
            refine z_goto (pc := 428) (tgt := 11) rfl (by decide) ?_
            refine z_drop (ls' := [(0, .ref 44), (1, .int (nI d)), (2, .int 1)]) (by simp) ?_
            exact hH (tEnd_le hS.2.2.2.2.2) (by omega) (by rw [List.length_append]; show j0 + (Y.length + 1) ≤ _; omega) w8 (rdQ_nx hQ7 hF8 hS8)
        · first | exact absurd h213 (by decide) | exact absurd (by decide) h213
      · first | exact absurd h194 (by decide) | exact absurd (by decide) h194
  · first | exact absurd h12 (by decide) | exact absurd (by decide) h12
set_option maxRecDepth 100000 in
set_option maxHeartbeats 4000000 in
theorem rd_B1t {T : Nat → Int32} {n L s j0 dd : Nat} {w0 : zW} {P : Option Value → zW → Prop} (hk0 : mK w0 n T) (hpl : (zI w0 44 21 = 0 ∧ ¬ L = s + 9) ∨ (zI w0 44 21 = 1 ∧ L = s + 9)) (hdd : 2 ≤ dd) (hj0 : 1000 ≤ j0 ∧ j0 ≤ 5000) {p d : Nat} {op cm : Nat → Int32} {Y : List Int32} (hc : tC T n p = 42) (hH : rdH T n w0 j0 dd P (tEnd T n p) d true op cm (Y ++ [22])) : rdH T n w0 j0 dd P p d false op cm Y := by
  intro hp hd5 hj w hQ
  have hk := mK_R hk0 hQ.1
  have hS := hQ.2.1
  have hj19 := hQ.2.2.2.2.1
  have hn1 := hk0.2.2.1
  have hlt : tBeg T n p < n := tC_lt (by rw [hc]; decide)
  have q3 := tEnd_lt hlt
  have q5 := tBeg_ge T n p
  refine z_iload_n (pc := 11) (i := 2) (j := 2) rfl rfl rfl ?_
  refine z_if_eq (pc := 12) (tgt := 179) rfl (by decide) (fun h12 => ?_) (fun h12 => ?_)
  · refine z_aload_n (pc := 179) (i := 0) (j := 0) rfl rfl rfl ?_
    refine z_bipush (pc := 180) (v := 43) rfl (by decide) ?_
    refine z_cV (pc := 182) (mc1 := 0) (ms1 := 0) (mc2 := 0) (ms2 := 0) (as := [.int 43]) (rest := []) (o := 44) rfl rfl hk.1.1 ok_Mod_isSign rfl rfl cl_Mod_164 (by omega) (Nat.le_of_ble_eq_true rfl) (Nat.le_of_ble_eq_true rfl) (Nat.le_refl _) (Nat.le_refl _) (c_Mod_isSign hk hS (c := 43) (by decide) 0) (fun r1 w1 hp => ?_) rfl rfl
    obtain ⟨rfl, hw1⟩ := hp
    rw [hw1]
    refine ⟨⟨Nat.le_refl _, Or.inl rfl⟩, ?_⟩
    refine z_eqi (y := 0) (if_neg (by rw [hc]; decide)) ?_
    refine z_if_ne (pc := 185) (tgt := 206) rfl (by decide) (fun h185 => ?_) (fun h185 => ?_)
    · first | exact absurd h185 (by decide) | exact absurd (by decide) h185
    · refine z_aload_n (pc := 188) (i := 0) (j := 0) rfl rfl rfl ?_
      refine z_bipush (pc := 189) (v := 45) rfl (by decide) ?_
      refine z_cV (pc := 191) (mc1 := 0) (ms1 := 0) (mc2 := 0) (ms2 := 0) (as := [.int 45]) (rest := []) (o := 44) rfl rfl hk.1.1 ok_Mod_isSign rfl rfl cl_Mod_164 (by omega) (Nat.le_of_ble_eq_true rfl) (Nat.le_of_ble_eq_true rfl) (Nat.le_refl _) (Nat.le_refl _) (c_Mod_isSign hk hS (c := 45) (by decide) 0) (fun r1 w1 hp => ?_) rfl rfl
      obtain ⟨rfl, hw1⟩ := hp
      rw [hw1]
      refine ⟨⟨Nat.le_refl _, Or.inl rfl⟩, ?_⟩
      refine z_eqi (y := 0) (if_neg (by rw [hc]; decide)) ?_
      refine z_if_ne (pc := 194) (tgt := 206) rfl (by decide) (fun h194 => ?_) (fun h194 => ?_)
      · first | exact absurd h194 (by decide) | exact absurd (by decide) h194
      · refine z_aload_n (pc := 197) (i := 0) (j := 0) rfl rfl rfl ?_
        refine z_bipush (pc := 198) (v := 42) rfl (by decide) ?_
        refine z_cV (pc := 200) (mc1 := 0) (ms1 := 0) (mc2 := 0) (ms2 := 0) (as := [.int 42]) (rest := []) (o := 44) rfl rfl hk.1.1 ok_Mod_isSign rfl rfl cl_Mod_164 (by omega) (Nat.le_of_ble_eq_true rfl) (Nat.le_of_ble_eq_true rfl) (Nat.le_refl _) (Nat.le_refl _) (c_Mod_isSign hk hS (c := 42) (by decide) 0) (fun r1 w1 hp => ?_) rfl rfl
        obtain ⟨rfl, hw1⟩ := hp
        rw [hw1]
        refine ⟨⟨Nat.le_refl _, Or.inl rfl⟩, ?_⟩
        refine z_eqi (y := 1) (if_pos hc) ?_
        refine z_if_eq (pc := 203) (tgt := 245) rfl (by decide) (fun h203 => ?_) (fun h203 => ?_)
        · first | exact absurd h203 (by decide) | exact absurd (by decide) h203
        · refine z_aload_n (pc := 206) (i := 0) (j := 0) rfl rfl rfl ?_
          refine z_aload_n (pc := 207) (i := 0) (j := 0) rfl rfl rfl ?_
          refine z_bipush (pc := 208) (v := 43) rfl (by decide) ?_
          refine z_cV (pc := 210) (mc1 := 0) (ms1 := 0) (mc2 := 0) (ms2 := 0) (as := [.int 43]) (rest := [.ref 44]) (o := 44) rfl rfl hk.1.1 ok_Mod_isSign rfl rfl cl_Mod_164 (by omega) (Nat.le_of_ble_eq_true rfl) (Nat.le_of_ble_eq_true rfl) (Nat.le_refl _) (Nat.le_refl _) (c_Mod_isSign hk hS (c := 43) (by decide) 0) (fun r1 w1 hp => ?_) rfl rfl
          obtain ⟨rfl, hw1⟩ := hp
          rw [hw1]
          refine ⟨⟨Nat.le_refl _, Or.inl rfl⟩, ?_⟩
          refine z_eqi (y := 0) (if_neg (by rw [hc]; decide)) ?_
          refine z_if_eq (pc := 213) (tgt := 221) rfl (by decide) (fun h213 => ?_) (fun h213 => ?_)
          · refine z_aload_n (pc := 221) (i := 0) (j := 0) rfl rfl rfl ?_
            refine z_bipush (pc := 222) (v := 45) rfl (by decide) ?_
            refine z_cV (pc := 224) (mc1 := 0) (ms1 := 0) (mc2 := 0) (ms2 := 0) (as := [.int 45]) (rest := [.ref 44]) (o := 44) rfl rfl hk.1.1 ok_Mod_isSign rfl rfl cl_Mod_164 (by omega) (Nat.le_of_ble_eq_true rfl) (Nat.le_of_ble_eq_true rfl) (Nat.le_refl _) (Nat.le_refl _) (c_Mod_isSign hk hS (c := 45) (by decide) 0) (fun r1 w1 hp => ?_) rfl rfl
            obtain ⟨rfl, hw1⟩ := hp
            rw [hw1]
            refine ⟨⟨Nat.le_refl _, Or.inl rfl⟩, ?_⟩
            refine z_eqi (y := 0) (if_neg (by rw [hc]; decide)) ?_
            refine z_if_eq (pc := 227) (tgt := 235) rfl (by decide) (fun h227 => ?_) (fun h227 => ?_)
            · refine z_bipush (pc := 235) (v := 22) rfl (by decide) ?_
              refine z_cV (pc := 237) (mc1 := 0) (ms1 := 0) (mc2 := 0) (ms2 := 0) (as := [.int 22]) (rest := []) (o := 44) rfl rfl hk.1.1 ok_Mod_puts rfl rfl cl_Mod_171 (by omega) (Nat.le_of_ble_eq_true rfl) (Nat.le_of_ble_eq_true rfl) (Nat.le_refl _) (Nat.le_refl _) (c_Mod_puts hk (j := j0 + Y.length) hj19 (by omega) 22 0) (fun r1 w1 hp => ?_) rfl rfl
              obtain ⟨rfl, hw1⟩ := hp
              rw [hw1]
              refine ⟨⟨Nat.le_refl _, Or.inl rfl⟩, ?_⟩
              refine z_iconst (pc := 240) (v := 1) rfl (by decide) ?_
              refine z_istore_n (pc := 241) (i := 2) (ls' := [(0, .ref 44), (1, .int (nI d)), (2, .int 1)]) rfl rfl (by decide) rfl ?_
              refine z_goto (pc := 242) (tgt := 424) rfl (by decide) ?_
              refine z_aload_n (pc := 424) (i := 0) (j := 0) rfl rfl rfl ?_
              refine z_nmw (fun w7 hw7 => ?_)
              have hQ7 : rdQ T n w0 j0 p op cm (Y ++ [22]) w7 := by
                rw [hw7]
                exact rdQ_put hQ (by omega) 22
              refine z_cV (pc := 425) (mc1 := 0) (ms1 := 0) (mc2 := 0) (ms2 := 0) (as := []) (rest := []) (o := 44) rfl rfl (mK_R hk0 hQ7.1).1.1 ok_Mod_nextToken rfl rfl cl_Mod_174 (by omega) (Nat.le_of_ble_eq_true rfl) (Nat.le_of_ble_eq_true rfl) (Nat.le_refl _) (Nat.le_refl _) (c_Mod_nextToken (w := w7) (mK_R hk0 hQ7.1) (p := tEnd T n p) (tEnd_le hS.2.2.2.2.2) hQ7.2.1.1 1 (by decide)) (fun r1 w8 hp => ?_) rfl rfl
              obtain ⟨rfl, hF8, hS8⟩ := hp
              refine ⟨⟨by rw [hF8.1]; exact Nat.le_refl _, Or.inl (by rw [hF8.1])⟩, ?_⟩
              refine z_goto (pc := 428) (tgt := 11) rfl (by decide) ?_
              refine z_drop (ls' := [(0, .ref 44), (1, .int (nI d)), (2, .int 1)]) (by simp) ?_
              exact hH (tEnd_le hS.2.2.2.2.2) (by omega) (by rw [List.length_append]; show j0 + (Y.length + 1) ≤ _; omega) w8 (rdQ_nx hQ7 hF8 hS8)
            · first | exact absurd h227 (by decide) | exact absurd (by decide) h227
          · first | exact absurd h213 (by decide) | exact absurd (by decide) h213
  · first | exact absurd h12 (by decide) | exact absurd (by decide) h12
set_option maxRecDepth 100000 in
set_option maxHeartbeats 4000000 in
theorem rd_B2l {T : Nat → Int32} {n L s j0 dd : Nat} {w0 : zW} {P : Option Value → zW → Prop} (hk0 : mK w0 n T) (hpl : (zI w0 44 21 = 0 ∧ ¬ L = s + 9) ∨ (zI w0 44 21 = 1 ∧ L = s + 9)) (hdd : 2 ≤ dd) (hj0 : 1000 ≤ j0 ∧ j0 ≤ 5000) {p d : Nat} {op cm : Nat → Int32} {Y : List Int32} (hc : tC T n p = 60) (hcm : cm d = 0) (hH : rdH T n w0 j0 dd P (tEnd T n p) d true op (upd cm d 1) (Y ++ [24])) : rdH T n w0 j0 dd P p d false op cm Y := by
  intro hp hd5 hj w hQ
  have hk := mK_R hk0 hQ.1
  have hS := hQ.2.1
  have hj19 := hQ.2.2.2.2.1
  have hn1 := hk0.2.2.1
  have hlt : tBeg T n p < n := tC_lt (by rw [hc]; decide)
  have q3 := tEnd_lt hlt
  have q5 := tBeg_ge T n p
  refine z_iload_n (pc := 11) (i := 2) (j := 2) rfl rfl rfl ?_
  refine z_if_eq (pc := 12) (tgt := 179) rfl (by decide) (fun h12 => ?_) (fun h12 => ?_)
  · refine z_aload_n (pc := 179) (i := 0) (j := 0) rfl rfl rfl ?_
    refine z_bipush (pc := 180) (v := 43) rfl (by decide) ?_
    refine z_cV (pc := 182) (mc1 := 0) (ms1 := 0) (mc2 := 0) (ms2 := 0) (as := [.int 43]) (rest := []) (o := 44) rfl rfl hk.1.1 ok_Mod_isSign rfl rfl cl_Mod_164 (by omega) (Nat.le_of_ble_eq_true rfl) (Nat.le_of_ble_eq_true rfl) (Nat.le_refl _) (Nat.le_refl _) (c_Mod_isSign hk hS (c := 43) (by decide) 0) (fun r1 w1 hp => ?_) rfl rfl
    obtain ⟨rfl, hw1⟩ := hp
    rw [hw1]
    refine ⟨⟨Nat.le_refl _, Or.inl rfl⟩, ?_⟩
    refine z_eqi (y := 0) (if_neg (by rw [hc]; decide)) ?_
    refine z_if_ne (pc := 185) (tgt := 206) rfl (by decide) (fun h185 => ?_) (fun h185 => ?_)
    · first | exact absurd h185 (by decide) | exact absurd (by decide) h185
    · refine z_aload_n (pc := 188) (i := 0) (j := 0) rfl rfl rfl ?_
      refine z_bipush (pc := 189) (v := 45) rfl (by decide) ?_
      refine z_cV (pc := 191) (mc1 := 0) (ms1 := 0) (mc2 := 0) (ms2 := 0) (as := [.int 45]) (rest := []) (o := 44) rfl rfl hk.1.1 ok_Mod_isSign rfl rfl cl_Mod_164 (by omega) (Nat.le_of_ble_eq_true rfl) (Nat.le_of_ble_eq_true rfl) (Nat.le_refl _) (Nat.le_refl _) (c_Mod_isSign hk hS (c := 45) (by decide) 0) (fun r1 w1 hp => ?_) rfl rfl
      obtain ⟨rfl, hw1⟩ := hp
      rw [hw1]
      refine ⟨⟨Nat.le_refl _, Or.inl rfl⟩, ?_⟩
      refine z_eqi (y := 0) (if_neg (by rw [hc]; decide)) ?_
      refine z_if_ne (pc := 194) (tgt := 206) rfl (by decide) (fun h194 => ?_) (fun h194 => ?_)
      · first | exact absurd h194 (by decide) | exact absurd (by decide) h194
      · refine z_aload_n (pc := 197) (i := 0) (j := 0) rfl rfl rfl ?_
        refine z_bipush (pc := 198) (v := 42) rfl (by decide) ?_
        refine z_cV (pc := 200) (mc1 := 0) (ms1 := 0) (mc2 := 0) (ms2 := 0) (as := [.int 42]) (rest := []) (o := 44) rfl rfl hk.1.1 ok_Mod_isSign rfl rfl cl_Mod_164 (by omega) (Nat.le_of_ble_eq_true rfl) (Nat.le_of_ble_eq_true rfl) (Nat.le_refl _) (Nat.le_refl _) (c_Mod_isSign hk hS (c := 42) (by decide) 0) (fun r1 w1 hp => ?_) rfl rfl
        obtain ⟨rfl, hw1⟩ := hp
        rw [hw1]
        refine ⟨⟨Nat.le_refl _, Or.inl rfl⟩, ?_⟩
        refine z_eqi (y := 0) (if_neg (by rw [hc]; decide)) ?_
        refine z_if_eq (pc := 203) (tgt := 245) rfl (by decide) (fun h203 => ?_) (fun h203 => ?_)
        · refine z_aload_n (pc := 245) (i := 0) (j := 0) rfl rfl rfl ?_
          refine z_bipush (pc := 246) (v := 60) rfl (by decide) ?_
          refine z_cV (pc := 248) (mc1 := 0) (ms1 := 0) (mc2 := 0) (ms2 := 0) (as := [.int 60]) (rest := []) (o := 44) rfl rfl hk.1.1 ok_Mod_isSign rfl rfl cl_Mod_164 (by omega) (Nat.le_of_ble_eq_true rfl) (Nat.le_of_ble_eq_true rfl) (Nat.le_refl _) (Nat.le_refl _) (c_Mod_isSign hk hS (c := 60) (by decide) 0) (fun r1 w1 hp => ?_) rfl rfl
          obtain ⟨rfl, hw1⟩ := hp
          rw [hw1]
          refine ⟨⟨Nat.le_refl _, Or.inl rfl⟩, ?_⟩
          refine z_eqi (y := 1) (if_pos hc) ?_
          refine z_if_ne (pc := 251) (tgt := 263) rfl (by decide) (fun h251 => ?_) (fun h251 => ?_)
          · refine z_aload_n (pc := 263) (i := 0) (j := 0) rfl rfl rfl ?_
            refine z_getR (pc := 264) (x := 56) rfl fl_Mod_44 hk.1.1 rfl (mr_56 hk.1) ?_
            refine z_iload_n (pc := 267) (i := 1) (j := 1) rfl rfl rfl ?_
            refine z_zald (pc := 268) rfl (mk_56 hk.1) (vp_in_nI (n := d) (N := 7) (by omega) (by decide)) ?_
            refine z_eqi (y := 0) (by rw [nI_clamp (by omega), hQ.2.2.2.1]; exact hcm) ?_
            refine z_if_ne (pc := 269) (tgt := 304) rfl (by decide) (fun h269 => ?_) (fun h269 => ?_)
            · first | exact absurd h269 (by decide) | exact absurd (by decide) h269
            · refine z_aload_n (pc := 272) (i := 0) (j := 0) rfl rfl rfl ?_
              refine z_aload_n (pc := 273) (i := 0) (j := 0) rfl rfl rfl ?_
              refine z_bipush (pc := 274) (v := 60) rfl (by decide) ?_
              refine z_cV (pc := 276) (mc1 := 0) (ms1 := 0) (mc2 := 0) (ms2 := 0) (as := [.int 60]) (rest := [.ref 44]) (o := 44) rfl rfl hk.1.1 ok_Mod_isSign rfl rfl cl_Mod_164 (by omega) (Nat.le_of_ble_eq_true rfl) (Nat.le_of_ble_eq_true rfl) (Nat.le_refl _) (Nat.le_refl _) (c_Mod_isSign hk hS (c := 60) (by decide) 0) (fun r1 w1 hp => ?_) rfl rfl
              obtain ⟨rfl, hw1⟩ := hp
              rw [hw1]
              refine ⟨⟨Nat.le_refl _, Or.inl rfl⟩, ?_⟩
              refine z_eqi (y := 1) (if_pos hc) ?_
              refine z_if_eq (pc := 279) (tgt := 287) rfl (by decide) (fun h279 => ?_) (fun h279 => ?_)
              · first | exact absurd h279 (by decide) | exact absurd (by decide) h279
              · refine z_bipush (pc := 282) (v := 24) rfl (by decide) ?_
                refine z_goto (pc := 284) (tgt := 289) rfl (by decide) ?_
                refine z_cV (pc := 289) (mc1 := 0) (ms1 := 0) (mc2 := 0) (ms2 := 0) (as := [.int 24]) (rest := []) (o := 44) rfl rfl hk.1.1 ok_Mod_puts rfl rfl cl_Mod_171 (by omega) (Nat.le_of_ble_eq_true rfl) (Nat.le_of_ble_eq_true rfl) (Nat.le_refl _) (Nat.le_refl _) (c_Mod_puts hk (j := j0 + Y.length) hj19 (by omega) 24 0) (fun r1 w1 hp => ?_) rfl rfl
                obtain ⟨rfl, hw1⟩ := hp
                rw [hw1]
                refine ⟨⟨Nat.le_refl _, Or.inl rfl⟩, ?_⟩
                refine z_aload_n (pc := 292) (i := 0) (j := 0) rfl rfl rfl ?_
                refine z_getR (pc := 293) (x := 56) rfl fl_Mod_44 hk.1.1 rfl (mr_56 hk.1) ?_
                refine z_iload_n (pc := 296) (i := 1) (j := 1) rfl rfl rfl ?_
                refine z_iconst (pc := 297) (v := 1) rfl (by decide) ?_
                refine z_zast (pc := 298) rfl (mk_56 hk.1) (vp_in_nI (n := d) (N := 7) (by omega) (by decide)) ?_
                refine z_iconst (pc := 299) (v := 1) rfl (by decide) ?_
                refine z_istore_n (pc := 300) (i := 2) (ls' := [(0, .ref 44), (1, .int (nI d)), (2, .int 1)]) rfl rfl (by decide) rfl ?_
                refine z_goto (pc := 301) (tgt := 424) rfl (by decide) ?_
                refine z_aload_n (pc := 424) (i := 0) (j := 0) rfl rfl rfl ?_
                refine z_nmw (fun w7 hw7 => ?_)
                have hQ7 : rdQ T n w0 j0 p op (upd cm d 1) (Y ++ [24]) w7 := by
                  rw [hw7, nI_clamp (n := d) (by omega)]
                  exact rdQ_56 (rdQ_put hQ (by omega) 24) d 1
                refine z_cV (pc := 425) (mc1 := 0) (ms1 := 0) (mc2 := 0) (ms2 := 0) (as := []) (rest := []) (o := 44) rfl rfl (mK_R hk0 hQ7.1).1.1 ok_Mod_nextToken rfl rfl cl_Mod_174 (by omega) (Nat.le_of_ble_eq_true rfl) (Nat.le_of_ble_eq_true rfl) (Nat.le_refl _) (Nat.le_refl _) (c_Mod_nextToken (w := w7) (mK_R hk0 hQ7.1) (p := tEnd T n p) (tEnd_le hS.2.2.2.2.2) hQ7.2.1.1 1 (by decide)) (fun r1 w8 hp => ?_) rfl rfl
                obtain ⟨rfl, hF8, hS8⟩ := hp
                refine ⟨⟨by rw [hF8.1]; exact Nat.le_refl _, Or.inl (by rw [hF8.1])⟩, ?_⟩
                refine z_goto (pc := 428) (tgt := 11) rfl (by decide) ?_
                refine z_drop (ls' := [(0, .ref 44), (1, .int (nI d)), (2, .int 1)]) (by simp) ?_
                exact hH (tEnd_le hS.2.2.2.2.2) (by omega) (by rw [List.length_append]; show j0 + (Y.length + 1) ≤ _; omega) w8 (rdQ_nx hQ7 hF8 hS8)
          · first | exact absurd h251 (by decide) | exact absurd (by decide) h251
        · first | exact absurd h203 (by decide) | exact absurd (by decide) h203
  · first | exact absurd h12 (by decide) | exact absurd (by decide) h12
set_option maxRecDepth 100000 in
set_option maxHeartbeats 4000000 in
theorem rd_B2e {T : Nat → Int32} {n L s j0 dd : Nat} {w0 : zW} {P : Option Value → zW → Prop} (hk0 : mK w0 n T) (hpl : (zI w0 44 21 = 0 ∧ ¬ L = s + 9) ∨ (zI w0 44 21 = 1 ∧ L = s + 9)) (hdd : 2 ≤ dd) (hj0 : 1000 ≤ j0 ∧ j0 ≤ 5000) {p d : Nat} {op cm : Nat → Int32} {Y : List Int32} (hc : tC T n p = 61) (hcm : cm d = 0) (hH : rdH T n w0 j0 dd P (tEnd T n p) d true op (upd cm d 1) (Y ++ [25])) : rdH T n w0 j0 dd P p d false op cm Y := by
  intro hp hd5 hj w hQ
  have hk := mK_R hk0 hQ.1
  have hS := hQ.2.1
  have hj19 := hQ.2.2.2.2.1
  have hn1 := hk0.2.2.1
  have hlt : tBeg T n p < n := tC_lt (by rw [hc]; decide)
  have q3 := tEnd_lt hlt
  have q5 := tBeg_ge T n p
  refine z_iload_n (pc := 11) (i := 2) (j := 2) rfl rfl rfl ?_
  refine z_if_eq (pc := 12) (tgt := 179) rfl (by decide) (fun h12 => ?_) (fun h12 => ?_)
  · refine z_aload_n (pc := 179) (i := 0) (j := 0) rfl rfl rfl ?_
    refine z_bipush (pc := 180) (v := 43) rfl (by decide) ?_
    refine z_cV (pc := 182) (mc1 := 0) (ms1 := 0) (mc2 := 0) (ms2 := 0) (as := [.int 43]) (rest := []) (o := 44) rfl rfl hk.1.1 ok_Mod_isSign rfl rfl cl_Mod_164 (by omega) (Nat.le_of_ble_eq_true rfl) (Nat.le_of_ble_eq_true rfl) (Nat.le_refl _) (Nat.le_refl _) (c_Mod_isSign hk hS (c := 43) (by decide) 0) (fun r1 w1 hp => ?_) rfl rfl
    obtain ⟨rfl, hw1⟩ := hp
    rw [hw1]
    refine ⟨⟨Nat.le_refl _, Or.inl rfl⟩, ?_⟩
    refine z_eqi (y := 0) (if_neg (by rw [hc]; decide)) ?_
    refine z_if_ne (pc := 185) (tgt := 206) rfl (by decide) (fun h185 => ?_) (fun h185 => ?_)
    · first | exact absurd h185 (by decide) | exact absurd (by decide) h185
    · refine z_aload_n (pc := 188) (i := 0) (j := 0) rfl rfl rfl ?_
      refine z_bipush (pc := 189) (v := 45) rfl (by decide) ?_
      refine z_cV (pc := 191) (mc1 := 0) (ms1 := 0) (mc2 := 0) (ms2 := 0) (as := [.int 45]) (rest := []) (o := 44) rfl rfl hk.1.1 ok_Mod_isSign rfl rfl cl_Mod_164 (by omega) (Nat.le_of_ble_eq_true rfl) (Nat.le_of_ble_eq_true rfl) (Nat.le_refl _) (Nat.le_refl _) (c_Mod_isSign hk hS (c := 45) (by decide) 0) (fun r1 w1 hp => ?_) rfl rfl
      obtain ⟨rfl, hw1⟩ := hp
      rw [hw1]
      refine ⟨⟨Nat.le_refl _, Or.inl rfl⟩, ?_⟩
      refine z_eqi (y := 0) (if_neg (by rw [hc]; decide)) ?_
      refine z_if_ne (pc := 194) (tgt := 206) rfl (by decide) (fun h194 => ?_) (fun h194 => ?_)
      · first | exact absurd h194 (by decide) | exact absurd (by decide) h194
      · refine z_aload_n (pc := 197) (i := 0) (j := 0) rfl rfl rfl ?_
        refine z_bipush (pc := 198) (v := 42) rfl (by decide) ?_
        refine z_cV (pc := 200) (mc1 := 0) (ms1 := 0) (mc2 := 0) (ms2 := 0) (as := [.int 42]) (rest := []) (o := 44) rfl rfl hk.1.1 ok_Mod_isSign rfl rfl cl_Mod_164 (by omega) (Nat.le_of_ble_eq_true rfl) (Nat.le_of_ble_eq_true rfl) (Nat.le_refl _) (Nat.le_refl _) (c_Mod_isSign hk hS (c := 42) (by decide) 0) (fun r1 w1 hp => ?_) rfl rfl
        obtain ⟨rfl, hw1⟩ := hp
        rw [hw1]
        refine ⟨⟨Nat.le_refl _, Or.inl rfl⟩, ?_⟩
        refine z_eqi (y := 0) (if_neg (by rw [hc]; decide)) ?_
        refine z_if_eq (pc := 203) (tgt := 245) rfl (by decide) (fun h203 => ?_) (fun h203 => ?_)
        · refine z_aload_n (pc := 245) (i := 0) (j := 0) rfl rfl rfl ?_
          refine z_bipush (pc := 246) (v := 60) rfl (by decide) ?_
          refine z_cV (pc := 248) (mc1 := 0) (ms1 := 0) (mc2 := 0) (ms2 := 0) (as := [.int 60]) (rest := []) (o := 44) rfl rfl hk.1.1 ok_Mod_isSign rfl rfl cl_Mod_164 (by omega) (Nat.le_of_ble_eq_true rfl) (Nat.le_of_ble_eq_true rfl) (Nat.le_refl _) (Nat.le_refl _) (c_Mod_isSign hk hS (c := 60) (by decide) 0) (fun r1 w1 hp => ?_) rfl rfl
          obtain ⟨rfl, hw1⟩ := hp
          rw [hw1]
          refine ⟨⟨Nat.le_refl _, Or.inl rfl⟩, ?_⟩
          refine z_eqi (y := 0) (if_neg (by rw [hc]; decide)) ?_
          refine z_if_ne (pc := 251) (tgt := 263) rfl (by decide) (fun h251 => ?_) (fun h251 => ?_)
          · first | exact absurd h251 (by decide) | exact absurd (by decide) h251
          · refine z_aload_n (pc := 254) (i := 0) (j := 0) rfl rfl rfl ?_
            refine z_bipush (pc := 255) (v := 61) rfl (by decide) ?_
            refine z_cV (pc := 257) (mc1 := 0) (ms1 := 0) (mc2 := 0) (ms2 := 0) (as := [.int 61]) (rest := []) (o := 44) rfl rfl hk.1.1 ok_Mod_isSign rfl rfl cl_Mod_164 (by omega) (Nat.le_of_ble_eq_true rfl) (Nat.le_of_ble_eq_true rfl) (Nat.le_refl _) (Nat.le_refl _) (c_Mod_isSign hk hS (c := 61) (by decide) 0) (fun r1 w1 hp => ?_) rfl rfl
            obtain ⟨rfl, hw1⟩ := hp
            rw [hw1]
            refine ⟨⟨Nat.le_refl _, Or.inl rfl⟩, ?_⟩
            refine z_eqi (y := 1) (if_pos hc) ?_
            refine z_if_eq (pc := 260) (tgt := 304) rfl (by decide) (fun h260 => ?_) (fun h260 => ?_)
            · first | exact absurd h260 (by decide) | exact absurd (by decide) h260
            · refine z_aload_n (pc := 263) (i := 0) (j := 0) rfl rfl rfl ?_
              refine z_getR (pc := 264) (x := 56) rfl fl_Mod_44 hk.1.1 rfl (mr_56 hk.1) ?_
              refine z_iload_n (pc := 267) (i := 1) (j := 1) rfl rfl rfl ?_
              refine z_zald (pc := 268) rfl (mk_56 hk.1) (vp_in_nI (n := d) (N := 7) (by omega) (by decide)) ?_
              refine z_eqi (y := 0) (by rw [nI_clamp (by omega), hQ.2.2.2.1]; exact hcm) ?_
              refine z_if_ne (pc := 269) (tgt := 304) rfl (by decide) (fun h269 => ?_) (fun h269 => ?_)
              · first | exact absurd h269 (by decide) | exact absurd (by decide) h269
              · refine z_aload_n (pc := 272) (i := 0) (j := 0) rfl rfl rfl ?_
                refine z_aload_n (pc := 273) (i := 0) (j := 0) rfl rfl rfl ?_
                refine z_bipush (pc := 274) (v := 60) rfl (by decide) ?_
                refine z_cV (pc := 276) (mc1 := 0) (ms1 := 0) (mc2 := 0) (ms2 := 0) (as := [.int 60]) (rest := [.ref 44]) (o := 44) rfl rfl hk.1.1 ok_Mod_isSign rfl rfl cl_Mod_164 (by omega) (Nat.le_of_ble_eq_true rfl) (Nat.le_of_ble_eq_true rfl) (Nat.le_refl _) (Nat.le_refl _) (c_Mod_isSign hk hS (c := 60) (by decide) 0) (fun r1 w1 hp => ?_) rfl rfl
                obtain ⟨rfl, hw1⟩ := hp
                rw [hw1]
                refine ⟨⟨Nat.le_refl _, Or.inl rfl⟩, ?_⟩
                refine z_eqi (y := 0) (if_neg (by rw [hc]; decide)) ?_
                refine z_if_eq (pc := 279) (tgt := 287) rfl (by decide) (fun h279 => ?_) (fun h279 => ?_)
                · refine z_bipush (pc := 287) (v := 25) rfl (by decide) ?_
                  refine z_cV (pc := 289) (mc1 := 0) (ms1 := 0) (mc2 := 0) (ms2 := 0) (as := [.int 25]) (rest := []) (o := 44) rfl rfl hk.1.1 ok_Mod_puts rfl rfl cl_Mod_171 (by omega) (Nat.le_of_ble_eq_true rfl) (Nat.le_of_ble_eq_true rfl) (Nat.le_refl _) (Nat.le_refl _) (c_Mod_puts hk (j := j0 + Y.length) hj19 (by omega) 25 0) (fun r1 w1 hp => ?_) rfl rfl
                  obtain ⟨rfl, hw1⟩ := hp
                  rw [hw1]
                  refine ⟨⟨Nat.le_refl _, Or.inl rfl⟩, ?_⟩
                  refine z_aload_n (pc := 292) (i := 0) (j := 0) rfl rfl rfl ?_
                  refine z_getR (pc := 293) (x := 56) rfl fl_Mod_44 hk.1.1 rfl (mr_56 hk.1) ?_
                  refine z_iload_n (pc := 296) (i := 1) (j := 1) rfl rfl rfl ?_
                  refine z_iconst (pc := 297) (v := 1) rfl (by decide) ?_
                  refine z_zast (pc := 298) rfl (mk_56 hk.1) (vp_in_nI (n := d) (N := 7) (by omega) (by decide)) ?_
                  refine z_iconst (pc := 299) (v := 1) rfl (by decide) ?_
                  refine z_istore_n (pc := 300) (i := 2) (ls' := [(0, .ref 44), (1, .int (nI d)), (2, .int 1)]) rfl rfl (by decide) rfl ?_
                  refine z_goto (pc := 301) (tgt := 424) rfl (by decide) ?_
                  refine z_aload_n (pc := 424) (i := 0) (j := 0) rfl rfl rfl ?_
                  refine z_nmw (fun w7 hw7 => ?_)
                  have hQ7 : rdQ T n w0 j0 p op (upd cm d 1) (Y ++ [25]) w7 := by
                    rw [hw7, nI_clamp (n := d) (by omega)]
                    exact rdQ_56 (rdQ_put hQ (by omega) 25) d 1
                  refine z_cV (pc := 425) (mc1 := 0) (ms1 := 0) (mc2 := 0) (ms2 := 0) (as := []) (rest := []) (o := 44) rfl rfl (mK_R hk0 hQ7.1).1.1 ok_Mod_nextToken rfl rfl cl_Mod_174 (by omega) (Nat.le_of_ble_eq_true rfl) (Nat.le_of_ble_eq_true rfl) (Nat.le_refl _) (Nat.le_refl _) (c_Mod_nextToken (w := w7) (mK_R hk0 hQ7.1) (p := tEnd T n p) (tEnd_le hS.2.2.2.2.2) hQ7.2.1.1 1 (by decide)) (fun r1 w8 hp => ?_) rfl rfl
                  obtain ⟨rfl, hF8, hS8⟩ := hp
                  refine ⟨⟨by rw [hF8.1]; exact Nat.le_refl _, Or.inl (by rw [hF8.1])⟩, ?_⟩
                  refine z_goto (pc := 428) (tgt := 11) rfl (by decide) ?_
                  refine z_drop (ls' := [(0, .ref 44), (1, .int (nI d)), (2, .int 1)]) (by simp) ?_
                  exact hH (tEnd_le hS.2.2.2.2.2) (by omega) (by rw [List.length_append]; show j0 + (Y.length + 1) ≤ _; omega) w8 (rdQ_nx hQ7 hF8 hS8)
                · first | exact absurd h279 (by decide) | exact absurd (by decide) h279
        · first | exact absurd h203 (by decide) | exact absurd (by decide) h203
  · first | exact absurd h12 (by decide) | exact absurd (by decide) h12
set_option maxRecDepth 100000 in
set_option maxHeartbeats 4000000 in
theorem rd_B3a {T : Nat → Int32} {n L s j0 dd : Nat} {w0 : zW} {P : Option Value → zW → Prop} (hk0 : mK w0 n T) (hpl : (zI w0 44 21 = 0 ∧ ¬ L = s + 9) ∨ (zI w0 44 21 = 1 ∧ L = s + 9)) (hdd : 2 ≤ dd) (hj0 : 1000 ≤ j0 ∧ j0 ≤ 5000) {p d : Nat} {op cm : Nat → Int32} {Y : List Int32} (hw : tW T n p = some 1000014) (hH : rdH T n w0 j0 dd P (tEnd T n p) d true op (upd cm d 0) (Y ++ [26])) : rdH T n w0 j0 dd P p d false op cm Y := by
  intro hp hd5 hj w hQ
  have hk := mK_R hk0 hQ.1
  have hS := hQ.2.1
  have hj19 := hQ.2.2.2.2.1
  have hn1 := hk0.2.2.1
  have hlt : tBeg T n p < n := tW_lt hw
  have q3 := tEnd_lt hlt
  have q5 := tBeg_ge T n p
  refine z_iload_n (pc := 11) (i := 2) (j := 2) rfl rfl rfl ?_
  refine z_if_eq (pc := 12) (tgt := 179) rfl (by decide) (fun h12 => ?_) (fun h12 => ?_)
  · refine z_aload_n (pc := 179) (i := 0) (j := 0) rfl rfl rfl ?_
    refine z_bipush (pc := 180) (v := 43) rfl (by decide) ?_
    refine z_cV (pc := 182) (mc1 := 0) (ms1 := 0) (mc2 := 0) (ms2 := 0) (as := [.int 43]) (rest := []) (o := 44) rfl rfl hk.1.1 ok_Mod_isSign rfl rfl cl_Mod_164 (by omega) (Nat.le_of_ble_eq_true rfl) (Nat.le_of_ble_eq_true rfl) (Nat.le_refl _) (Nat.le_refl _) (c_Mod_isSign hk hS (c := 43) (by decide) 0) (fun r1 w1 hp => ?_) rfl rfl
    obtain ⟨rfl, hw1⟩ := hp
    rw [hw1]
    refine ⟨⟨Nat.le_refl _, Or.inl rfl⟩, ?_⟩
    refine z_eqi (y := 0) (if_neg (by rw [tW_3 hw]; decide)) ?_
    refine z_if_ne (pc := 185) (tgt := 206) rfl (by decide) (fun h185 => ?_) (fun h185 => ?_)
    · first | exact absurd h185 (by decide) | exact absurd (by decide) h185
    · refine z_aload_n (pc := 188) (i := 0) (j := 0) rfl rfl rfl ?_
      refine z_bipush (pc := 189) (v := 45) rfl (by decide) ?_
      refine z_cV (pc := 191) (mc1 := 0) (ms1 := 0) (mc2 := 0) (ms2 := 0) (as := [.int 45]) (rest := []) (o := 44) rfl rfl hk.1.1 ok_Mod_isSign rfl rfl cl_Mod_164 (by omega) (Nat.le_of_ble_eq_true rfl) (Nat.le_of_ble_eq_true rfl) (Nat.le_refl _) (Nat.le_refl _) (c_Mod_isSign hk hS (c := 45) (by decide) 0) (fun r1 w1 hp => ?_) rfl rfl
      obtain ⟨rfl, hw1⟩ := hp
      rw [hw1]
      refine ⟨⟨Nat.le_refl _, Or.inl rfl⟩, ?_⟩
      refine z_eqi (y := 0) (if_neg (by rw [tW_3 hw]; decide)) ?_
      refine z_if_ne (pc := 194) (tgt := 206) rfl (by decide) (fun h194 => ?_) (fun h194 => ?_)
      · first | exact absurd h194 (by decide) | exact absurd (by decide) h194
      · refine z_aload_n (pc := 197) (i := 0) (j := 0) rfl rfl rfl ?_
        refine z_bipush (pc := 198) (v := 42) rfl (by decide) ?_
        refine z_cV (pc := 200) (mc1 := 0) (ms1 := 0) (mc2 := 0) (ms2 := 0) (as := [.int 42]) (rest := []) (o := 44) rfl rfl hk.1.1 ok_Mod_isSign rfl rfl cl_Mod_164 (by omega) (Nat.le_of_ble_eq_true rfl) (Nat.le_of_ble_eq_true rfl) (Nat.le_refl _) (Nat.le_refl _) (c_Mod_isSign hk hS (c := 42) (by decide) 0) (fun r1 w1 hp => ?_) rfl rfl
        obtain ⟨rfl, hw1⟩ := hp
        rw [hw1]
        refine ⟨⟨Nat.le_refl _, Or.inl rfl⟩, ?_⟩
        refine z_eqi (y := 0) (if_neg (by rw [tW_3 hw]; decide)) ?_
        refine z_if_eq (pc := 203) (tgt := 245) rfl (by decide) (fun h203 => ?_) (fun h203 => ?_)
        · refine z_aload_n (pc := 245) (i := 0) (j := 0) rfl rfl rfl ?_
          refine z_bipush (pc := 246) (v := 60) rfl (by decide) ?_
          refine z_cV (pc := 248) (mc1 := 0) (ms1 := 0) (mc2 := 0) (ms2 := 0) (as := [.int 60]) (rest := []) (o := 44) rfl rfl hk.1.1 ok_Mod_isSign rfl rfl cl_Mod_164 (by omega) (Nat.le_of_ble_eq_true rfl) (Nat.le_of_ble_eq_true rfl) (Nat.le_refl _) (Nat.le_refl _) (c_Mod_isSign hk hS (c := 60) (by decide) 0) (fun r1 w1 hp => ?_) rfl rfl
          obtain ⟨rfl, hw1⟩ := hp
          rw [hw1]
          refine ⟨⟨Nat.le_refl _, Or.inl rfl⟩, ?_⟩
          refine z_eqi (y := 0) (if_neg (by rw [tW_3 hw]; decide)) ?_
          refine z_if_ne (pc := 251) (tgt := 263) rfl (by decide) (fun h251 => ?_) (fun h251 => ?_)
          · first | exact absurd h251 (by decide) | exact absurd (by decide) h251
          · refine z_aload_n (pc := 254) (i := 0) (j := 0) rfl rfl rfl ?_
            refine z_bipush (pc := 255) (v := 61) rfl (by decide) ?_
            refine z_cV (pc := 257) (mc1 := 0) (ms1 := 0) (mc2 := 0) (ms2 := 0) (as := [.int 61]) (rest := []) (o := 44) rfl rfl hk.1.1 ok_Mod_isSign rfl rfl cl_Mod_164 (by omega) (Nat.le_of_ble_eq_true rfl) (Nat.le_of_ble_eq_true rfl) (Nat.le_refl _) (Nat.le_refl _) (c_Mod_isSign hk hS (c := 61) (by decide) 0) (fun r1 w1 hp => ?_) rfl rfl
            obtain ⟨rfl, hw1⟩ := hp
            rw [hw1]
            refine ⟨⟨Nat.le_refl _, Or.inl rfl⟩, ?_⟩
            refine z_eqi (y := 0) (if_neg (by rw [tW_3 hw]; decide)) ?_
            refine z_if_eq (pc := 260) (tgt := 304) rfl (by decide) (fun h260 => ?_) (fun h260 => ?_)
            · refine z_aload_n (pc := 304) (i := 0) (j := 0) rfl rfl rfl ?_
              refine z_ldc2 (pc := 305) (v := 1111) rfl kl_Mod_177 ?_
              refine z_cV (pc := 308) (mc1 := 0) (ms1 := 0) (mc2 := 0) (ms2 := 0) (as := [.long 1111]) (rest := []) (o := 44) rfl rfl hk.1.1 ok_Mod_isWord rfl rfl cl_Mod_160 (by omega) (Nat.le_of_ble_eq_true rfl) (Nat.le_of_ble_eq_true rfl) (Nat.le_refl _) (Nat.le_refl _) (c_wd hk hS (i := 14) (by decide) (x := 1111) rfl 0) (fun r1 w1 hp => ?_) rfl rfl
              obtain ⟨rfl, hw1⟩ := hp
              rw [hw1]
              refine ⟨⟨Nat.le_refl _, Or.inl rfl⟩, ?_⟩
              refine z_eqi (y := 1) (if_pos hw) ?_
              refine z_if_ne (pc := 311) (tgt := 324) rfl (by decide) (fun h311 => ?_) (fun h311 => ?_)
              · refine z_aload_n (pc := 324) (i := 0) (j := 0) rfl rfl rfl ?_
                refine z_aload_n (pc := 325) (i := 0) (j := 0) rfl rfl rfl ?_
                refine z_ldc2 (pc := 326) (v := 1111) rfl kl_Mod_177 ?_
                refine z_cV (pc := 329) (mc1 := 0) (ms1 := 0) (mc2 := 0) (ms2 := 0) (as := [.long 1111]) (rest := [.ref 44]) (o := 44) rfl rfl hk.1.1 ok_Mod_isWord rfl rfl cl_Mod_160 (by omega) (Nat.le_of_ble_eq_true rfl) (Nat.le_of_ble_eq_true rfl) (Nat.le_refl _) (Nat.le_refl _) (c_wd hk hS (i := 14) (by decide) (x := 1111) rfl 0) (fun r1 w1 hp => ?_) rfl rfl
                obtain ⟨rfl, hw1⟩ := hp
                rw [hw1]
                refine ⟨⟨Nat.le_refl _, Or.inl rfl⟩, ?_⟩
                refine z_eqi (y := 1) (if_pos hw) ?_
                refine z_if_eq (pc := 332) (tgt := 340) rfl (by decide) (fun h332 => ?_) (fun h332 => ?_)
                · first | exact absurd h332 (by decide) | exact absurd (by decide) h332
                · refine z_bipush (pc := 335) (v := 26) rfl (by decide) ?_
                  refine z_goto (pc := 337) (tgt := 342) rfl (by decide) ?_
                  refine z_cV (pc := 342) (mc1 := 0) (ms1 := 0) (mc2 := 0) (ms2 := 0) (as := [.int 26]) (rest := []) (o := 44) rfl rfl hk.1.1 ok_Mod_puts rfl rfl cl_Mod_171 (by omega) (Nat.le_of_ble_eq_true rfl) (Nat.le_of_ble_eq_true rfl) (Nat.le_refl _) (Nat.le_refl _) (c_Mod_puts hk (j := j0 + Y.length) hj19 (by omega) 26 0) (fun r1 w1 hp => ?_) rfl rfl
                  obtain ⟨rfl, hw1⟩ := hp
                  rw [hw1]
                  refine ⟨⟨Nat.le_refl _, Or.inl rfl⟩, ?_⟩
                  refine z_aload_n (pc := 345) (i := 0) (j := 0) rfl rfl rfl ?_
                  refine z_getR (pc := 346) (x := 56) rfl fl_Mod_44 hk.1.1 rfl (mr_56 hk.1) ?_
                  refine z_iload_n (pc := 349) (i := 1) (j := 1) rfl rfl rfl ?_
                  refine z_iconst (pc := 350) (v := 0) rfl (by decide) ?_
                  refine z_zast (pc := 351) rfl (mk_56 hk.1) (vp_in_nI (n := d) (N := 7) (by omega) (by decide)) ?_
                  refine z_iconst (pc := 352) (v := 1) rfl (by decide) ?_
                  refine z_istore_n (pc := 353) (i := 2) (ls' := [(0, .ref 44), (1, .int (nI d)), (2, .int 1)]) rfl rfl (by decide) rfl ?_
                  refine z_goto (pc := 354) (tgt := 424) rfl (by decide) ?_
                  refine z_aload_n (pc := 424) (i := 0) (j := 0) rfl rfl rfl ?_
                  refine z_nmw (fun w7 hw7 => ?_)
                  have hQ7 : rdQ T n w0 j0 p op (upd cm d 0) (Y ++ [26]) w7 := by
                    rw [hw7, nI_clamp (n := d) (by omega)]
                    exact rdQ_56 (rdQ_put hQ (by omega) 26) d 0
                  refine z_cV (pc := 425) (mc1 := 0) (ms1 := 0) (mc2 := 0) (ms2 := 0) (as := []) (rest := []) (o := 44) rfl rfl (mK_R hk0 hQ7.1).1.1 ok_Mod_nextToken rfl rfl cl_Mod_174 (by omega) (Nat.le_of_ble_eq_true rfl) (Nat.le_of_ble_eq_true rfl) (Nat.le_refl _) (Nat.le_refl _) (c_Mod_nextToken (w := w7) (mK_R hk0 hQ7.1) (p := tEnd T n p) (tEnd_le hS.2.2.2.2.2) hQ7.2.1.1 1 (by decide)) (fun r1 w8 hp => ?_) rfl rfl
                  obtain ⟨rfl, hF8, hS8⟩ := hp
                  refine ⟨⟨by rw [hF8.1]; exact Nat.le_refl _, Or.inl (by rw [hF8.1])⟩, ?_⟩
                  refine z_goto (pc := 428) (tgt := 11) rfl (by decide) ?_
                  refine z_drop (ls' := [(0, .ref 44), (1, .int (nI d)), (2, .int 1)]) (by simp) ?_
                  exact hH (tEnd_le hS.2.2.2.2.2) (by omega) (by rw [List.length_append]; show j0 + (Y.length + 1) ≤ _; omega) w8 (rdQ_nx hQ7 hF8 hS8)
              · first | exact absurd h311 (by decide) | exact absurd (by decide) h311
            · first | exact absurd h260 (by decide) | exact absurd (by decide) h260
        · first | exact absurd h203 (by decide) | exact absurd (by decide) h203
  · first | exact absurd h12 (by decide) | exact absurd (by decide) h12
set_option maxRecDepth 100000 in
set_option maxHeartbeats 4000000 in
theorem rd_B3o {T : Nat → Int32} {n L s j0 dd : Nat} {w0 : zW} {P : Option Value → zW → Prop} (hk0 : mK w0 n T) (hpl : (zI w0 44 21 = 0 ∧ ¬ L = s + 9) ∨ (zI w0 44 21 = 1 ∧ L = s + 9)) (hdd : 2 ≤ dd) (hj0 : 1000 ≤ j0 ∧ j0 ≤ 5000) {p d : Nat} {op cm : Nat → Int32} {Y : List Int32} (hw : tW T n p = some 1000015) (hH : rdH T n w0 j0 dd P (tEnd T n p) d true op (upd cm d 0) (Y ++ [27])) : rdH T n w0 j0 dd P p d false op cm Y := by
  intro hp hd5 hj w hQ
  have hk := mK_R hk0 hQ.1
  have hS := hQ.2.1
  have hj19 := hQ.2.2.2.2.1
  have hn1 := hk0.2.2.1
  have hlt : tBeg T n p < n := tW_lt hw
  have q3 := tEnd_lt hlt
  have q5 := tBeg_ge T n p
  refine z_iload_n (pc := 11) (i := 2) (j := 2) rfl rfl rfl ?_
  refine z_if_eq (pc := 12) (tgt := 179) rfl (by decide) (fun h12 => ?_) (fun h12 => ?_)
  · refine z_aload_n (pc := 179) (i := 0) (j := 0) rfl rfl rfl ?_
    refine z_bipush (pc := 180) (v := 43) rfl (by decide) ?_
    refine z_cV (pc := 182) (mc1 := 0) (ms1 := 0) (mc2 := 0) (ms2 := 0) (as := [.int 43]) (rest := []) (o := 44) rfl rfl hk.1.1 ok_Mod_isSign rfl rfl cl_Mod_164 (by omega) (Nat.le_of_ble_eq_true rfl) (Nat.le_of_ble_eq_true rfl) (Nat.le_refl _) (Nat.le_refl _) (c_Mod_isSign hk hS (c := 43) (by decide) 0) (fun r1 w1 hp => ?_) rfl rfl
    obtain ⟨rfl, hw1⟩ := hp
    rw [hw1]
    refine ⟨⟨Nat.le_refl _, Or.inl rfl⟩, ?_⟩
    refine z_eqi (y := 0) (if_neg (by rw [tW_3 hw]; decide)) ?_
    refine z_if_ne (pc := 185) (tgt := 206) rfl (by decide) (fun h185 => ?_) (fun h185 => ?_)
    · first | exact absurd h185 (by decide) | exact absurd (by decide) h185
    · refine z_aload_n (pc := 188) (i := 0) (j := 0) rfl rfl rfl ?_
      refine z_bipush (pc := 189) (v := 45) rfl (by decide) ?_
      refine z_cV (pc := 191) (mc1 := 0) (ms1 := 0) (mc2 := 0) (ms2 := 0) (as := [.int 45]) (rest := []) (o := 44) rfl rfl hk.1.1 ok_Mod_isSign rfl rfl cl_Mod_164 (by omega) (Nat.le_of_ble_eq_true rfl) (Nat.le_of_ble_eq_true rfl) (Nat.le_refl _) (Nat.le_refl _) (c_Mod_isSign hk hS (c := 45) (by decide) 0) (fun r1 w1 hp => ?_) rfl rfl
      obtain ⟨rfl, hw1⟩ := hp
      rw [hw1]
      refine ⟨⟨Nat.le_refl _, Or.inl rfl⟩, ?_⟩
      refine z_eqi (y := 0) (if_neg (by rw [tW_3 hw]; decide)) ?_
      refine z_if_ne (pc := 194) (tgt := 206) rfl (by decide) (fun h194 => ?_) (fun h194 => ?_)
      · first | exact absurd h194 (by decide) | exact absurd (by decide) h194
      · refine z_aload_n (pc := 197) (i := 0) (j := 0) rfl rfl rfl ?_
        refine z_bipush (pc := 198) (v := 42) rfl (by decide) ?_
        refine z_cV (pc := 200) (mc1 := 0) (ms1 := 0) (mc2 := 0) (ms2 := 0) (as := [.int 42]) (rest := []) (o := 44) rfl rfl hk.1.1 ok_Mod_isSign rfl rfl cl_Mod_164 (by omega) (Nat.le_of_ble_eq_true rfl) (Nat.le_of_ble_eq_true rfl) (Nat.le_refl _) (Nat.le_refl _) (c_Mod_isSign hk hS (c := 42) (by decide) 0) (fun r1 w1 hp => ?_) rfl rfl
        obtain ⟨rfl, hw1⟩ := hp
        rw [hw1]
        refine ⟨⟨Nat.le_refl _, Or.inl rfl⟩, ?_⟩
        refine z_eqi (y := 0) (if_neg (by rw [tW_3 hw]; decide)) ?_
        refine z_if_eq (pc := 203) (tgt := 245) rfl (by decide) (fun h203 => ?_) (fun h203 => ?_)
        · refine z_aload_n (pc := 245) (i := 0) (j := 0) rfl rfl rfl ?_
          refine z_bipush (pc := 246) (v := 60) rfl (by decide) ?_
          refine z_cV (pc := 248) (mc1 := 0) (ms1 := 0) (mc2 := 0) (ms2 := 0) (as := [.int 60]) (rest := []) (o := 44) rfl rfl hk.1.1 ok_Mod_isSign rfl rfl cl_Mod_164 (by omega) (Nat.le_of_ble_eq_true rfl) (Nat.le_of_ble_eq_true rfl) (Nat.le_refl _) (Nat.le_refl _) (c_Mod_isSign hk hS (c := 60) (by decide) 0) (fun r1 w1 hp => ?_) rfl rfl
          obtain ⟨rfl, hw1⟩ := hp
          rw [hw1]
          refine ⟨⟨Nat.le_refl _, Or.inl rfl⟩, ?_⟩
          refine z_eqi (y := 0) (if_neg (by rw [tW_3 hw]; decide)) ?_
          refine z_if_ne (pc := 251) (tgt := 263) rfl (by decide) (fun h251 => ?_) (fun h251 => ?_)
          · first | exact absurd h251 (by decide) | exact absurd (by decide) h251
          · refine z_aload_n (pc := 254) (i := 0) (j := 0) rfl rfl rfl ?_
            refine z_bipush (pc := 255) (v := 61) rfl (by decide) ?_
            refine z_cV (pc := 257) (mc1 := 0) (ms1 := 0) (mc2 := 0) (ms2 := 0) (as := [.int 61]) (rest := []) (o := 44) rfl rfl hk.1.1 ok_Mod_isSign rfl rfl cl_Mod_164 (by omega) (Nat.le_of_ble_eq_true rfl) (Nat.le_of_ble_eq_true rfl) (Nat.le_refl _) (Nat.le_refl _) (c_Mod_isSign hk hS (c := 61) (by decide) 0) (fun r1 w1 hp => ?_) rfl rfl
            obtain ⟨rfl, hw1⟩ := hp
            rw [hw1]
            refine ⟨⟨Nat.le_refl _, Or.inl rfl⟩, ?_⟩
            refine z_eqi (y := 0) (if_neg (by rw [tW_3 hw]; decide)) ?_
            refine z_if_eq (pc := 260) (tgt := 304) rfl (by decide) (fun h260 => ?_) (fun h260 => ?_)
            · refine z_aload_n (pc := 304) (i := 0) (j := 0) rfl rfl rfl ?_
              refine z_ldc2 (pc := 305) (v := 1111) rfl kl_Mod_177 ?_
              refine z_cV (pc := 308) (mc1 := 0) (ms1 := 0) (mc2 := 0) (ms2 := 0) (as := [.long 1111]) (rest := []) (o := 44) rfl rfl hk.1.1 ok_Mod_isWord rfl rfl cl_Mod_160 (by omega) (Nat.le_of_ble_eq_true rfl) (Nat.le_of_ble_eq_true rfl) (Nat.le_refl _) (Nat.le_refl _) (c_wd hk hS (i := 14) (by decide) (x := 1111) rfl 0) (fun r1 w1 hp => ?_) rfl rfl
              obtain ⟨rfl, hw1⟩ := hp
              rw [hw1]
              refine ⟨⟨Nat.le_refl _, Or.inl rfl⟩, ?_⟩
              refine z_eqi (y := 0) (if_neg (by rw [hw]; decide)) ?_
              refine z_if_ne (pc := 311) (tgt := 324) rfl (by decide) (fun h311 => ?_) (fun h311 => ?_)
              · first | exact absurd h311 (by decide) | exact absurd (by decide) h311
              · refine z_aload_n (pc := 314) (i := 0) (j := 0) rfl rfl rfl ?_
                refine z_ldc2 (pc := 315) (v := 423) rfl kl_Mod_179 ?_
                refine z_cV (pc := 318) (mc1 := 0) (ms1 := 0) (mc2 := 0) (ms2 := 0) (as := [.long 423]) (rest := []) (o := 44) rfl rfl hk.1.1 ok_Mod_isWord rfl rfl cl_Mod_160 (by omega) (Nat.le_of_ble_eq_true rfl) (Nat.le_of_ble_eq_true rfl) (Nat.le_refl _) (Nat.le_refl _) (c_wd hk hS (i := 15) (by decide) (x := 423) rfl 0) (fun r1 w1 hp => ?_) rfl rfl
                obtain ⟨rfl, hw1⟩ := hp
                rw [hw1]
                refine ⟨⟨Nat.le_refl _, Or.inl rfl⟩, ?_⟩
                refine z_eqi (y := 1) (if_pos hw) ?_
                refine z_if_eq (pc := 321) (tgt := 357) rfl (by decide) (fun h321 => ?_) (fun h321 => ?_)
                · first | exact absurd h321 (by decide) | exact absurd (by decide) h321
                · refine z_aload_n (pc := 324) (i := 0) (j := 0) rfl rfl rfl ?_
                  refine z_aload_n (pc := 325) (i := 0) (j := 0) rfl rfl rfl ?_
                  refine z_ldc2 (pc := 326) (v := 1111) rfl kl_Mod_177 ?_
                  refine z_cV (pc := 329) (mc1 := 0) (ms1 := 0) (mc2 := 0) (ms2 := 0) (as := [.long 1111]) (rest := [.ref 44]) (o := 44) rfl rfl hk.1.1 ok_Mod_isWord rfl rfl cl_Mod_160 (by omega) (Nat.le_of_ble_eq_true rfl) (Nat.le_of_ble_eq_true rfl) (Nat.le_refl _) (Nat.le_refl _) (c_wd hk hS (i := 14) (by decide) (x := 1111) rfl 0) (fun r1 w1 hp => ?_) rfl rfl
                  obtain ⟨rfl, hw1⟩ := hp
                  rw [hw1]
                  refine ⟨⟨Nat.le_refl _, Or.inl rfl⟩, ?_⟩
                  refine z_eqi (y := 0) (if_neg (by rw [hw]; decide)) ?_
                  refine z_if_eq (pc := 332) (tgt := 340) rfl (by decide) (fun h332 => ?_) (fun h332 => ?_)
                  · refine z_bipush (pc := 340) (v := 27) rfl (by decide) ?_
                    refine z_cV (pc := 342) (mc1 := 0) (ms1 := 0) (mc2 := 0) (ms2 := 0) (as := [.int 27]) (rest := []) (o := 44) rfl rfl hk.1.1 ok_Mod_puts rfl rfl cl_Mod_171 (by omega) (Nat.le_of_ble_eq_true rfl) (Nat.le_of_ble_eq_true rfl) (Nat.le_refl _) (Nat.le_refl _) (c_Mod_puts hk (j := j0 + Y.length) hj19 (by omega) 27 0) (fun r1 w1 hp => ?_) rfl rfl
                    obtain ⟨rfl, hw1⟩ := hp
                    rw [hw1]
                    refine ⟨⟨Nat.le_refl _, Or.inl rfl⟩, ?_⟩
                    refine z_aload_n (pc := 345) (i := 0) (j := 0) rfl rfl rfl ?_
                    refine z_getR (pc := 346) (x := 56) rfl fl_Mod_44 hk.1.1 rfl (mr_56 hk.1) ?_
                    refine z_iload_n (pc := 349) (i := 1) (j := 1) rfl rfl rfl ?_
                    refine z_iconst (pc := 350) (v := 0) rfl (by decide) ?_
                    refine z_zast (pc := 351) rfl (mk_56 hk.1) (vp_in_nI (n := d) (N := 7) (by omega) (by decide)) ?_
                    refine z_iconst (pc := 352) (v := 1) rfl (by decide) ?_
                    refine z_istore_n (pc := 353) (i := 2) (ls' := [(0, .ref 44), (1, .int (nI d)), (2, .int 1)]) rfl rfl (by decide) rfl ?_
                    refine z_goto (pc := 354) (tgt := 424) rfl (by decide) ?_
                    refine z_aload_n (pc := 424) (i := 0) (j := 0) rfl rfl rfl ?_
                    refine z_nmw (fun w7 hw7 => ?_)
                    have hQ7 : rdQ T n w0 j0 p op (upd cm d 0) (Y ++ [27]) w7 := by
                      rw [hw7, nI_clamp (n := d) (by omega)]
                      exact rdQ_56 (rdQ_put hQ (by omega) 27) d 0
                    refine z_cV (pc := 425) (mc1 := 0) (ms1 := 0) (mc2 := 0) (ms2 := 0) (as := []) (rest := []) (o := 44) rfl rfl (mK_R hk0 hQ7.1).1.1 ok_Mod_nextToken rfl rfl cl_Mod_174 (by omega) (Nat.le_of_ble_eq_true rfl) (Nat.le_of_ble_eq_true rfl) (Nat.le_refl _) (Nat.le_refl _) (c_Mod_nextToken (w := w7) (mK_R hk0 hQ7.1) (p := tEnd T n p) (tEnd_le hS.2.2.2.2.2) hQ7.2.1.1 1 (by decide)) (fun r1 w8 hp => ?_) rfl rfl
                    obtain ⟨rfl, hF8, hS8⟩ := hp
                    refine ⟨⟨by rw [hF8.1]; exact Nat.le_refl _, Or.inl (by rw [hF8.1])⟩, ?_⟩
                    refine z_goto (pc := 428) (tgt := 11) rfl (by decide) ?_
                    refine z_drop (ls' := [(0, .ref 44), (1, .int (nI d)), (2, .int 1)]) (by simp) ?_
                    exact hH (tEnd_le hS.2.2.2.2.2) (by omega) (by rw [List.length_append]; show j0 + (Y.length + 1) ≤ _; omega) w8 (rdQ_nx hQ7 hF8 hS8)
                  · first | exact absurd h332 (by decide) | exact absurd (by decide) h332
            · first | exact absurd h260 (by decide) | exact absurd (by decide) h260
        · first | exact absurd h203 (by decide) | exact absurd (by decide) h203
  · first | exact absurd h12 (by decide) | exact absurd (by decide) h12
set_option maxRecDepth 100000 in
set_option maxHeartbeats 4000000 in
theorem rd_B4 {T : Nat → Int32} {n L s j0 dd : Nat} {w0 : zW} {P : Option Value → zW → Prop} (hk0 : mK w0 n T) (hpl : (zI w0 44 21 = 0 ∧ ¬ L = s + 9) ∨ (zI w0 44 21 = 1 ∧ L = s + 9)) (hdd : 2 ≤ dd) (hj0 : 1000 ≤ j0 ∧ j0 ≤ 5000) {p d : Nat} {op cm : Nat → Int32} {Y : List Int32} (hc : tC T n p = 41) (hH : rdH T n w0 j0 dd P (tEnd T n p) (pd op d) false op cm (Y ++ [29])) : rdH T n w0 j0 dd P p (d + 1) false op cm Y := by
  intro hp hd5 hj w hQ
  have hk := mK_R hk0 hQ.1
  have hS := hQ.2.1
  have hj19 := hQ.2.2.2.2.1
  have hn1 := hk0.2.2.1
  have hlt : tBeg T n p < n := tC_lt (by rw [hc]; decide)
  have q3 := tEnd_lt hlt
  have q5 := tBeg_ge T n p
  have hpd : pd op d ≤ d := pd_le op d
  refine z_iload_n (pc := 11) (i := 2) (j := 2) rfl rfl rfl ?_
  refine z_if_eq (pc := 12) (tgt := 179) rfl (by decide) (fun h12 => ?_) (fun h12 => ?_)
  · refine z_aload_n (pc := 179) (i := 0) (j := 0) rfl rfl rfl ?_
    refine z_bipush (pc := 180) (v := 43) rfl (by decide) ?_
    refine z_cV (pc := 182) (mc1 := 0) (ms1 := 0) (mc2 := 0) (ms2 := 0) (as := [.int 43]) (rest := []) (o := 44) rfl rfl hk.1.1 ok_Mod_isSign rfl rfl cl_Mod_164 (by omega) (Nat.le_of_ble_eq_true rfl) (Nat.le_of_ble_eq_true rfl) (Nat.le_refl _) (Nat.le_refl _) (c_Mod_isSign hk hS (c := 43) (by decide) 0) (fun r1 w1 hp => ?_) rfl rfl
    obtain ⟨rfl, hw1⟩ := hp
    rw [hw1]
    refine ⟨⟨Nat.le_refl _, Or.inl rfl⟩, ?_⟩
    refine z_eqi (y := 0) (if_neg (by rw [hc]; decide)) ?_
    refine z_if_ne (pc := 185) (tgt := 206) rfl (by decide) (fun h185 => ?_) (fun h185 => ?_)
    · first | exact absurd h185 (by decide) | exact absurd (by decide) h185
    · refine z_aload_n (pc := 188) (i := 0) (j := 0) rfl rfl rfl ?_
      refine z_bipush (pc := 189) (v := 45) rfl (by decide) ?_
      refine z_cV (pc := 191) (mc1 := 0) (ms1 := 0) (mc2 := 0) (ms2 := 0) (as := [.int 45]) (rest := []) (o := 44) rfl rfl hk.1.1 ok_Mod_isSign rfl rfl cl_Mod_164 (by omega) (Nat.le_of_ble_eq_true rfl) (Nat.le_of_ble_eq_true rfl) (Nat.le_refl _) (Nat.le_refl _) (c_Mod_isSign hk hS (c := 45) (by decide) 0) (fun r1 w1 hp => ?_) rfl rfl
      obtain ⟨rfl, hw1⟩ := hp
      rw [hw1]
      refine ⟨⟨Nat.le_refl _, Or.inl rfl⟩, ?_⟩
      refine z_eqi (y := 0) (if_neg (by rw [hc]; decide)) ?_
      refine z_if_ne (pc := 194) (tgt := 206) rfl (by decide) (fun h194 => ?_) (fun h194 => ?_)
      · first | exact absurd h194 (by decide) | exact absurd (by decide) h194
      · refine z_aload_n (pc := 197) (i := 0) (j := 0) rfl rfl rfl ?_
        refine z_bipush (pc := 198) (v := 42) rfl (by decide) ?_
        refine z_cV (pc := 200) (mc1 := 0) (ms1 := 0) (mc2 := 0) (ms2 := 0) (as := [.int 42]) (rest := []) (o := 44) rfl rfl hk.1.1 ok_Mod_isSign rfl rfl cl_Mod_164 (by omega) (Nat.le_of_ble_eq_true rfl) (Nat.le_of_ble_eq_true rfl) (Nat.le_refl _) (Nat.le_refl _) (c_Mod_isSign hk hS (c := 42) (by decide) 0) (fun r1 w1 hp => ?_) rfl rfl
        obtain ⟨rfl, hw1⟩ := hp
        rw [hw1]
        refine ⟨⟨Nat.le_refl _, Or.inl rfl⟩, ?_⟩
        refine z_eqi (y := 0) (if_neg (by rw [hc]; decide)) ?_
        refine z_if_eq (pc := 203) (tgt := 245) rfl (by decide) (fun h203 => ?_) (fun h203 => ?_)
        · refine z_aload_n (pc := 245) (i := 0) (j := 0) rfl rfl rfl ?_
          refine z_bipush (pc := 246) (v := 60) rfl (by decide) ?_
          refine z_cV (pc := 248) (mc1 := 0) (ms1 := 0) (mc2 := 0) (ms2 := 0) (as := [.int 60]) (rest := []) (o := 44) rfl rfl hk.1.1 ok_Mod_isSign rfl rfl cl_Mod_164 (by omega) (Nat.le_of_ble_eq_true rfl) (Nat.le_of_ble_eq_true rfl) (Nat.le_refl _) (Nat.le_refl _) (c_Mod_isSign hk hS (c := 60) (by decide) 0) (fun r1 w1 hp => ?_) rfl rfl
          obtain ⟨rfl, hw1⟩ := hp
          rw [hw1]
          refine ⟨⟨Nat.le_refl _, Or.inl rfl⟩, ?_⟩
          refine z_eqi (y := 0) (if_neg (by rw [hc]; decide)) ?_
          refine z_if_ne (pc := 251) (tgt := 263) rfl (by decide) (fun h251 => ?_) (fun h251 => ?_)
          · first | exact absurd h251 (by decide) | exact absurd (by decide) h251
          · refine z_aload_n (pc := 254) (i := 0) (j := 0) rfl rfl rfl ?_
            refine z_bipush (pc := 255) (v := 61) rfl (by decide) ?_
            refine z_cV (pc := 257) (mc1 := 0) (ms1 := 0) (mc2 := 0) (ms2 := 0) (as := [.int 61]) (rest := []) (o := 44) rfl rfl hk.1.1 ok_Mod_isSign rfl rfl cl_Mod_164 (by omega) (Nat.le_of_ble_eq_true rfl) (Nat.le_of_ble_eq_true rfl) (Nat.le_refl _) (Nat.le_refl _) (c_Mod_isSign hk hS (c := 61) (by decide) 0) (fun r1 w1 hp => ?_) rfl rfl
            obtain ⟨rfl, hw1⟩ := hp
            rw [hw1]
            refine ⟨⟨Nat.le_refl _, Or.inl rfl⟩, ?_⟩
            refine z_eqi (y := 0) (if_neg (by rw [hc]; decide)) ?_
            refine z_if_eq (pc := 260) (tgt := 304) rfl (by decide) (fun h260 => ?_) (fun h260 => ?_)
            · refine z_aload_n (pc := 304) (i := 0) (j := 0) rfl rfl rfl ?_
              refine z_ldc2 (pc := 305) (v := 1111) rfl kl_Mod_177 ?_
              refine z_cV (pc := 308) (mc1 := 0) (ms1 := 0) (mc2 := 0) (ms2 := 0) (as := [.long 1111]) (rest := []) (o := 44) rfl rfl hk.1.1 ok_Mod_isWord rfl rfl cl_Mod_160 (by omega) (Nat.le_of_ble_eq_true rfl) (Nat.le_of_ble_eq_true rfl) (Nat.le_refl _) (Nat.le_refl _) (c_wd hk hS (i := 14) (by decide) (x := 1111) rfl 0) (fun r1 w1 hp => ?_) rfl rfl
              obtain ⟨rfl, hw1⟩ := hp
              rw [hw1]
              refine ⟨⟨Nat.le_refl _, Or.inl rfl⟩, ?_⟩
              refine z_eqi (y := 0) (if_neg (fun e => absurd (tW_3 e) (by rw [hc]; decide))) ?_
              refine z_if_ne (pc := 311) (tgt := 324) rfl (by decide) (fun h311 => ?_) (fun h311 => ?_)
              · first | exact absurd h311 (by decide) | exact absurd (by decide) h311
              · refine z_aload_n (pc := 314) (i := 0) (j := 0) rfl rfl rfl ?_
                refine z_ldc2 (pc := 315) (v := 423) rfl kl_Mod_179 ?_
                refine z_cV (pc := 318) (mc1 := 0) (ms1 := 0) (mc2 := 0) (ms2 := 0) (as := [.long 423]) (rest := []) (o := 44) rfl rfl hk.1.1 ok_Mod_isWord rfl rfl cl_Mod_160 (by omega) (Nat.le_of_ble_eq_true rfl) (Nat.le_of_ble_eq_true rfl) (Nat.le_refl _) (Nat.le_refl _) (c_wd hk hS (i := 15) (by decide) (x := 423) rfl 0) (fun r1 w1 hp => ?_) rfl rfl
                obtain ⟨rfl, hw1⟩ := hp
                rw [hw1]
                refine ⟨⟨Nat.le_refl _, Or.inl rfl⟩, ?_⟩
                refine z_eqi (y := 0) (if_neg (fun e => absurd (tW_3 e) (by rw [hc]; decide))) ?_
                refine z_if_eq (pc := 321) (tgt := 357) rfl (by decide) (fun h321 => ?_) (fun h321 => ?_)
                · refine z_aload_n (pc := 357) (i := 0) (j := 0) rfl rfl rfl ?_
                  refine z_bipush (pc := 358) (v := 41) rfl (by decide) ?_
                  refine z_cV (pc := 360) (mc1 := 0) (ms1 := 0) (mc2 := 0) (ms2 := 0) (as := [.int 41]) (rest := []) (o := 44) rfl rfl hk.1.1 ok_Mod_isSign rfl rfl cl_Mod_164 (by omega) (Nat.le_of_ble_eq_true rfl) (Nat.le_of_ble_eq_true rfl) (Nat.le_refl _) (Nat.le_refl _) (c_Mod_isSign hk hS (c := 41) (by decide) 0) (fun r1 w1 hp => ?_) rfl rfl
                  obtain ⟨rfl, hw1⟩ := hp
                  rw [hw1]
                  refine ⟨⟨Nat.le_refl _, Or.inl rfl⟩, ?_⟩
                  refine z_eqi (y := 1) (if_pos hc) ?_
                  refine z_if_eq (pc := 363) (tgt := 399) rfl (by decide) (fun h363 => ?_) (fun h363 => ?_)
                  · first | exact absurd h363 (by decide) | exact absurd (by decide) h363
                  · refine z_iload_n (pc := 366) (i := 1) (j := 1) rfl rfl rfl ?_
                    refine z_if_le (pc := 367) (tgt := 399) rfl (by decide) (fun h367 => ?_) (fun h367 => ?_)
                    · exact absurd h367 (nI_nle (by omega) (by omega))
                    · refine z_aload_n (pc := 370) (i := 0) (j := 0) rfl rfl rfl ?_
                      refine z_bipush (pc := 371) (v := 29) rfl (by decide) ?_
                      refine z_cV (pc := 373) (mc1 := 0) (ms1 := 0) (mc2 := 0) (ms2 := 0) (as := [.int 29]) (rest := []) (o := 44) rfl rfl hk.1.1 ok_Mod_puts rfl rfl cl_Mod_171 (by omega) (Nat.le_of_ble_eq_true rfl) (Nat.le_of_ble_eq_true rfl) (Nat.le_refl _) (Nat.le_refl _) (c_Mod_puts hk (j := j0 + Y.length) hj19 (by omega) 29 0) (fun r1 w1 hp => ?_) rfl rfl
                      obtain ⟨rfl, hw1⟩ := hp
                      rw [hw1]
                      refine ⟨⟨Nat.le_refl _, Or.inl rfl⟩, ?_⟩
                      refine z_iinc (pc := 376) (i := 1) (j := 1) (v := nI d) (ls' := [(0, .ref 44), (1, .int (nI d)), (2, .int 0)]) rfl rfl (pk_m1 d) (by decide) rfl ?_
                      refine l_pop2 (w := zsI (zsI w 54 (j0 + Y.length) 29) 44 19 (nI (j0 + Y.length + 1))) (mK_R hk0 (rdQ_put hQ (by omega) 29).1) (rdQ_put hQ (by omega) 29).2.2.1 d (by omega) ?_
                      refine z_aload_n (pc := 424) (i := 0) (j := 0) rfl rfl rfl ?_
                      refine z_nmw (fun w7 hw7 => ?_)
                      have hQ7 : rdQ T n w0 j0 p op cm (Y ++ [29]) w7 := by
                        rw [hw7]
                        exact rdQ_put hQ (by omega) 29
                      refine z_cV (pc := 425) (mc1 := 0) (ms1 := 0) (mc2 := 0) (ms2 := 0) (as := []) (rest := []) (o := 44) rfl rfl (mK_R hk0 hQ7.1).1.1 ok_Mod_nextToken rfl rfl cl_Mod_174 (by omega) (Nat.le_of_ble_eq_true rfl) (Nat.le_of_ble_eq_true rfl) (Nat.le_refl _) (Nat.le_refl _) (c_Mod_nextToken (w := w7) (mK_R hk0 hQ7.1) (p := tEnd T n p) (tEnd_le hS.2.2.2.2.2) hQ7.2.1.1 1 (by decide)) (fun r1 w8 hp => ?_) rfl rfl
                      obtain ⟨rfl, hF8, hS8⟩ := hp
                      refine ⟨⟨by rw [hF8.1]; exact Nat.le_refl _, Or.inl (by rw [hF8.1])⟩, ?_⟩
                      refine z_goto (pc := 428) (tgt := 11) rfl (by decide) ?_
                      refine z_drop (ls' := [(0, .ref 44), (1, .int (nI (pd op d))), (2, .int 0)]) (by simp) ?_
                      exact hH (tEnd_le hS.2.2.2.2.2) (by omega) (by rw [List.length_append]; show j0 + (Y.length + 1) ≤ _; omega) w8 (rdQ_nx hQ7 hF8 hS8)
                · first | exact absurd h321 (by decide) | exact absurd (by decide) h321
            · first | exact absurd h260 (by decide) | exact absurd (by decide) h260
        · first | exact absurd h203 (by decide) | exact absurd (by decide) h203
  · first | exact absurd h12 (by decide) | exact absurd (by decide) h12
set_option maxRecDepth 100000 in
set_option maxHeartbeats 4000000 in
theorem rd_B5 {T : Nat → Int32} {n L s j0 dd : Nat} {w0 : zW} {P : Option Value → zW → Prop} (hk0 : mK w0 n T) (hpl : (zI w0 44 21 = 0 ∧ ¬ L = s + 9) ∨ (zI w0 44 21 = 1 ∧ L = s + 9)) (hdd : 2 ≤ dd) (hj0 : 1000 ≤ j0 ∧ j0 ≤ 5000) {p d : Nat} {op cm : Nat → Int32} {Y : List Int32} (hO : noO T n p d cm) (h41 : tC T n p = 41 → d = 0) (h59 : tC T n p = 59 → d ≠ 0) (hPE : rdE w0 P (flA T n 1 p)) : rdH T n w0 j0 dd P p d false op cm Y := by
  intro hp hd5 hj w hQ
  have hk := mK_R hk0 hQ.1
  have hS := hQ.2.1
  have hj19 := hQ.2.2.2.2.1
  have hn1 := hk0.2.2.1
  refine z_iload_n (pc := 11) (i := 2) (j := 2) rfl rfl rfl ?_
  refine z_if_eq (pc := 12) (tgt := 179) rfl (by decide) (fun h12 => ?_) (fun h12 => ?_)
  · refine z_aload_n (pc := 179) (i := 0) (j := 0) rfl rfl rfl ?_
    refine z_bipush (pc := 180) (v := 43) rfl (by decide) ?_
    refine z_cV (pc := 182) (mc1 := 0) (ms1 := 0) (mc2 := 0) (ms2 := 0) (as := [.int 43]) (rest := []) (o := 44) rfl rfl hk.1.1 ok_Mod_isSign rfl rfl cl_Mod_164 (by omega) (Nat.le_of_ble_eq_true rfl) (Nat.le_of_ble_eq_true rfl) (Nat.le_refl _) (Nat.le_refl _) (c_Mod_isSign hk hS (c := 43) (by decide) 0) (fun r1 w1 hp => ?_) rfl rfl
    obtain ⟨rfl, hw1⟩ := hp
    rw [hw1]
    refine ⟨⟨Nat.le_refl _, Or.inl rfl⟩, ?_⟩
    refine z_eqi (y := 0) (if_neg hO.1.2.1) ?_
    refine z_if_ne (pc := 185) (tgt := 206) rfl (by decide) (fun h185 => ?_) (fun h185 => ?_)
    · first | exact absurd h185 (by decide) | exact absurd (by decide) h185
    · refine z_aload_n (pc := 188) (i := 0) (j := 0) rfl rfl rfl ?_
      refine z_bipush (pc := 189) (v := 45) rfl (by decide) ?_
      refine z_cV (pc := 191) (mc1 := 0) (ms1 := 0) (mc2 := 0) (ms2 := 0) (as := [.int 45]) (rest := []) (o := 44) rfl rfl hk.1.1 ok_Mod_isSign rfl rfl cl_Mod_164 (by omega) (Nat.le_of_ble_eq_true rfl) (Nat.le_of_ble_eq_true rfl) (Nat.le_refl _) (Nat.le_refl _) (c_Mod_isSign hk hS (c := 45) (by decide) 0) (fun r1 w1 hp => ?_) rfl rfl
      obtain ⟨rfl, hw1⟩ := hp
      rw [hw1]
      refine ⟨⟨Nat.le_refl _, Or.inl rfl⟩, ?_⟩
      refine z_eqi (y := 0) (if_neg hO.1.2.2) ?_
      refine z_if_ne (pc := 194) (tgt := 206) rfl (by decide) (fun h194 => ?_) (fun h194 => ?_)
      · first | exact absurd h194 (by decide) | exact absurd (by decide) h194
      · refine z_aload_n (pc := 197) (i := 0) (j := 0) rfl rfl rfl ?_
        refine z_bipush (pc := 198) (v := 42) rfl (by decide) ?_
        refine z_cV (pc := 200) (mc1 := 0) (ms1 := 0) (mc2 := 0) (ms2 := 0) (as := [.int 42]) (rest := []) (o := 44) rfl rfl hk.1.1 ok_Mod_isSign rfl rfl cl_Mod_164 (by omega) (Nat.le_of_ble_eq_true rfl) (Nat.le_of_ble_eq_true rfl) (Nat.le_refl _) (Nat.le_refl _) (c_Mod_isSign hk hS (c := 42) (by decide) 0) (fun r1 w1 hp => ?_) rfl rfl
        obtain ⟨rfl, hw1⟩ := hp
        rw [hw1]
        refine ⟨⟨Nat.le_refl _, Or.inl rfl⟩, ?_⟩
        refine z_eqi (y := 0) (if_neg hO.1.1) ?_
        refine z_if_eq (pc := 203) (tgt := 245) rfl (by decide) (fun h203 => ?_) (fun h203 => ?_)
        · refine z_aload_n (pc := 245) (i := 0) (j := 0) rfl rfl rfl ?_
          refine z_bipush (pc := 246) (v := 60) rfl (by decide) ?_
          refine z_cV (pc := 248) (mc1 := 0) (ms1 := 0) (mc2 := 0) (ms2 := 0) (as := [.int 60]) (rest := []) (o := 44) rfl rfl hk.1.1 ok_Mod_isSign rfl rfl cl_Mod_164 (by omega) (Nat.le_of_ble_eq_true rfl) (Nat.le_of_ble_eq_true rfl) (Nat.le_refl _) (Nat.le_refl _) (c_Mod_isSign hk hS (c := 60) (by decide) 0) (fun r1 w1 hp => ?_) rfl rfl
          obtain ⟨rfl, hw1⟩ := hp
          rw [hw1]
          refine ⟨⟨Nat.le_refl _, Or.inl rfl⟩, ?_⟩
          refine z_if_ne (pc := 251) (tgt := 263) rfl (by decide) (fun h251 => ?_) (fun h251 => ?_)
          · refine z_aload_n (pc := 263) (i := 0) (j := 0) rfl rfl rfl ?_
            refine z_getR (pc := 264) (x := 56) rfl fl_Mod_44 hk.1.1 rfl (mr_56 hk.1) ?_
            refine z_iload_n (pc := 267) (i := 1) (j := 1) rfl rfl rfl ?_
            refine z_zald (pc := 268) rfl (mk_56 hk.1) (vp_in_nI (n := d) (N := 7) (by omega) (by decide)) ?_
            refine z_eqi (y := cm d) (by rw [nI_clamp (by omega), hQ.2.2.2.1]) ?_
            refine z_if_ne (pc := 269) (tgt := 304) rfl (by decide) (fun h269 => ?_) (fun h269 => ?_)
            · refine z_aload_n (pc := 304) (i := 0) (j := 0) rfl rfl rfl ?_
              refine z_ldc2 (pc := 305) (v := 1111) rfl kl_Mod_177 ?_
              refine z_cV (pc := 308) (mc1 := 0) (ms1 := 0) (mc2 := 0) (ms2 := 0) (as := [.long 1111]) (rest := []) (o := 44) rfl rfl hk.1.1 ok_Mod_isWord rfl rfl cl_Mod_160 (by omega) (Nat.le_of_ble_eq_true rfl) (Nat.le_of_ble_eq_true rfl) (Nat.le_refl _) (Nat.le_refl _) (c_wd hk hS (i := 14) (by decide) (x := 1111) rfl 0) (fun r1 w1 hp => ?_) rfl rfl
              obtain ⟨rfl, hw1⟩ := hp
              rw [hw1]
              refine ⟨⟨Nat.le_refl _, Or.inl rfl⟩, ?_⟩
              refine z_eqi (y := 0) (if_neg hO.2.2.1) ?_
              refine z_if_ne (pc := 311) (tgt := 324) rfl (by decide) (fun h311 => ?_) (fun h311 => ?_)
              · first | exact absurd h311 (by decide) | exact absurd (by decide) h311
              · refine z_aload_n (pc := 314) (i := 0) (j := 0) rfl rfl rfl ?_
                refine z_ldc2 (pc := 315) (v := 423) rfl kl_Mod_179 ?_
                refine z_cV (pc := 318) (mc1 := 0) (ms1 := 0) (mc2 := 0) (ms2 := 0) (as := [.long 423]) (rest := []) (o := 44) rfl rfl hk.1.1 ok_Mod_isWord rfl rfl cl_Mod_160 (by omega) (Nat.le_of_ble_eq_true rfl) (Nat.le_of_ble_eq_true rfl) (Nat.le_refl _) (Nat.le_refl _) (c_wd hk hS (i := 15) (by decide) (x := 423) rfl 0) (fun r1 w1 hp => ?_) rfl rfl
                obtain ⟨rfl, hw1⟩ := hp
                rw [hw1]
                refine ⟨⟨Nat.le_refl _, Or.inl rfl⟩, ?_⟩
                refine z_eqi (y := 0) (if_neg hO.2.2.2) ?_
                refine z_if_eq (pc := 321) (tgt := 357) rfl (by decide) (fun h321 => ?_) (fun h321 => ?_)
                · refine z_aload_n (pc := 357) (i := 0) (j := 0) rfl rfl rfl ?_
                  refine z_bipush (pc := 358) (v := 41) rfl (by decide) ?_
                  refine z_cV (pc := 360) (mc1 := 0) (ms1 := 0) (mc2 := 0) (ms2 := 0) (as := [.int 41]) (rest := []) (o := 44) rfl rfl hk.1.1 ok_Mod_isSign rfl rfl cl_Mod_164 (by omega) (Nat.le_of_ble_eq_true rfl) (Nat.le_of_ble_eq_true rfl) (Nat.le_refl _) (Nat.le_refl _) (c_Mod_isSign hk hS (c := 41) (by decide) 0) (fun r1 w1 hp => ?_) rfl rfl
                  obtain ⟨rfl, hw1⟩ := hp
                  rw [hw1]
                  refine ⟨⟨Nat.le_refl _, Or.inl rfl⟩, ?_⟩
                  refine z_if_eq (pc := 363) (tgt := 399) rfl (by decide) (fun h363 => ?_) (fun h363 => ?_)
                  · refine z_iload_n (pc := 399) (i := 1) (j := 1) rfl rfl rfl ?_
                    refine z_if_ne (pc := 400) (tgt := 418) rfl (by decide) (fun h400 => ?_) (fun h400 => ?_)
                    · refine z_aload_n (pc := 418) (i := 0) (j := 0) rfl rfl rfl ?_
                      refine z_iconst (pc := 419) (v := 1) rfl (by decide) ?_
                      refine z_cV (pc := 420) (mc1 := 0) (ms1 := 0) (mc2 := 0) (ms2 := 0) (as := [.int 1]) (rest := []) (o := 44) rfl rfl hk.1.1 ok_Mod_fails rfl rfl cl_Mod_168 (by omega) (Nat.le_of_ble_eq_true rfl) (Nat.le_of_ble_eq_true rfl) (Nat.le_refl _) (Nat.le_refl _) (c_Mod_fails hk hS 1 0) (fun r1 w1 hp => ?_) rfl rfl
                      obtain ⟨rfl, hw1⟩ := hp
                      rw [hw1]
                      refine ⟨⟨Nat.le_refl _, Or.inl rfl⟩, ?_⟩
                      exact z_zret (pc := 423) rfl rfl (by decide) (hPE _ (rdsF_I hQ.1 _ (Or.inr (Or.inr (Or.inr ⟨rfl, Or.inl rfl⟩)))) rfl)
                    · refine z_aload_n (pc := 403) (i := 0) (j := 0) rfl rfl rfl ?_
                      refine z_bipush (pc := 404) (v := 59) rfl (by decide) ?_
                      refine z_cV (pc := 406) (mc1 := 0) (ms1 := 0) (mc2 := 0) (ms2 := 0) (as := [.int 59]) (rest := []) (o := 44) rfl rfl hk.1.1 ok_Mod_isSign rfl rfl cl_Mod_164 (by omega) (Nat.le_of_ble_eq_true rfl) (Nat.le_of_ble_eq_true rfl) (Nat.le_refl _) (Nat.le_refl _) (c_Mod_isSign hk hS (c := 59) (by decide) 0) (fun r1 w1 hp => ?_) rfl rfl
                      obtain ⟨rfl, hw1⟩ := hp
                      rw [hw1]
                      refine ⟨⟨Nat.le_refl _, Or.inl rfl⟩, ?_⟩
                      refine z_if_eq (pc := 409) (tgt := 418) rfl (by decide) (fun h409 => ?_) (fun h409 => ?_)
                      · refine z_aload_n (pc := 418) (i := 0) (j := 0) rfl rfl rfl ?_
                        refine z_iconst (pc := 419) (v := 1) rfl (by decide) ?_
                        refine z_cV (pc := 420) (mc1 := 0) (ms1 := 0) (mc2 := 0) (ms2 := 0) (as := [.int 1]) (rest := []) (o := 44) rfl rfl hk.1.1 ok_Mod_fails rfl rfl cl_Mod_168 (by omega) (Nat.le_of_ble_eq_true rfl) (Nat.le_of_ble_eq_true rfl) (Nat.le_refl _) (Nat.le_refl _) (c_Mod_fails hk hS 1 0) (fun r1 w1 hp => ?_) rfl rfl
                        obtain ⟨rfl, hw1⟩ := hp
                        rw [hw1]
                        refine ⟨⟨Nat.le_refl _, Or.inl rfl⟩, ?_⟩
                        exact z_zret (pc := 423) rfl rfl (by decide) (hPE _ (rdsF_I hQ.1 _ (Or.inr (Or.inr (Or.inr ⟨rfl, Or.inl rfl⟩)))) rfl)
                      · exact absurd (show d = 0 from Decidable.byContradiction (fun z => nI_ne0 (Nat.pos_of_ne_zero z) (by omega) h400)) (h59 (Decidable.byContradiction (fun z => h409 (if_neg z))))
                  · refine z_iload_n (pc := 366) (i := 1) (j := 1) rfl rfl rfl ?_
                    refine z_if_le (pc := 367) (tgt := 399) rfl (by decide) (fun h367 => ?_) (fun h367 => ?_)
                    · refine z_iload_n (pc := 399) (i := 1) (j := 1) rfl rfl rfl ?_
                      refine z_if_ne (pc := 400) (tgt := 418) rfl (by decide) (fun h400 => ?_) (fun h400 => ?_)
                      · refine z_aload_n (pc := 418) (i := 0) (j := 0) rfl rfl rfl ?_
                        refine z_iconst (pc := 419) (v := 1) rfl (by decide) ?_
                        refine z_cV (pc := 420) (mc1 := 0) (ms1 := 0) (mc2 := 0) (ms2 := 0) (as := [.int 1]) (rest := []) (o := 44) rfl rfl hk.1.1 ok_Mod_fails rfl rfl cl_Mod_168 (by omega) (Nat.le_of_ble_eq_true rfl) (Nat.le_of_ble_eq_true rfl) (Nat.le_refl _) (Nat.le_refl _) (c_Mod_fails hk hS 1 0) (fun r1 w1 hp => ?_) rfl rfl
                        obtain ⟨rfl, hw1⟩ := hp
                        rw [hw1]
                        refine ⟨⟨Nat.le_refl _, Or.inl rfl⟩, ?_⟩
                        exact z_zret (pc := 423) rfl rfl (by decide) (hPE _ (rdsF_I hQ.1 _ (Or.inr (Or.inr (Or.inr ⟨rfl, Or.inl rfl⟩)))) rfl)
                      · refine z_aload_n (pc := 403) (i := 0) (j := 0) rfl rfl rfl ?_
                        refine z_bipush (pc := 404) (v := 59) rfl (by decide) ?_
                        refine z_cV (pc := 406) (mc1 := 0) (ms1 := 0) (mc2 := 0) (ms2 := 0) (as := [.int 59]) (rest := []) (o := 44) rfl rfl hk.1.1 ok_Mod_isSign rfl rfl cl_Mod_164 (by omega) (Nat.le_of_ble_eq_true rfl) (Nat.le_of_ble_eq_true rfl) (Nat.le_refl _) (Nat.le_refl _) (c_Mod_isSign hk hS (c := 59) (by decide) 0) (fun r1 w1 hp => ?_) rfl rfl
                        obtain ⟨rfl, hw1⟩ := hp
                        rw [hw1]
                        refine ⟨⟨Nat.le_refl _, Or.inl rfl⟩, ?_⟩
                        refine z_if_eq (pc := 409) (tgt := 418) rfl (by decide) (fun h409 => ?_) (fun h409 => ?_)
                        · refine z_aload_n (pc := 418) (i := 0) (j := 0) rfl rfl rfl ?_
                          refine z_iconst (pc := 419) (v := 1) rfl (by decide) ?_
                          refine z_cV (pc := 420) (mc1 := 0) (ms1 := 0) (mc2 := 0) (ms2 := 0) (as := [.int 1]) (rest := []) (o := 44) rfl rfl hk.1.1 ok_Mod_fails rfl rfl cl_Mod_168 (by omega) (Nat.le_of_ble_eq_true rfl) (Nat.le_of_ble_eq_true rfl) (Nat.le_refl _) (Nat.le_refl _) (c_Mod_fails hk hS 1 0) (fun r1 w1 hp => ?_) rfl rfl
                          obtain ⟨rfl, hw1⟩ := hp
                          rw [hw1]
                          refine ⟨⟨Nat.le_refl _, Or.inl rfl⟩, ?_⟩
                          exact z_zret (pc := 423) rfl rfl (by decide) (hPE _ (rdsF_I hQ.1 _ (Or.inr (Or.inr (Or.inr ⟨rfl, Or.inl rfl⟩)))) rfl)
                        · exact absurd (show d = 0 from Decidable.byContradiction (fun z => nI_ne0 (Nat.pos_of_ne_zero z) (by omega) h400)) (h59 (Decidable.byContradiction (fun z => h409 (if_neg z))))
                    · exact absurd (by rw [h41 (Decidable.byContradiction (fun z => h363 (if_neg z)))]; decide) h367
                · first | exact absurd h321 (by decide) | exact absurd (by decide) h321
            · exact absurd (Decidable.byContradiction (fun z => h251 (if_neg z))) (hO.2.1 h269).1
          · refine z_aload_n (pc := 254) (i := 0) (j := 0) rfl rfl rfl ?_
            refine z_bipush (pc := 255) (v := 61) rfl (by decide) ?_
            refine z_cV (pc := 257) (mc1 := 0) (ms1 := 0) (mc2 := 0) (ms2 := 0) (as := [.int 61]) (rest := []) (o := 44) rfl rfl hk.1.1 ok_Mod_isSign rfl rfl cl_Mod_164 (by omega) (Nat.le_of_ble_eq_true rfl) (Nat.le_of_ble_eq_true rfl) (Nat.le_refl _) (Nat.le_refl _) (c_Mod_isSign hk hS (c := 61) (by decide) 0) (fun r1 w1 hp => ?_) rfl rfl
            obtain ⟨rfl, hw1⟩ := hp
            rw [hw1]
            refine ⟨⟨Nat.le_refl _, Or.inl rfl⟩, ?_⟩
            refine z_if_eq (pc := 260) (tgt := 304) rfl (by decide) (fun h260 => ?_) (fun h260 => ?_)
            · refine z_aload_n (pc := 304) (i := 0) (j := 0) rfl rfl rfl ?_
              refine z_ldc2 (pc := 305) (v := 1111) rfl kl_Mod_177 ?_
              refine z_cV (pc := 308) (mc1 := 0) (ms1 := 0) (mc2 := 0) (ms2 := 0) (as := [.long 1111]) (rest := []) (o := 44) rfl rfl hk.1.1 ok_Mod_isWord rfl rfl cl_Mod_160 (by omega) (Nat.le_of_ble_eq_true rfl) (Nat.le_of_ble_eq_true rfl) (Nat.le_refl _) (Nat.le_refl _) (c_wd hk hS (i := 14) (by decide) (x := 1111) rfl 0) (fun r1 w1 hp => ?_) rfl rfl
              obtain ⟨rfl, hw1⟩ := hp
              rw [hw1]
              refine ⟨⟨Nat.le_refl _, Or.inl rfl⟩, ?_⟩
              refine z_eqi (y := 0) (if_neg hO.2.2.1) ?_
              refine z_if_ne (pc := 311) (tgt := 324) rfl (by decide) (fun h311 => ?_) (fun h311 => ?_)
              · first | exact absurd h311 (by decide) | exact absurd (by decide) h311
              · refine z_aload_n (pc := 314) (i := 0) (j := 0) rfl rfl rfl ?_
                refine z_ldc2 (pc := 315) (v := 423) rfl kl_Mod_179 ?_
                refine z_cV (pc := 318) (mc1 := 0) (ms1 := 0) (mc2 := 0) (ms2 := 0) (as := [.long 423]) (rest := []) (o := 44) rfl rfl hk.1.1 ok_Mod_isWord rfl rfl cl_Mod_160 (by omega) (Nat.le_of_ble_eq_true rfl) (Nat.le_of_ble_eq_true rfl) (Nat.le_refl _) (Nat.le_refl _) (c_wd hk hS (i := 15) (by decide) (x := 423) rfl 0) (fun r1 w1 hp => ?_) rfl rfl
                obtain ⟨rfl, hw1⟩ := hp
                rw [hw1]
                refine ⟨⟨Nat.le_refl _, Or.inl rfl⟩, ?_⟩
                refine z_eqi (y := 0) (if_neg hO.2.2.2) ?_
                refine z_if_eq (pc := 321) (tgt := 357) rfl (by decide) (fun h321 => ?_) (fun h321 => ?_)
                · refine z_aload_n (pc := 357) (i := 0) (j := 0) rfl rfl rfl ?_
                  refine z_bipush (pc := 358) (v := 41) rfl (by decide) ?_
                  refine z_cV (pc := 360) (mc1 := 0) (ms1 := 0) (mc2 := 0) (ms2 := 0) (as := [.int 41]) (rest := []) (o := 44) rfl rfl hk.1.1 ok_Mod_isSign rfl rfl cl_Mod_164 (by omega) (Nat.le_of_ble_eq_true rfl) (Nat.le_of_ble_eq_true rfl) (Nat.le_refl _) (Nat.le_refl _) (c_Mod_isSign hk hS (c := 41) (by decide) 0) (fun r1 w1 hp => ?_) rfl rfl
                  obtain ⟨rfl, hw1⟩ := hp
                  rw [hw1]
                  refine ⟨⟨Nat.le_refl _, Or.inl rfl⟩, ?_⟩
                  refine z_if_eq (pc := 363) (tgt := 399) rfl (by decide) (fun h363 => ?_) (fun h363 => ?_)
                  · refine z_iload_n (pc := 399) (i := 1) (j := 1) rfl rfl rfl ?_
                    refine z_if_ne (pc := 400) (tgt := 418) rfl (by decide) (fun h400 => ?_) (fun h400 => ?_)
                    · refine z_aload_n (pc := 418) (i := 0) (j := 0) rfl rfl rfl ?_
                      refine z_iconst (pc := 419) (v := 1) rfl (by decide) ?_
                      refine z_cV (pc := 420) (mc1 := 0) (ms1 := 0) (mc2 := 0) (ms2 := 0) (as := [.int 1]) (rest := []) (o := 44) rfl rfl hk.1.1 ok_Mod_fails rfl rfl cl_Mod_168 (by omega) (Nat.le_of_ble_eq_true rfl) (Nat.le_of_ble_eq_true rfl) (Nat.le_refl _) (Nat.le_refl _) (c_Mod_fails hk hS 1 0) (fun r1 w1 hp => ?_) rfl rfl
                      obtain ⟨rfl, hw1⟩ := hp
                      rw [hw1]
                      refine ⟨⟨Nat.le_refl _, Or.inl rfl⟩, ?_⟩
                      exact z_zret (pc := 423) rfl rfl (by decide) (hPE _ (rdsF_I hQ.1 _ (Or.inr (Or.inr (Or.inr ⟨rfl, Or.inl rfl⟩)))) rfl)
                    · refine z_aload_n (pc := 403) (i := 0) (j := 0) rfl rfl rfl ?_
                      refine z_bipush (pc := 404) (v := 59) rfl (by decide) ?_
                      refine z_cV (pc := 406) (mc1 := 0) (ms1 := 0) (mc2 := 0) (ms2 := 0) (as := [.int 59]) (rest := []) (o := 44) rfl rfl hk.1.1 ok_Mod_isSign rfl rfl cl_Mod_164 (by omega) (Nat.le_of_ble_eq_true rfl) (Nat.le_of_ble_eq_true rfl) (Nat.le_refl _) (Nat.le_refl _) (c_Mod_isSign hk hS (c := 59) (by decide) 0) (fun r1 w1 hp => ?_) rfl rfl
                      obtain ⟨rfl, hw1⟩ := hp
                      rw [hw1]
                      refine ⟨⟨Nat.le_refl _, Or.inl rfl⟩, ?_⟩
                      refine z_if_eq (pc := 409) (tgt := 418) rfl (by decide) (fun h409 => ?_) (fun h409 => ?_)
                      · refine z_aload_n (pc := 418) (i := 0) (j := 0) rfl rfl rfl ?_
                        refine z_iconst (pc := 419) (v := 1) rfl (by decide) ?_
                        refine z_cV (pc := 420) (mc1 := 0) (ms1 := 0) (mc2 := 0) (ms2 := 0) (as := [.int 1]) (rest := []) (o := 44) rfl rfl hk.1.1 ok_Mod_fails rfl rfl cl_Mod_168 (by omega) (Nat.le_of_ble_eq_true rfl) (Nat.le_of_ble_eq_true rfl) (Nat.le_refl _) (Nat.le_refl _) (c_Mod_fails hk hS 1 0) (fun r1 w1 hp => ?_) rfl rfl
                        obtain ⟨rfl, hw1⟩ := hp
                        rw [hw1]
                        refine ⟨⟨Nat.le_refl _, Or.inl rfl⟩, ?_⟩
                        exact z_zret (pc := 423) rfl rfl (by decide) (hPE _ (rdsF_I hQ.1 _ (Or.inr (Or.inr (Or.inr ⟨rfl, Or.inl rfl⟩)))) rfl)
                      · exact absurd (show d = 0 from Decidable.byContradiction (fun z => nI_ne0 (Nat.pos_of_ne_zero z) (by omega) h400)) (h59 (Decidable.byContradiction (fun z => h409 (if_neg z))))
                  · refine z_iload_n (pc := 366) (i := 1) (j := 1) rfl rfl rfl ?_
                    refine z_if_le (pc := 367) (tgt := 399) rfl (by decide) (fun h367 => ?_) (fun h367 => ?_)
                    · refine z_iload_n (pc := 399) (i := 1) (j := 1) rfl rfl rfl ?_
                      refine z_if_ne (pc := 400) (tgt := 418) rfl (by decide) (fun h400 => ?_) (fun h400 => ?_)
                      · refine z_aload_n (pc := 418) (i := 0) (j := 0) rfl rfl rfl ?_
                        refine z_iconst (pc := 419) (v := 1) rfl (by decide) ?_
                        refine z_cV (pc := 420) (mc1 := 0) (ms1 := 0) (mc2 := 0) (ms2 := 0) (as := [.int 1]) (rest := []) (o := 44) rfl rfl hk.1.1 ok_Mod_fails rfl rfl cl_Mod_168 (by omega) (Nat.le_of_ble_eq_true rfl) (Nat.le_of_ble_eq_true rfl) (Nat.le_refl _) (Nat.le_refl _) (c_Mod_fails hk hS 1 0) (fun r1 w1 hp => ?_) rfl rfl
                        obtain ⟨rfl, hw1⟩ := hp
                        rw [hw1]
                        refine ⟨⟨Nat.le_refl _, Or.inl rfl⟩, ?_⟩
                        exact z_zret (pc := 423) rfl rfl (by decide) (hPE _ (rdsF_I hQ.1 _ (Or.inr (Or.inr (Or.inr ⟨rfl, Or.inl rfl⟩)))) rfl)
                      · refine z_aload_n (pc := 403) (i := 0) (j := 0) rfl rfl rfl ?_
                        refine z_bipush (pc := 404) (v := 59) rfl (by decide) ?_
                        refine z_cV (pc := 406) (mc1 := 0) (ms1 := 0) (mc2 := 0) (ms2 := 0) (as := [.int 59]) (rest := []) (o := 44) rfl rfl hk.1.1 ok_Mod_isSign rfl rfl cl_Mod_164 (by omega) (Nat.le_of_ble_eq_true rfl) (Nat.le_of_ble_eq_true rfl) (Nat.le_refl _) (Nat.le_refl _) (c_Mod_isSign hk hS (c := 59) (by decide) 0) (fun r1 w1 hp => ?_) rfl rfl
                        obtain ⟨rfl, hw1⟩ := hp
                        rw [hw1]
                        refine ⟨⟨Nat.le_refl _, Or.inl rfl⟩, ?_⟩
                        refine z_if_eq (pc := 409) (tgt := 418) rfl (by decide) (fun h409 => ?_) (fun h409 => ?_)
                        · refine z_aload_n (pc := 418) (i := 0) (j := 0) rfl rfl rfl ?_
                          refine z_iconst (pc := 419) (v := 1) rfl (by decide) ?_
                          refine z_cV (pc := 420) (mc1 := 0) (ms1 := 0) (mc2 := 0) (ms2 := 0) (as := [.int 1]) (rest := []) (o := 44) rfl rfl hk.1.1 ok_Mod_fails rfl rfl cl_Mod_168 (by omega) (Nat.le_of_ble_eq_true rfl) (Nat.le_of_ble_eq_true rfl) (Nat.le_refl _) (Nat.le_refl _) (c_Mod_fails hk hS 1 0) (fun r1 w1 hp => ?_) rfl rfl
                          obtain ⟨rfl, hw1⟩ := hp
                          rw [hw1]
                          refine ⟨⟨Nat.le_refl _, Or.inl rfl⟩, ?_⟩
                          exact z_zret (pc := 423) rfl rfl (by decide) (hPE _ (rdsF_I hQ.1 _ (Or.inr (Or.inr (Or.inr ⟨rfl, Or.inl rfl⟩)))) rfl)
                        · exact absurd (show d = 0 from Decidable.byContradiction (fun z => nI_ne0 (Nat.pos_of_ne_zero z) (by omega) h400)) (h59 (Decidable.byContradiction (fun z => h409 (if_neg z))))
                    · exact absurd (by rw [h41 (Decidable.byContradiction (fun z => h363 (if_neg z)))]; decide) h367
                · first | exact absurd h321 (by decide) | exact absurd (by decide) h321
            · refine z_aload_n (pc := 263) (i := 0) (j := 0) rfl rfl rfl ?_
              refine z_getR (pc := 264) (x := 56) rfl fl_Mod_44 hk.1.1 rfl (mr_56 hk.1) ?_
              refine z_iload_n (pc := 267) (i := 1) (j := 1) rfl rfl rfl ?_
              refine z_zald (pc := 268) rfl (mk_56 hk.1) (vp_in_nI (n := d) (N := 7) (by omega) (by decide)) ?_
              refine z_eqi (y := cm d) (by rw [nI_clamp (by omega), hQ.2.2.2.1]) ?_
              refine z_if_ne (pc := 269) (tgt := 304) rfl (by decide) (fun h269 => ?_) (fun h269 => ?_)
              · refine z_aload_n (pc := 304) (i := 0) (j := 0) rfl rfl rfl ?_
                refine z_ldc2 (pc := 305) (v := 1111) rfl kl_Mod_177 ?_
                refine z_cV (pc := 308) (mc1 := 0) (ms1 := 0) (mc2 := 0) (ms2 := 0) (as := [.long 1111]) (rest := []) (o := 44) rfl rfl hk.1.1 ok_Mod_isWord rfl rfl cl_Mod_160 (by omega) (Nat.le_of_ble_eq_true rfl) (Nat.le_of_ble_eq_true rfl) (Nat.le_refl _) (Nat.le_refl _) (c_wd hk hS (i := 14) (by decide) (x := 1111) rfl 0) (fun r1 w1 hp => ?_) rfl rfl
                obtain ⟨rfl, hw1⟩ := hp
                rw [hw1]
                refine ⟨⟨Nat.le_refl _, Or.inl rfl⟩, ?_⟩
                refine z_eqi (y := 0) (if_neg hO.2.2.1) ?_
                refine z_if_ne (pc := 311) (tgt := 324) rfl (by decide) (fun h311 => ?_) (fun h311 => ?_)
                · first | exact absurd h311 (by decide) | exact absurd (by decide) h311
                · refine z_aload_n (pc := 314) (i := 0) (j := 0) rfl rfl rfl ?_
                  refine z_ldc2 (pc := 315) (v := 423) rfl kl_Mod_179 ?_
                  refine z_cV (pc := 318) (mc1 := 0) (ms1 := 0) (mc2 := 0) (ms2 := 0) (as := [.long 423]) (rest := []) (o := 44) rfl rfl hk.1.1 ok_Mod_isWord rfl rfl cl_Mod_160 (by omega) (Nat.le_of_ble_eq_true rfl) (Nat.le_of_ble_eq_true rfl) (Nat.le_refl _) (Nat.le_refl _) (c_wd hk hS (i := 15) (by decide) (x := 423) rfl 0) (fun r1 w1 hp => ?_) rfl rfl
                  obtain ⟨rfl, hw1⟩ := hp
                  rw [hw1]
                  refine ⟨⟨Nat.le_refl _, Or.inl rfl⟩, ?_⟩
                  refine z_eqi (y := 0) (if_neg hO.2.2.2) ?_
                  refine z_if_eq (pc := 321) (tgt := 357) rfl (by decide) (fun h321 => ?_) (fun h321 => ?_)
                  · refine z_aload_n (pc := 357) (i := 0) (j := 0) rfl rfl rfl ?_
                    refine z_bipush (pc := 358) (v := 41) rfl (by decide) ?_
                    refine z_cV (pc := 360) (mc1 := 0) (ms1 := 0) (mc2 := 0) (ms2 := 0) (as := [.int 41]) (rest := []) (o := 44) rfl rfl hk.1.1 ok_Mod_isSign rfl rfl cl_Mod_164 (by omega) (Nat.le_of_ble_eq_true rfl) (Nat.le_of_ble_eq_true rfl) (Nat.le_refl _) (Nat.le_refl _) (c_Mod_isSign hk hS (c := 41) (by decide) 0) (fun r1 w1 hp => ?_) rfl rfl
                    obtain ⟨rfl, hw1⟩ := hp
                    rw [hw1]
                    refine ⟨⟨Nat.le_refl _, Or.inl rfl⟩, ?_⟩
                    refine z_if_eq (pc := 363) (tgt := 399) rfl (by decide) (fun h363 => ?_) (fun h363 => ?_)
                    · refine z_iload_n (pc := 399) (i := 1) (j := 1) rfl rfl rfl ?_
                      refine z_if_ne (pc := 400) (tgt := 418) rfl (by decide) (fun h400 => ?_) (fun h400 => ?_)
                      · refine z_aload_n (pc := 418) (i := 0) (j := 0) rfl rfl rfl ?_
                        refine z_iconst (pc := 419) (v := 1) rfl (by decide) ?_
                        refine z_cV (pc := 420) (mc1 := 0) (ms1 := 0) (mc2 := 0) (ms2 := 0) (as := [.int 1]) (rest := []) (o := 44) rfl rfl hk.1.1 ok_Mod_fails rfl rfl cl_Mod_168 (by omega) (Nat.le_of_ble_eq_true rfl) (Nat.le_of_ble_eq_true rfl) (Nat.le_refl _) (Nat.le_refl _) (c_Mod_fails hk hS 1 0) (fun r1 w1 hp => ?_) rfl rfl
                        obtain ⟨rfl, hw1⟩ := hp
                        rw [hw1]
                        refine ⟨⟨Nat.le_refl _, Or.inl rfl⟩, ?_⟩
                        exact z_zret (pc := 423) rfl rfl (by decide) (hPE _ (rdsF_I hQ.1 _ (Or.inr (Or.inr (Or.inr ⟨rfl, Or.inl rfl⟩)))) rfl)
                      · refine z_aload_n (pc := 403) (i := 0) (j := 0) rfl rfl rfl ?_
                        refine z_bipush (pc := 404) (v := 59) rfl (by decide) ?_
                        refine z_cV (pc := 406) (mc1 := 0) (ms1 := 0) (mc2 := 0) (ms2 := 0) (as := [.int 59]) (rest := []) (o := 44) rfl rfl hk.1.1 ok_Mod_isSign rfl rfl cl_Mod_164 (by omega) (Nat.le_of_ble_eq_true rfl) (Nat.le_of_ble_eq_true rfl) (Nat.le_refl _) (Nat.le_refl _) (c_Mod_isSign hk hS (c := 59) (by decide) 0) (fun r1 w1 hp => ?_) rfl rfl
                        obtain ⟨rfl, hw1⟩ := hp
                        rw [hw1]
                        refine ⟨⟨Nat.le_refl _, Or.inl rfl⟩, ?_⟩
                        refine z_if_eq (pc := 409) (tgt := 418) rfl (by decide) (fun h409 => ?_) (fun h409 => ?_)
                        · refine z_aload_n (pc := 418) (i := 0) (j := 0) rfl rfl rfl ?_
                          refine z_iconst (pc := 419) (v := 1) rfl (by decide) ?_
                          refine z_cV (pc := 420) (mc1 := 0) (ms1 := 0) (mc2 := 0) (ms2 := 0) (as := [.int 1]) (rest := []) (o := 44) rfl rfl hk.1.1 ok_Mod_fails rfl rfl cl_Mod_168 (by omega) (Nat.le_of_ble_eq_true rfl) (Nat.le_of_ble_eq_true rfl) (Nat.le_refl _) (Nat.le_refl _) (c_Mod_fails hk hS 1 0) (fun r1 w1 hp => ?_) rfl rfl
                          obtain ⟨rfl, hw1⟩ := hp
                          rw [hw1]
                          refine ⟨⟨Nat.le_refl _, Or.inl rfl⟩, ?_⟩
                          exact z_zret (pc := 423) rfl rfl (by decide) (hPE _ (rdsF_I hQ.1 _ (Or.inr (Or.inr (Or.inr ⟨rfl, Or.inl rfl⟩)))) rfl)
                        · exact absurd (show d = 0 from Decidable.byContradiction (fun z => nI_ne0 (Nat.pos_of_ne_zero z) (by omega) h400)) (h59 (Decidable.byContradiction (fun z => h409 (if_neg z))))
                    · refine z_iload_n (pc := 366) (i := 1) (j := 1) rfl rfl rfl ?_
                      refine z_if_le (pc := 367) (tgt := 399) rfl (by decide) (fun h367 => ?_) (fun h367 => ?_)
                      · refine z_iload_n (pc := 399) (i := 1) (j := 1) rfl rfl rfl ?_
                        refine z_if_ne (pc := 400) (tgt := 418) rfl (by decide) (fun h400 => ?_) (fun h400 => ?_)
                        · refine z_aload_n (pc := 418) (i := 0) (j := 0) rfl rfl rfl ?_
                          refine z_iconst (pc := 419) (v := 1) rfl (by decide) ?_
                          refine z_cV (pc := 420) (mc1 := 0) (ms1 := 0) (mc2 := 0) (ms2 := 0) (as := [.int 1]) (rest := []) (o := 44) rfl rfl hk.1.1 ok_Mod_fails rfl rfl cl_Mod_168 (by omega) (Nat.le_of_ble_eq_true rfl) (Nat.le_of_ble_eq_true rfl) (Nat.le_refl _) (Nat.le_refl _) (c_Mod_fails hk hS 1 0) (fun r1 w1 hp => ?_) rfl rfl
                          obtain ⟨rfl, hw1⟩ := hp
                          rw [hw1]
                          refine ⟨⟨Nat.le_refl _, Or.inl rfl⟩, ?_⟩
                          exact z_zret (pc := 423) rfl rfl (by decide) (hPE _ (rdsF_I hQ.1 _ (Or.inr (Or.inr (Or.inr ⟨rfl, Or.inl rfl⟩)))) rfl)
                        · refine z_aload_n (pc := 403) (i := 0) (j := 0) rfl rfl rfl ?_
                          refine z_bipush (pc := 404) (v := 59) rfl (by decide) ?_
                          refine z_cV (pc := 406) (mc1 := 0) (ms1 := 0) (mc2 := 0) (ms2 := 0) (as := [.int 59]) (rest := []) (o := 44) rfl rfl hk.1.1 ok_Mod_isSign rfl rfl cl_Mod_164 (by omega) (Nat.le_of_ble_eq_true rfl) (Nat.le_of_ble_eq_true rfl) (Nat.le_refl _) (Nat.le_refl _) (c_Mod_isSign hk hS (c := 59) (by decide) 0) (fun r1 w1 hp => ?_) rfl rfl
                          obtain ⟨rfl, hw1⟩ := hp
                          rw [hw1]
                          refine ⟨⟨Nat.le_refl _, Or.inl rfl⟩, ?_⟩
                          refine z_if_eq (pc := 409) (tgt := 418) rfl (by decide) (fun h409 => ?_) (fun h409 => ?_)
                          · refine z_aload_n (pc := 418) (i := 0) (j := 0) rfl rfl rfl ?_
                            refine z_iconst (pc := 419) (v := 1) rfl (by decide) ?_
                            refine z_cV (pc := 420) (mc1 := 0) (ms1 := 0) (mc2 := 0) (ms2 := 0) (as := [.int 1]) (rest := []) (o := 44) rfl rfl hk.1.1 ok_Mod_fails rfl rfl cl_Mod_168 (by omega) (Nat.le_of_ble_eq_true rfl) (Nat.le_of_ble_eq_true rfl) (Nat.le_refl _) (Nat.le_refl _) (c_Mod_fails hk hS 1 0) (fun r1 w1 hp => ?_) rfl rfl
                            obtain ⟨rfl, hw1⟩ := hp
                            rw [hw1]
                            refine ⟨⟨Nat.le_refl _, Or.inl rfl⟩, ?_⟩
                            exact z_zret (pc := 423) rfl rfl (by decide) (hPE _ (rdsF_I hQ.1 _ (Or.inr (Or.inr (Or.inr ⟨rfl, Or.inl rfl⟩)))) rfl)
                          · exact absurd (show d = 0 from Decidable.byContradiction (fun z => nI_ne0 (Nat.pos_of_ne_zero z) (by omega) h400)) (h59 (Decidable.byContradiction (fun z => h409 (if_neg z))))
                      · exact absurd (by rw [h41 (Decidable.byContradiction (fun z => h363 (if_neg z)))]; decide) h367
                  · first | exact absurd h321 (by decide) | exact absurd (by decide) h321
              · exact absurd (Decidable.byContradiction (fun z => h260 (if_neg z))) (hO.2.1 h269).2
        · first | exact absurd h203 (by decide) | exact absurd (by decide) h203
  · first | exact absurd h12 (by decide) | exact absurd (by decide) h12
set_option maxRecDepth 100000 in
set_option maxHeartbeats 4000000 in
theorem rd_B6 {T : Nat → Int32} {n L s j0 dd : Nat} {w0 : zW} {P : Option Value → zW → Prop} (hk0 : mK w0 n T) (hpl : (zI w0 44 21 = 0 ∧ ¬ L = s + 9) ∨ (zI w0 44 21 = 1 ∧ L = s + 9)) (hdd : 2 ≤ dd) (hj0 : 1000 ≤ j0 ∧ j0 ≤ 5000) {p : Nat} {op cm : Nat → Int32} {Y : List Int32} (hc : tC T n p = 59) (hPG : ∀ w, rdQ T n w0 j0 (tEnd T n p) op cm Y w → P (some (.int 1)) w) : rdH T n w0 j0 dd P p 0 false op cm Y := by
  intro hp hd5 hj w hQ
  have hk := mK_R hk0 hQ.1
  have hS := hQ.2.1
  have hj19 := hQ.2.2.2.2.1
  have hn1 := hk0.2.2.1
  refine z_iload_n (pc := 11) (i := 2) (j := 2) rfl rfl rfl ?_
  refine z_if_eq (pc := 12) (tgt := 179) rfl (by decide) (fun h12 => ?_) (fun h12 => ?_)
  · refine z_aload_n (pc := 179) (i := 0) (j := 0) rfl rfl rfl ?_
    refine z_bipush (pc := 180) (v := 43) rfl (by decide) ?_
    refine z_cV (pc := 182) (mc1 := 0) (ms1 := 0) (mc2 := 0) (ms2 := 0) (as := [.int 43]) (rest := []) (o := 44) rfl rfl hk.1.1 ok_Mod_isSign rfl rfl cl_Mod_164 (by omega) (Nat.le_of_ble_eq_true rfl) (Nat.le_of_ble_eq_true rfl) (Nat.le_refl _) (Nat.le_refl _) (c_Mod_isSign hk hS (c := 43) (by decide) 0) (fun r1 w1 hp => ?_) rfl rfl
    obtain ⟨rfl, hw1⟩ := hp
    rw [hw1]
    refine ⟨⟨Nat.le_refl _, Or.inl rfl⟩, ?_⟩
    refine z_eqi (y := 0) (if_neg (by rw [hc]; decide)) ?_
    refine z_if_ne (pc := 185) (tgt := 206) rfl (by decide) (fun h185 => ?_) (fun h185 => ?_)
    · first | exact absurd h185 (by decide) | exact absurd (by decide) h185
    · refine z_aload_n (pc := 188) (i := 0) (j := 0) rfl rfl rfl ?_
      refine z_bipush (pc := 189) (v := 45) rfl (by decide) ?_
      refine z_cV (pc := 191) (mc1 := 0) (ms1 := 0) (mc2 := 0) (ms2 := 0) (as := [.int 45]) (rest := []) (o := 44) rfl rfl hk.1.1 ok_Mod_isSign rfl rfl cl_Mod_164 (by omega) (Nat.le_of_ble_eq_true rfl) (Nat.le_of_ble_eq_true rfl) (Nat.le_refl _) (Nat.le_refl _) (c_Mod_isSign hk hS (c := 45) (by decide) 0) (fun r1 w1 hp => ?_) rfl rfl
      obtain ⟨rfl, hw1⟩ := hp
      rw [hw1]
      refine ⟨⟨Nat.le_refl _, Or.inl rfl⟩, ?_⟩
      refine z_eqi (y := 0) (if_neg (by rw [hc]; decide)) ?_
      refine z_if_ne (pc := 194) (tgt := 206) rfl (by decide) (fun h194 => ?_) (fun h194 => ?_)
      · first | exact absurd h194 (by decide) | exact absurd (by decide) h194
      · refine z_aload_n (pc := 197) (i := 0) (j := 0) rfl rfl rfl ?_
        refine z_bipush (pc := 198) (v := 42) rfl (by decide) ?_
        refine z_cV (pc := 200) (mc1 := 0) (ms1 := 0) (mc2 := 0) (ms2 := 0) (as := [.int 42]) (rest := []) (o := 44) rfl rfl hk.1.1 ok_Mod_isSign rfl rfl cl_Mod_164 (by omega) (Nat.le_of_ble_eq_true rfl) (Nat.le_of_ble_eq_true rfl) (Nat.le_refl _) (Nat.le_refl _) (c_Mod_isSign hk hS (c := 42) (by decide) 0) (fun r1 w1 hp => ?_) rfl rfl
        obtain ⟨rfl, hw1⟩ := hp
        rw [hw1]
        refine ⟨⟨Nat.le_refl _, Or.inl rfl⟩, ?_⟩
        refine z_eqi (y := 0) (if_neg (by rw [hc]; decide)) ?_
        refine z_if_eq (pc := 203) (tgt := 245) rfl (by decide) (fun h203 => ?_) (fun h203 => ?_)
        · refine z_aload_n (pc := 245) (i := 0) (j := 0) rfl rfl rfl ?_
          refine z_bipush (pc := 246) (v := 60) rfl (by decide) ?_
          refine z_cV (pc := 248) (mc1 := 0) (ms1 := 0) (mc2 := 0) (ms2 := 0) (as := [.int 60]) (rest := []) (o := 44) rfl rfl hk.1.1 ok_Mod_isSign rfl rfl cl_Mod_164 (by omega) (Nat.le_of_ble_eq_true rfl) (Nat.le_of_ble_eq_true rfl) (Nat.le_refl _) (Nat.le_refl _) (c_Mod_isSign hk hS (c := 60) (by decide) 0) (fun r1 w1 hp => ?_) rfl rfl
          obtain ⟨rfl, hw1⟩ := hp
          rw [hw1]
          refine ⟨⟨Nat.le_refl _, Or.inl rfl⟩, ?_⟩
          refine z_eqi (y := 0) (if_neg (by rw [hc]; decide)) ?_
          refine z_if_ne (pc := 251) (tgt := 263) rfl (by decide) (fun h251 => ?_) (fun h251 => ?_)
          · first | exact absurd h251 (by decide) | exact absurd (by decide) h251
          · refine z_aload_n (pc := 254) (i := 0) (j := 0) rfl rfl rfl ?_
            refine z_bipush (pc := 255) (v := 61) rfl (by decide) ?_
            refine z_cV (pc := 257) (mc1 := 0) (ms1 := 0) (mc2 := 0) (ms2 := 0) (as := [.int 61]) (rest := []) (o := 44) rfl rfl hk.1.1 ok_Mod_isSign rfl rfl cl_Mod_164 (by omega) (Nat.le_of_ble_eq_true rfl) (Nat.le_of_ble_eq_true rfl) (Nat.le_refl _) (Nat.le_refl _) (c_Mod_isSign hk hS (c := 61) (by decide) 0) (fun r1 w1 hp => ?_) rfl rfl
            obtain ⟨rfl, hw1⟩ := hp
            rw [hw1]
            refine ⟨⟨Nat.le_refl _, Or.inl rfl⟩, ?_⟩
            refine z_eqi (y := 0) (if_neg (by rw [hc]; decide)) ?_
            refine z_if_eq (pc := 260) (tgt := 304) rfl (by decide) (fun h260 => ?_) (fun h260 => ?_)
            · refine z_aload_n (pc := 304) (i := 0) (j := 0) rfl rfl rfl ?_
              refine z_ldc2 (pc := 305) (v := 1111) rfl kl_Mod_177 ?_
              refine z_cV (pc := 308) (mc1 := 0) (ms1 := 0) (mc2 := 0) (ms2 := 0) (as := [.long 1111]) (rest := []) (o := 44) rfl rfl hk.1.1 ok_Mod_isWord rfl rfl cl_Mod_160 (by omega) (Nat.le_of_ble_eq_true rfl) (Nat.le_of_ble_eq_true rfl) (Nat.le_refl _) (Nat.le_refl _) (c_wd hk hS (i := 14) (by decide) (x := 1111) rfl 0) (fun r1 w1 hp => ?_) rfl rfl
              obtain ⟨rfl, hw1⟩ := hp
              rw [hw1]
              refine ⟨⟨Nat.le_refl _, Or.inl rfl⟩, ?_⟩
              refine z_eqi (y := 0) (if_neg (fun e => absurd (tW_3 e) (by rw [hc]; decide))) ?_
              refine z_if_ne (pc := 311) (tgt := 324) rfl (by decide) (fun h311 => ?_) (fun h311 => ?_)
              · first | exact absurd h311 (by decide) | exact absurd (by decide) h311
              · refine z_aload_n (pc := 314) (i := 0) (j := 0) rfl rfl rfl ?_
                refine z_ldc2 (pc := 315) (v := 423) rfl kl_Mod_179 ?_
                refine z_cV (pc := 318) (mc1 := 0) (ms1 := 0) (mc2 := 0) (ms2 := 0) (as := [.long 423]) (rest := []) (o := 44) rfl rfl hk.1.1 ok_Mod_isWord rfl rfl cl_Mod_160 (by omega) (Nat.le_of_ble_eq_true rfl) (Nat.le_of_ble_eq_true rfl) (Nat.le_refl _) (Nat.le_refl _) (c_wd hk hS (i := 15) (by decide) (x := 423) rfl 0) (fun r1 w1 hp => ?_) rfl rfl
                obtain ⟨rfl, hw1⟩ := hp
                rw [hw1]
                refine ⟨⟨Nat.le_refl _, Or.inl rfl⟩, ?_⟩
                refine z_eqi (y := 0) (if_neg (fun e => absurd (tW_3 e) (by rw [hc]; decide))) ?_
                refine z_if_eq (pc := 321) (tgt := 357) rfl (by decide) (fun h321 => ?_) (fun h321 => ?_)
                · refine z_aload_n (pc := 357) (i := 0) (j := 0) rfl rfl rfl ?_
                  refine z_bipush (pc := 358) (v := 41) rfl (by decide) ?_
                  refine z_cV (pc := 360) (mc1 := 0) (ms1 := 0) (mc2 := 0) (ms2 := 0) (as := [.int 41]) (rest := []) (o := 44) rfl rfl hk.1.1 ok_Mod_isSign rfl rfl cl_Mod_164 (by omega) (Nat.le_of_ble_eq_true rfl) (Nat.le_of_ble_eq_true rfl) (Nat.le_refl _) (Nat.le_refl _) (c_Mod_isSign hk hS (c := 41) (by decide) 0) (fun r1 w1 hp => ?_) rfl rfl
                  obtain ⟨rfl, hw1⟩ := hp
                  rw [hw1]
                  refine ⟨⟨Nat.le_refl _, Or.inl rfl⟩, ?_⟩
                  refine z_eqi (y := 0) (if_neg (by rw [hc]; decide)) ?_
                  refine z_if_eq (pc := 363) (tgt := 399) rfl (by decide) (fun h363 => ?_) (fun h363 => ?_)
                  · refine z_iload_n (pc := 399) (i := 1) (j := 1) rfl rfl rfl ?_
                    refine z_if_ne (pc := 400) (tgt := 418) rfl (by decide) (fun h400 => ?_) (fun h400 => ?_)
                    · exact absurd rfl h400
                    · refine z_aload_n (pc := 403) (i := 0) (j := 0) rfl rfl rfl ?_
                      refine z_bipush (pc := 404) (v := 59) rfl (by decide) ?_
                      refine z_cV (pc := 406) (mc1 := 0) (ms1 := 0) (mc2 := 0) (ms2 := 0) (as := [.int 59]) (rest := []) (o := 44) rfl rfl hk.1.1 ok_Mod_isSign rfl rfl cl_Mod_164 (by omega) (Nat.le_of_ble_eq_true rfl) (Nat.le_of_ble_eq_true rfl) (Nat.le_refl _) (Nat.le_refl _) (c_Mod_isSign hk hS (c := 59) (by decide) 0) (fun r1 w1 hp => ?_) rfl rfl
                      obtain ⟨rfl, hw1⟩ := hp
                      rw [hw1]
                      refine ⟨⟨Nat.le_refl _, Or.inl rfl⟩, ?_⟩
                      refine z_eqi (y := 1) (if_pos hc) ?_
                      refine z_if_eq (pc := 409) (tgt := 418) rfl (by decide) (fun h409 => ?_) (fun h409 => ?_)
                      · first | exact absurd h409 (by decide) | exact absurd (by decide) h409
                      · refine z_aload_n (pc := 412) (i := 0) (j := 0) rfl rfl rfl ?_
                        refine z_nmw (fun w7 hw7 => ?_)
                        have hQ7 : rdQ T n w0 j0 p op cm Y w7 := by
                          rw [hw7]
                          exact hQ
                        refine z_cV (pc := 413) (mc1 := 0) (ms1 := 0) (mc2 := 0) (ms2 := 0) (as := []) (rest := []) (o := 44) rfl rfl (mK_R hk0 hQ7.1).1.1 ok_Mod_nextToken rfl rfl cl_Mod_174 (by omega) (Nat.le_of_ble_eq_true rfl) (Nat.le_of_ble_eq_true rfl) (Nat.le_refl _) (Nat.le_refl _) (c_Mod_nextToken (w := w7) (mK_R hk0 hQ7.1) (p := tEnd T n p) (tEnd_le hS.2.2.2.2.2) hQ7.2.1.1 1 (by decide)) (fun r1 w8 hp => ?_) rfl rfl
                        obtain ⟨rfl, hF8, hS8⟩ := hp
                        refine ⟨⟨by rw [hF8.1]; exact Nat.le_refl _, Or.inl (by rw [hF8.1])⟩, ?_⟩
                        refine z_iconst (pc := 416) (v := 1) rfl (by decide) ?_
                        exact z_zret (pc := 417) rfl rfl (by decide) (hPG _ (rdQ_nx hQ7 hF8 hS8))
                  · first | exact absurd h363 (by decide) | exact absurd (by decide) h363
                · first | exact absurd h321 (by decide) | exact absurd (by decide) h321
            · first | exact absurd h260 (by decide) | exact absurd (by decide) h260
        · first | exact absurd h203 (by decide) | exact absurd (by decide) h203
  · first | exact absurd h12 (by decide) | exact absurd (by decide) h12
theorem rd_AU {T : Nat → Int32} {n L s j0 dd : Nat} {w0 : zW} {P : Option Value → zW → Prop} (hk0 : mK w0 n T) (hpl : (zI w0 44 21 = 0 ∧ ¬ L = s + 9) ∨ (zI w0 44 21 = 1 ∧ L = s + 9)) (hdd : 2 ≤ dd) (hj0 : 1000 ≤ j0 ∧ j0 ≤ 5000) : AU T n L s (rdH T n w0 j0 dd P) (rdE w0 P) := by
  refine ⟨fun p d op cm Y h k => rd_A1 hk0 hpl hdd hj0 h k, fun p op cm Y h k => rd_A2 hk0 hpl hdd hj0 h k, fun p d op cm Y h1 h2 k => rd_A3 hk0 hpl hdd hj0 h1 h2 k, fun p d op cm Y h1 h2 k => rd_A4 hk0 hpl hdd hj0 h1 h2 k, fun p d op cm Y h1 h2 h3 h4 k => ?_, fun p d op cm Y c e h h1 k => ?_, fun p d op cm Y c e h h1 h2 k => ?_, fun p d op cm Y a e h h1 k => ?_, fun p d op cm Y h k => rd_B4 hk0 hpl hdd hj0 h k, fun p d op cm Y h1 h2 h3 k => rd_B5 hk0 hpl hdd hj0 h1 h2 h3 k⟩
  · by_cases q : tC T n p = 2
    · rw [show lfc T n L s p = 100 + numV T (tBeg T n p) (tLen T n p) from if_pos q] at k
      exact rd_A5n hk0 hpl hdd hj0 h1 q k
    · rw [show lfc T n L s p = 0 - fctS T n L s (.inl p) from if_neg q] at k
      refine rd_A5f hk0 hpl hdd hj0 h1 ?_ h3 h4 k
      rcases h2 with z | z | z | z
      · exact absurd z q
      · exact absurd z h3
      · exact absurd z h4
      · exact z
  · rcases h with ⟨rfl, rfl⟩ | ⟨rfl, rfl⟩ | ⟨rfl, rfl⟩
    · exact rd_B1p hk0 hpl hdd hj0 h1 k
    · exact rd_B1m hk0 hpl hdd hj0 h1 k
    · exact rd_B1t hk0 hpl hdd hj0 h1 k
  · rcases h with ⟨rfl, rfl⟩ | ⟨rfl, rfl⟩
    · exact rd_B2l hk0 hpl hdd hj0 h1 h2 k
    · exact rd_B2e hk0 hpl hdd hj0 h1 h2 k
  · rcases h with ⟨rfl, rfl⟩ | ⟨rfl, rfl⟩
    · exact rd_B3a hk0 hpl hdd hj0 h1 k
    · exact rd_B3o hk0 hpl hdd hj0 h1 k
