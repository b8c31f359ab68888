/-! THE READER: a statement, and all -/
set_option maxRecDepth 100000 in
set_option maxHeartbeats 4000000 in
theorem l_stmt199 {w : zW} {s n : Nat} {T : Nat → Int32} (hk : rdK w s n T) (D : rDt) (hD : rD w T n s D) (d : Nat) (hd : 6 ≤ d) : zS 0 0 d m_Reader_readStatement (fun rv w1 => rv = none ∧ rH s w w1 ∧ rD w1 T n s (expS T n 59 D.1, D.2)) 199 [(0, .ref 3)] [] w := by
  have hs3 := rdK_s hk
  refine z_aload_n (pc := 199) (i := 0) (j := 0) rfl rfl rfl ?_
  refine z_bipush (pc := 200) (v := 59) rfl (by decide) ?_
  refine z_cV (pc := 202) (mc1 := 0) (ms1 := 0) (mc2 := 0) (ms2 := 0) (as := [.int 59]) (rest := []) (o := 3) rfl rfl hk.1 ok_Reader_expectSign rfl rfl cl_Reader_125 (by omega) (Nat.le_of_ble_eq_true rfl) (Nat.le_of_ble_eq_true rfl) (Nat.le_refl _) (Nat.le_refl _) (c_Reader_expectSign hk _ hD.1 59 5 (by decide)) (fun r1 w1 hp => ?_) rfl rfl
  obtain ⟨rfl, hF1, hS1⟩ := hp
  refine ⟨⟨by rw [hF1.1]; exact Nat.le_refl _, Or.inl (by rw [hF1.1])⟩, ?_⟩
  exact z_vret (pc := 205) rfl rfl ⟨rfl, rH_F hF1, rD_F hD hs3 hF1 hS1⟩
set_option maxRecDepth 100000 in
set_option maxHeartbeats 4000000 in
theorem c_Reader_readStatement {w : zW} {s n : Nat} {T : Nat → Int32} (hk : rdK w s n T) (D : rDt) (hD : rD w T n s D) {Hn : Nat} (hHn : D.2.1 s 11 = nI Hn) (hH8 : Hn ≤ 8) (d : Nat) (hd : 132 ≤ d) : zS 0 0 d m_Reader_readStatement (fun rv w1 => rv = none ∧ rH s w w1 ∧ rD w1 T n s (dStmt T n s D)) 0 [(0, .ref 3)] [] w := by
  have hs3 := rdK_s hk
  have hH := rH_r s w
  refine z_aload_n (pc := 0) (i := 0) (j := 0) rfl rfl rfl ?_
  refine z_getA (pc := 1) rfl fl_Reader_67 hk.1 rfl ?_
  refine z_gets (pc := 4) (C0 := "SmokeWeds$Word") (n1 := "FIELD") (d1 := "LSmokeWeds$Word;") (v := .ref 1000000) rfl (by decide +kernel) gl_Reader_71 ?_
  refine z_acmp_ne (x := (zR w 3 8)) (y := (some 1000000)) (pc := 7) (tgt := 17) rfl (by decide) (zid_t hD.1) (zid_c (by decide) (by decide)) (fun h7 => ?_) (fun h7 => ?_)
  · refine z_aload_n (pc := 17) (i := 0) (j := 0) rfl rfl rfl ?_
    refine z_getA (pc := 18) rfl fl_Reader_67 hk.1 rfl ?_
    refine z_gets (pc := 21) (C0 := "SmokeWeds$Word") (n1 := "WIND") (d1 := "LSmokeWeds$Word;") (v := .ref 1000001) rfl (by decide +kernel) gl_Reader_79 ?_
    refine z_acmp_ne (x := (zR w 3 8)) (y := (some 1000001)) (pc := 24) (tgt := 58) rfl (by decide) (zid_t hD.1) (zid_c (by decide) (by decide)) (fun h24 => ?_) (fun h24 => ?_)
    · refine z_aload_n (pc := 58) (i := 0) (j := 0) rfl rfl rfl ?_
      refine z_getA (pc := 59) rfl fl_Reader_67 hk.1 rfl ?_
      refine z_gets (pc := 62) (C0 := "SmokeWeds$Word") (n1 := "PLUME") (d1 := "LSmokeWeds$Word;") (v := .ref 1000002) rfl (by decide +kernel) gl_Reader_94 ?_
      refine z_acmp_ne (x := (zR w 3 8)) (y := (some 1000002)) (pc := 65) (tgt := 99) rfl (by decide) (zid_t hD.1) (zid_c (by decide) (by decide)) (fun h65 => ?_) (fun h65 => ?_)
      · refine z_aload_n (pc := 99) (i := 0) (j := 0) rfl rfl rfl ?_
        refine z_getA (pc := 100) rfl fl_Reader_67 hk.1 rfl ?_
        refine z_gets (pc := 103) (C0 := "SmokeWeds$Word") (n1 := "COLD") (d1 := "LSmokeWeds$Word;") (v := .ref 1000003) rfl (by decide +kernel) gl_Reader_100 ?_
        refine z_acmp_ne (x := (zR w 3 8)) (y := (some 1000003)) (pc := 106) (tgt := 138) rfl (by decide) (zid_t hD.1) (zid_c (by decide) (by decide)) (fun h106 => ?_) (fun h106 => ?_)
        · refine z_aload_n (pc := 138) (i := 0) (j := 0) rfl rfl rfl ?_
          refine z_getA (pc := 139) rfl fl_Reader_67 hk.1 rfl ?_
          refine z_gets (pc := 142) (C0 := "SmokeWeds$Word") (n1 := "TURNS") (d1 := "LSmokeWeds$Word;") (v := .ref 1000004) rfl (by decide +kernel) gl_Reader_110 ?_
          refine z_acmp_ne (x := (zR w 3 8)) (y := (some 1000004)) (pc := 145) (tgt := 177) rfl (by decide) (zid_t hD.1) (zid_c (by decide) (by decide)) (fun h145 => ?_) (fun h145 => ?_)
          · refine z_aload_n (pc := 177) (i := 0) (j := 0) rfl rfl rfl ?_
            refine z_getA (pc := 178) rfl fl_Reader_67 hk.1 rfl ?_
            refine z_gets (pc := 181) (C0 := "SmokeWeds$Word") (n1 := "HOUSE") (d1 := "LSmokeWeds$Word;") (v := .ref 1000005) rfl (by decide +kernel) gl_Reader_116 ?_
            refine z_acmp_ne (x := (zR w 3 8)) (y := (some 1000005)) (pc := 184) (tgt := 194) rfl (by decide) (zid_t hD.1) (zid_c (by decide) (by decide)) (fun h184 => ?_) (fun h184 => ?_)
            · refine z_aload_n (pc := 194) (i := 0) (j := 0) rfl rfl rfl ?_
              refine z_iconst (pc := 195) (v := 1) rfl (by decide) ?_
              refine z_cV (pc := 196) (mc1 := 0) (ms1 := 0) (mc2 := 0) (ms2 := 0) (as := [.int 1]) (rest := []) (o := 3) rfl rfl hk.1 ok_Reader_wrong rfl rfl cl_Reader_122 (by omega) (Nat.le_of_ble_eq_true rfl) (Nat.le_of_ble_eq_true rfl) (Nat.le_refl _) (Nat.le_refl _) (c_Reader_wrong1 hk _ hD.1 1 (by decide)) (fun r1 w1 hp => ?_) rfl rfl
              obtain ⟨rfl, hF1, hS1⟩ := hp
              refine ⟨⟨by rw [hF1.1]; exact Nat.le_refl _, Or.inl (by rw [hF1.1])⟩, ?_⟩
              have hk1 := rdK_F hk hF1
              have hD1 : rD w1 T n s (wrg T n 1 D.1, D.2) := rD_F (D := (D)) hD hs3 hF1 hS1
              have hH1 := rH_t hH (rH_F (s := s) hF1)
              have e9 : dStm T n s D = (wrg T n 1 D.1, D.2) := by unfold dStm; rw [if_neg (fun z => h7 ((rS_w hD.1).trans z)), if_neg (fun z => h24 ((rS_w hD.1).trans z)), if_neg (fun z => h65 ((rS_w hD.1).trans z)), if_neg (fun z => h106 ((rS_w hD.1).trans z)), if_neg (fun z => h145 ((rS_w hD.1).trans z)), if_neg (fun z => h184 ((rS_w hD.1).trans z))]
              refine z_mono (fun r w9 h9 => ?_) (l_stmt199 hk1 _ hD1 d (by omega))
              refine ⟨h9.1, rH_t hH1 h9.2.1, ?_⟩
              unfold dStmt
              rw [e9]
              exact h9.2.2
            · refine z_aload_n (pc := 187) (i := 0) (j := 0) rfl rfl rfl ?_
              refine z_cV (pc := 188) (mc1 := 0) (ms1 := 0) (mc2 := 0) (ms2 := 0) (as := []) (rest := []) (o := 3) rfl rfl hk.1 ok_Reader_readHouse rfl rfl cl_Reader_119 (by omega) (Nat.le_of_ble_eq_true rfl) (Nat.le_of_ble_eq_true rfl) (Nat.le_refl _) (Nat.le_refl _) (c_Reader_readHouse hk D hD hHn hH8 6 (by decide)) (fun r1 w2 hp => ?_) rfl rfl
              obtain ⟨rfl, hH2, hD2⟩ := hp
              refine ⟨⟨by rw [hH2.1]; exact Nat.le_refl _, Or.inl (by rw [hH2.1])⟩, ?_⟩
              have hk2 := rdK_H hk hH2
              refine z_goto (pc := 191) (tgt := 199) rfl (by decide) ?_
              have e9 : dStm T n s D = (dHouse T n s D) := by unfold dStm; rw [if_neg (fun z => h7 ((rS_w hD.1).trans z)), if_neg (fun z => h24 ((rS_w hD.1).trans z)), if_neg (fun z => h65 ((rS_w hD.1).trans z)), if_neg (fun z => h106 ((rS_w hD.1).trans z)), if_neg (fun z => h145 ((rS_w hD.1).trans z)), if_pos ((rS_w hD.1).symm.trans h184)]
              refine z_mono (fun r w9 h9 => ?_) (l_stmt199 hk2 _ hD2 d (by omega))
              refine ⟨h9.1, rH_t hH2 h9.2.1, ?_⟩
              unfold dStmt
              rw [e9]
              exact h9.2.2
          · refine z_aload_n (pc := 148) (i := 0) (j := 0) rfl rfl rfl ?_
            refine z_aload_n (pc := 149) (i := 0) (j := 0) rfl rfl rfl ?_
            refine z_aload_n (pc := 150) (i := 0) (j := 0) rfl rfl rfl ?_
            refine z_getI (pc := 151) rfl fl_Reader_55 hk.1 rfl ?_
            refine z_eqi (y := D.2.1 3 14) (hD.2.2.2.2.1 14 (by decide)) ?_
            refine z_cV (pc := 154) (mc1 := 0) (ms1 := 0) (mc2 := 0) (ms2 := 0) (as := [.int (D.2.1 3 14)]) (rest := [.ref 3]) (o := 3) rfl rfl hk.1 ok_Reader_once rfl rfl cl_Reader_82 (by omega) (Nat.le_of_ble_eq_true rfl) (Nat.le_of_ble_eq_true rfl) (Nat.le_refl _) (Nat.le_refl _) (c_Reader_once hk _ hD.1 (D.2.1 3 14) 5 (by decide)) (fun r1 w3 hp => ?_) rfl rfl
            obtain ⟨rfl, hF3, hS3⟩ := hp
            refine ⟨⟨by rw [hF3.1]; exact Nat.le_refl _, Or.inl (by rw [hF3.1])⟩, ?_⟩
            have hk3 := rdK_F hk hF3
            have hD3 : rD w3 T n s (onceS T n (D.2.1 3 14) D.1, D.2) := rD_F (D := (D)) hD hs3 hF3 hS3
            have hH3 := rH_t hH (rH_F (s := s) hF3)
            refine z_putZ (pc := 157) rfl fl_Reader_55 hk3.1 rfl (by decide) ?_
            refine z_nmw (fun w4 hw4 => ?_)
            have hD4 : rD w4 T n s (dOnce T n 14 (D.2.1 3 14) D) := by rw [hw4]; exact rD_3 hD3 (k := 14) (by decide) (1 : Int32)
            have hH4 : rH s w w4 := rH_t hH3 (by rw [hw4]; exact rH_I (by decide) _ _)
            have hk4 := rdK_H hk hH4
            refine z_aload_n (pc := 160) (i := 0) (j := 0) rfl rfl rfl ?_
            refine z_getR (pc := 161) (x := s) rfl fl_Reader_21 hk4.1 rfl hk4.2.2.1 ?_
            refine z_aload_n (pc := 164) (i := 0) (j := 0) rfl rfl rfl ?_
            refine z_iconst (pc := 165) (v := 0) rfl (by decide) ?_
            refine z_bipush (pc := 166) (v := 10) rfl (by decide) ?_
            refine z_cV (pc := 168) (mc1 := 0) (ms1 := 0) (mc2 := 0) (ms2 := 0) (as := [.int 0, .int 10]) (rest := [.ref s]) (o := 3) rfl rfl hk4.1 ok_Reader_numberWithin rfl rfl cl_Reader_103 (by omega) (Nat.le_of_ble_eq_true rfl) (Nat.le_of_ble_eq_true rfl) (Nat.le_refl _) (Nat.le_refl _) (c_Reader_numberWithin hk4 _ hD4.1 0 10 5 (by decide)) (fun r1 w5 hp => ?_) rfl rfl
            obtain ⟨rfl, hF5, hS5⟩ := hp
            refine ⟨⟨by rw [hF5.1]; exact Nat.le_refl _, Or.inl (by rw [hF5.1])⟩, ?_⟩
            have hk5 := rdK_F hk4 hF5
            have hD5 : rD w5 T n s ((numW T n 0 10 (dOnce T n 14 (D.2.1 3 14) D).1).2, (dOnce T n 14 (D.2.1 3 14) D).2) := rD_F (D := (dOnce T n 14 (D.2.1 3 14) D)) hD4 hs3 hF5 hS5
            have hH5 := rH_t hH4 (rH_F (s := s) hF5)
            refine z_putI (pc := 171) rfl fl_Reader_113 hk5.2.2.2.2.2.2.1.1 rfl  ?_
            refine z_nmw (fun w6 hw6 => ?_)
            have hD6 : rD w6 T n s (dTurn T n s D) := by rw [hw6]; exact rD_I hD5 (o := s) (by omega) 10 ((numW T n 0 10 (dOnce T n 14 (D.2.1 3 14) D).1).1)
            have hH6 : rH s w w6 := rH_t hH5 (by rw [hw6]; exact rH_I (by omega) _ _)
            have hk6 := rdK_H hk hH6
            refine z_goto (pc := 174) (tgt := 199) rfl (by decide) ?_
            have e9 : dStm T n s D = (dTurn T n s D) := by unfold dStm; rw [if_neg (fun z => h7 ((rS_w hD.1).trans z)), if_neg (fun z => h24 ((rS_w hD.1).trans z)), if_neg (fun z => h65 ((rS_w hD.1).trans z)), if_neg (fun z => h106 ((rS_w hD.1).trans z)), if_pos ((rS_w hD.1).symm.trans h145)]
            refine z_mono (fun r w9 h9 => ?_) (l_stmt199 hk6 _ hD6 d (by omega))
            refine ⟨h9.1, rH_t hH6 h9.2.1, ?_⟩
            unfold dStmt
            rw [e9]
            exact h9.2.2
        · refine z_aload_n (pc := 109) (i := 0) (j := 0) rfl rfl rfl ?_
          refine z_aload_n (pc := 110) (i := 0) (j := 0) rfl rfl rfl ?_
          refine z_aload_n (pc := 111) (i := 0) (j := 0) rfl rfl rfl ?_
          refine z_getI (pc := 112) rfl fl_Reader_52 hk.1 rfl ?_
          refine z_eqi (y := D.2.1 3 13) (hD.2.2.2.2.1 13 (by decide)) ?_
          refine z_cV (pc := 115) (mc1 := 0) (ms1 := 0) (mc2 := 0) (ms2 := 0) (as := [.int (D.2.1 3 13)]) (rest := [.ref 3]) (o := 3) rfl rfl hk.1 ok_Reader_once rfl rfl cl_Reader_82 (by omega) (Nat.le_of_ble_eq_true rfl) (Nat.le_of_ble_eq_true rfl) (Nat.le_refl _) (Nat.le_refl _) (c_Reader_once hk _ hD.1 (D.2.1 3 13) 5 (by decide)) (fun r1 w7 hp => ?_) rfl rfl
          obtain ⟨rfl, hF7, hS7⟩ := hp
          refine ⟨⟨by rw [hF7.1]; exact Nat.le_refl _, Or.inl (by rw [hF7.1])⟩, ?_⟩
          have hk7 := rdK_F hk hF7
          have hD7 : rD w7 T n s (onceS T n (D.2.1 3 13) D.1, D.2) := rD_F (D := (D)) hD hs3 hF7 hS7
          have hH7 := rH_t hH (rH_F (s := s) hF7)
          refine z_putZ (pc := 118) rfl fl_Reader_52 hk7.1 rfl (by decide) ?_
          refine z_nmw (fun w8 hw8 => ?_)
          have hD8 : rD w8 T n s (dOnce T n 13 (D.2.1 3 13) D) := by rw [hw8]; exact rD_3 hD7 (k := 13) (by decide) (1 : Int32)
          have hH8 : rH s w w8 := rH_t hH7 (by rw [hw8]; exact rH_I (by decide) _ _)
          have hk8 := rdK_H hk hH8
          refine z_aload_n (pc := 121) (i := 0) (j := 0) rfl rfl rfl ?_
          refine z_getR (pc := 122) (x := s) rfl fl_Reader_21 hk8.1 rfl hk8.2.2.1 ?_
          refine z_aload_n (pc := 125) (i := 0) (j := 0) rfl rfl rfl ?_
          refine z_iconst (pc := 126) (v := 0) rfl (by decide) ?_
          refine z_bipush (pc := 127) (v := 99) rfl (by decide) ?_
          refine z_cV (pc := 129) (mc1 := 0) (ms1 := 0) (mc2 := 0) (ms2 := 0) (as := [.int 0, .int 99]) (rest := [.ref s]) (o := 3) rfl rfl hk8.1 ok_Reader_numberWithin rfl rfl cl_Reader_103 (by omega) (Nat.le_of_ble_eq_true rfl) (Nat.le_of_ble_eq_true rfl) (Nat.le_refl _) (Nat.le_refl _) (c_Reader_numberWithin hk8 _ hD8.1 0 99 5 (by decide)) (fun r1 w9 hp => ?_) rfl rfl
          obtain ⟨rfl, hF9, hS9⟩ := hp
          refine ⟨⟨by rw [hF9.1]; exact Nat.le_refl _, Or.inl (by rw [hF9.1])⟩, ?_⟩
          have hk9 := rdK_F hk8 hF9
          have hD9 : rD w9 T n s ((numW T n 0 99 (dOnce T n 13 (D.2.1 3 13) D).1).2, (dOnce T n 13 (D.2.1 3 13) D).2) := rD_F (D := (dOnce T n 13 (D.2.1 3 13) D)) hD8 hs3 hF9 hS9
          have hH9 := rH_t hH8 (rH_F (s := s) hF9)
          refine z_putI (pc := 132) rfl fl_Reader_107 hk9.2.2.2.2.2.2.1.1 rfl  ?_
          refine z_nmw (fun w10 hw10 => ?_)
          have hD10 : rD w10 T n s (dCold T n s D) := by rw [hw10]; exact rD_I hD9 (o := s) (by omega) 9 ((numW T n 0 99 (dOnce T n 13 (D.2.1 3 13) D).1).1)
          have hH10 : rH s w w10 := rH_t hH9 (by rw [hw10]; exact rH_I (by omega) _ _)
          have hk10 := rdK_H hk hH10
          refine z_goto (pc := 135) (tgt := 199) rfl (by decide) ?_
          have e9 : dStm T n s D = (dCold T n s D) := by unfold dStm; rw [if_neg (fun z => h7 ((rS_w hD.1).trans z)), if_neg (fun z => h24 ((rS_w hD.1).trans z)), if_neg (fun z => h65 ((rS_w hD.1).trans z)), if_pos ((rS_w hD.1).symm.trans h106)]
          refine z_mono (fun r w9 h9 => ?_) (l_stmt199 hk10 _ hD10 d (by omega))
          refine ⟨h9.1, rH_t hH10 h9.2.1, ?_⟩
          unfold dStmt
          rw [e9]
          exact h9.2.2
      · refine z_aload_n (pc := 68) (i := 0) (j := 0) rfl rfl rfl ?_
        refine z_aload_n (pc := 69) (i := 0) (j := 0) rfl rfl rfl ?_
        refine z_aload_n (pc := 70) (i := 0) (j := 0) rfl rfl rfl ?_
        refine z_getI (pc := 71) rfl fl_Reader_49 hk.1 rfl ?_
        refine z_eqi (y := D.2.1 3 12) (hD.2.2.2.2.1 12 (by decide)) ?_
        refine z_cV (pc := 74) (mc1 := 0) (ms1 := 0) (mc2 := 0) (ms2 := 0) (as := [.int (D.2.1 3 12)]) (rest := [.ref 3]) (o := 3) rfl rfl hk.1 ok_Reader_once rfl rfl cl_Reader_82 (by omega) (Nat.le_of_ble_eq_true rfl) (Nat.le_of_ble_eq_true rfl) (Nat.le_refl _) (Nat.le_refl _) (c_Reader_once hk _ hD.1 (D.2.1 3 12) 5 (by decide)) (fun r1 w11 hp => ?_) rfl rfl
        obtain ⟨rfl, hF11, hS11⟩ := hp
        refine ⟨⟨by rw [hF11.1]; exact Nat.le_refl _, Or.inl (by rw [hF11.1])⟩, ?_⟩
        have hk11 := rdK_F hk hF11
        have hD11 : rD w11 T n s (onceS T n (D.2.1 3 12) D.1, D.2) := rD_F (D := (D)) hD hs3 hF11 hS11
        have hH11 := rH_t hH (rH_F (s := s) hF11)
        refine z_putZ (pc := 77) rfl fl_Reader_49 hk11.1 rfl (by decide) ?_
        refine z_nmw (fun w12 hw12 => ?_)
        have hD12 : rD w12 T n s (dOnce T n 12 (D.2.1 3 12) D) := by rw [hw12]; exact rD_3 hD11 (k := 12) (by decide) (1 : Int32)
        have hH12 : rH s w w12 := rH_t hH11 (by rw [hw12]; exact rH_I (by decide) _ _)
        have hk12 := rdK_H hk hH12
        refine z_aload_n (pc := 80) (i := 0) (j := 0) rfl rfl rfl ?_
        refine z_aload_n (pc := 81) (i := 0) (j := 0) rfl rfl rfl ?_
        refine z_getR (pc := 82) (x := s) rfl fl_Reader_21 hk12.1 rfl hk12.2.2.1 ?_
        refine z_getR (pc := 85) (x := s + 9) rfl fl_Reader_97 hk12.2.2.2.2.2.2.1.1 rfl hk12.2.2.2.2.2.2.1.2.2.2.2.2.2.2.2.2.2.2.2.1 ?_
        refine z_cV (pc := 88) (mc1 := 0) (ms1 := 0) (mc2 := 0) (ms2 := 0) (as := [.ref (s + 9)]) (rest := []) (o := 3) rfl rfl hk12.1 ok_Reader_beginLaw rfl rfl cl_Reader_86 (by omega) (Nat.le_of_ble_eq_true rfl) (Nat.le_of_ble_eq_true rfl) (Nat.le_refl _) (Nat.le_refl _) (c_Reader_beginLaw hk12 (L := s + 9) (Or.inr rfl) 0) (fun r1 w13 hp => ?_) rfl rfl
        obtain ⟨rfl, hw13⟩ := hp
        have hl9 : w13.1.length = w12.1.length := by rw [hw13]; rfl
        refine ⟨⟨Nat.le_of_eq hl9.symm, Or.inl hl9⟩, ?_⟩
        have hl13 : zR w13 3 2 = some (s + 9) := by rw [hw13]; rfl
        have hH13 : rH s w w13 := rH_t hH12 (by rw [hw13]; exact rH_t (rH_R _) (rH_I (by omega) _ _))
        have hk13 := rdK_H hk hH13
        have hQ13 : rQ w13 T n (s + 9) ((dOnce T n 12 (D.2.1 3 12) D).1, (0, (dOnce T n 12 (D.2.1 3 12) D).2.1 ((s + 9) + 1))) := by rw [hw13]; exact rQ_lw hs3 (Or.inr rfl) hD12
        refine z_aload_n (pc := 91) (i := 0) (j := 0) rfl rfl rfl ?_
        refine z_iconst (pc := 92) (v := 0) rfl (by decide) ?_
        refine z_cV (pc := 93) (mc1 := 0) (ms1 := 0) (mc2 := 0) (ms2 := 0) (as := [.int 0]) (rest := []) (o := 3) rfl rfl hk13.1 ok_Reader_readChoice rfl rfl cl_Reader_90 (by omega) (Nat.le_of_ble_eq_true rfl) (Nat.le_of_ble_eq_true rfl) (Nat.le_refl _) (Nat.le_refl _) (c_law (T := T) (n := n) (L := s + 9) (Or.inr rfl) w13 _ hk13 hl13 hQ13) (fun r1 w14 hp => ?_) rfl rfl
        obtain ⟨rfl, hG14, hQ14⟩ := hp
        refine ⟨⟨by rw [hG14.1]; exact Nat.le_refl _, Or.inl (by rw [hG14.1])⟩, ?_⟩
        have hH14 : rH s w w14 := rH_t hH13 (rH_G (by omega) hG14)
        have hk14 := rdK_H hk hH14
        rw [hw13] at hG14
        have hD14 : rD w14 T n s (dLaw T n s (s + 9) 12 D) := rD_lwe hs3 (Or.inr rfl) hD12 hG14 hQ14
        refine z_goto (pc := 96) (tgt := 199) rfl (by decide) ?_
        have e9 : dStm T n s D = (dLaw T n s (s + 9) 12 D) := by unfold dStm; rw [if_neg (fun z => h7 ((rS_w hD.1).trans z)), if_neg (fun z => h24 ((rS_w hD.1).trans z)), if_pos ((rS_w hD.1).symm.trans h65)]
        refine z_mono (fun r w9 h9 => ?_) (l_stmt199 hk14 _ hD14 d (by omega))
        refine ⟨h9.1, rH_t hH14 h9.2.1, ?_⟩
        unfold dStmt
        rw [e9]
        exact h9.2.2
    · refine z_aload_n (pc := 27) (i := 0) (j := 0) rfl rfl rfl ?_
      refine z_aload_n (pc := 28) (i := 0) (j := 0) rfl rfl rfl ?_
      refine z_aload_n (pc := 29) (i := 0) (j := 0) rfl rfl rfl ?_
      refine z_getI (pc := 30) rfl fl_Reader_46 hk.1 rfl ?_
      refine z_eqi (y := D.2.1 3 11) (hD.2.2.2.2.1 11 (by decide)) ?_
      refine z_cV (pc := 33) (mc1 := 0) (ms1 := 0) (mc2 := 0) (ms2 := 0) (as := [.int (D.2.1 3 11)]) (rest := [.ref 3]) (o := 3) rfl rfl hk.1 ok_Reader_once rfl rfl cl_Reader_82 (by omega) (Nat.le_of_ble_eq_true rfl) (Nat.le_of_ble_eq_true rfl) (Nat.le_refl _) (Nat.le_refl _) (c_Reader_once hk _ hD.1 (D.2.1 3 11) 5 (by decide)) (fun r1 w15 hp => ?_) rfl rfl
      obtain ⟨rfl, hF15, hS15⟩ := hp
      refine ⟨⟨by rw [hF15.1]; exact Nat.le_refl _, Or.inl (by rw [hF15.1])⟩, ?_⟩
      have hk15 := rdK_F hk hF15
      have hD15 : rD w15 T n s (onceS T n (D.2.1 3 11) D.1, D.2) := rD_F (D := (D)) hD hs3 hF15 hS15
      have hH15 := rH_t hH (rH_F (s := s) hF15)
      refine z_putZ (pc := 36) rfl fl_Reader_46 hk15.1 rfl (by decide) ?_
      refine z_nmw (fun w16 hw16 => ?_)
      have hD16 : rD w16 T n s (dOnce T n 11 (D.2.1 3 11) D) := by rw [hw16]; exact rD_3 hD15 (k := 11) (by decide) (1 : Int32)
      have hH16 : rH s w w16 := rH_t hH15 (by rw [hw16]; exact rH_I (by decide) _ _)
      have hk16 := rdK_H hk hH16
      refine z_aload_n (pc := 39) (i := 0) (j := 0) rfl rfl rfl ?_
      refine z_aload_n (pc := 40) (i := 0) (j := 0) rfl rfl rfl ?_
      refine z_getR (pc := 41) (x := s) rfl fl_Reader_21 hk16.1 rfl hk16.2.2.1 ?_
      refine z_getR (pc := 44) (x := s + 6) rfl fl_Reader_25 hk16.2.2.2.2.2.2.1.1 rfl hk16.2.2.2.2.2.2.1.2.2.2.2.2.2.2.2.2.2.2.1 ?_
      refine z_cV (pc := 47) (mc1 := 0) (ms1 := 0) (mc2 := 0) (ms2 := 0) (as := [.ref (s + 6)]) (rest := []) (o := 3) rfl rfl hk16.1 ok_Reader_beginLaw rfl rfl cl_Reader_86 (by omega) (Nat.le_of_ble_eq_true rfl) (Nat.le_of_ble_eq_true rfl) (Nat.le_refl _) (Nat.le_refl _) (c_Reader_beginLaw hk16 (L := s + 6) (Or.inl rfl) 0) (fun r1 w17 hp => ?_) rfl rfl
      obtain ⟨rfl, hw17⟩ := hp
      have hl9 : w17.1.length = w16.1.length := by rw [hw17]; rfl
      refine ⟨⟨Nat.le_of_eq hl9.symm, Or.inl hl9⟩, ?_⟩
      have hl17 : zR w17 3 2 = some (s + 6) := by rw [hw17]; rfl
      have hH17 : rH s w w17 := rH_t hH16 (by rw [hw17]; exact rH_t (rH_R _) (rH_I (by omega) _ _))
      have hk17 := rdK_H hk hH17
      have hQ17 : rQ w17 T n (s + 6) ((dOnce T n 11 (D.2.1 3 11) D).1, (0, (dOnce T n 11 (D.2.1 3 11) D).2.1 ((s + 6) + 1))) := by rw [hw17]; exact rQ_lw hs3 (Or.inl rfl) hD16
      refine z_aload_n (pc := 50) (i := 0) (j := 0) rfl rfl rfl ?_
      refine z_iconst (pc := 51) (v := 0) rfl (by decide) ?_
      refine z_cV (pc := 52) (mc1 := 0) (ms1 := 0) (mc2 := 0) (ms2 := 0) (as := [.int 0]) (rest := []) (o := 3) rfl rfl hk17.1 ok_Reader_readChoice rfl rfl cl_Reader_90 (by omega) (Nat.le_of_ble_eq_true rfl) (Nat.le_of_ble_eq_true rfl) (Nat.le_refl _) (Nat.le_refl _) (c_law (T := T) (n := n) (L := s + 6) (Or.inl rfl) w17 _ hk17 hl17 hQ17) (fun r1 w18 hp => ?_) rfl rfl
      obtain ⟨rfl, hG18, hQ18⟩ := hp
      refine ⟨⟨by rw [hG18.1]; exact Nat.le_refl _, Or.inl (by rw [hG18.1])⟩, ?_⟩
      have hH18 : rH s w w18 := rH_t hH17 (rH_G (by omega) hG18)
      have hk18 := rdK_H hk hH18
      rw [hw17] at hG18
      have hD18 : rD w18 T n s (dLaw T n s (s + 6) 11 D) := rD_lwe hs3 (Or.inl rfl) hD16 hG18 hQ18
      refine z_goto (pc := 55) (tgt := 199) rfl (by decide) ?_
      have e9 : dStm T n s D = (dLaw T n s (s + 6) 11 D) := by unfold dStm; rw [if_neg (fun z => h7 ((rS_w hD.1).trans z)), if_pos ((rS_w hD.1).symm.trans h24)]
      refine z_mono (fun r w9 h9 => ?_) (l_stmt199 hk18 _ hD18 d (by omega))
      refine ⟨h9.1, rH_t hH18 h9.2.1, ?_⟩
      unfold dStmt
      rw [e9]
      exact h9.2.2
  · refine z_aload_n (pc := 10) (i := 0) (j := 0) rfl rfl rfl ?_
    refine z_cV (pc := 11) (mc1 := 0) (ms1 := 0) (mc2 := 0) (ms2 := 0) (as := []) (rest := []) (o := 3) rfl rfl hk.1 ok_Reader_readField rfl rfl cl_Reader_76 (by omega) (Nat.le_of_ble_eq_true rfl) (Nat.le_of_ble_eq_true rfl) (Nat.le_refl _) (Nat.le_refl _) (c_Reader_readField hk D hD 6 (by decide)) (fun r1 w19 hp => ?_) rfl rfl
    obtain ⟨rfl, hH19, hD19⟩ := hp
    refine ⟨⟨by rw [hH19.1]; exact Nat.le_refl _, Or.inl (by rw [hH19.1])⟩, ?_⟩
    have hk19 := rdK_H hk hH19
    refine z_goto (pc := 14) (tgt := 199) rfl (by decide) ?_
    have e9 : dStm T n s D = (dField T n s D) := by unfold dStm; rw [if_pos ((rS_w hD.1).symm.trans h7)]
    refine z_mono (fun r w9 h9 => ?_) (l_stmt199 hk19 _ hD19 d (by omega))
    refine ⟨h9.1, rH_t hH19 h9.2.1, ?_⟩
    unfold dStmt
    rw [e9]
    exact h9.2.2
theorem dNum_H {T : Nat → Int32} {n s k : Nat} {a b : Int32} {D : rDt} (hk : k ≠ 11) : (dNum T n s a b k D).2.1 s 11 = D.2.1 s 11 := z2_k D.2.1 s (k := k) (b := 11) _ (fun e => hk e.symm)
theorem dOnce_H {T : Nat → Int32} {n s k : Nat} {t : Int32} {D : rDt} (hs : 3 < s) : (dOnce T n k t D).2.1 s 11 = D.2.1 s 11 := z2_o D.2.1 (o := 3) (a := s) k 11 1 (by omega)
theorem dLawE_H {T : Nat → Int32} {n s L : Nat} {D : rDt} (h : s < L) : (dLawE T n s L D).2.1 s 11 = D.2.1 s 11 := by
  show zr (z2 D.2.1 L 2 (nI (lwQ T n s L D).2.1)) (L + 1) (lwQ T n s L D).2.2 s 11 = _
  rw [zr_o _ _ (by omega)]
  exact z2_o D.2.1 (o := L) (a := s) 2 11 _ (by omega)
def hOk (s : Nat) (D : rDt) : Prop := ∃ Hn : Nat, D.2.1 s 11 = nI Hn ∧ Hn ≤ 8
def okS (n : Nat) (q : Nat ⊕ Int32) : Prop := (∀ p, q = .inl p → p ≤ n) ∧ ∀ k, q = .inr k → k ≠ 0
theorem okS_l {n p : Nat} (h : p ≤ n) : okS n (.inl p) := ⟨fun _ e => by cases e; exact h, fun _ e => by cases e⟩
theorem okS_r {n : Nat} {k : Int32} (h : k ≠ 0) : okS n (.inr k) := ⟨fun _ e => (by cases e), fun _ e => by cases e; exact h⟩
theorem rS_ok {w : zW} {T : Nat → Int32} {n : Nat} {q : Nat ⊕ Int32} (h : rS w T n q) : okS n q := by
  cases q with
  | inl p => exact okS_l h.2.2.2.2.2.2.2
  | inr k => exact okS_r h.2.1
theorem okS_nxt {T : Nat → Int32} {n : Nat} {q : Nat ⊕ Int32} (h : okS n q) : okS n (nxt T n q) := by
  cases q with
  | inl p => exact okS_l (tEnd_le (h.1 p rfl))
  | inr k => exact h
theorem okS_wrg {T : Nat → Int32} {n : Nat} (hn : n ≤ 1000) {q : Nat ⊕ Int32} (h : okS n q) {k : Nat} (h1 : 1 ≤ k) (h5 : k ≤ 5) : okS n (wrg T n (nI k) q) := by
  cases q with
  | inl p => exact okS_r (flt_ne h1 h5 (Nat.le_trans (tBeg_le (h.1 p rfl)) hn))
  | inr k => exact h
theorem okS_num {T : Nat → Int32} {n : Nat} (hn : n ≤ 1000) {q : Nat ⊕ Int32} (h : okS n q) (a b : Int32) : okS n (numW T n a b q).2 := by
  unfold numW
  (repeat' split) <;> first | exact okS_nxt h | exact okS_wrg (k := 4) hn h (by decide) (by decide) | exact okS_wrg (k := 1) hn h (by decide) (by decide)
theorem okS_expW {T : Nat → Int32} {n : Nat} (hn : n ≤ 1000) {q : Nat ⊕ Int32} (h : okS n q) (c : Option Nat) : okS n (expW T n c q) := by
  unfold expW
  split
  · exact okS_nxt h
  · exact okS_wrg (k := 1) hn h (by decide) (by decide)
theorem okS_new {T : Nat → Int32} {n H : Nat} {N : Nat → Int64} (hn : n ≤ 1000) {q : Nat ⊕ Int32} (h : okS n q) : okS n (newS T n N H q) := by
  unfold newS
  (repeat' split) <;> first | exact okS_nxt h | exact okS_wrg (k := 3) hn h (by decide) (by decide) | exact okS_wrg (k := 1) hn h (by decide) (by decide)
theorem okS_knd {T : Nat → Int32} {n : Nat} (hn : n ≤ 1000) {q : Nat ⊕ Int32} (h : okS n q) : okS n (kndS T n q) := by
  unfold kndS
  split
  · exact okS_wrg (k := 1) hn h (by decide) (by decide)
  · exact okS_nxt h
theorem okS_wrgA {n a : Nat} (ha : a ≤ 1000) {q : Nat ⊕ Int32} (h : okS n q) : okS n (wrgA (nI a) 3 q) := by
  cases q with
  | inl p => exact okS_r (flt_ne (k := 3) (by decide) (by decide) ha)
  | inr k => exact h
theorem okS_pl {T : Nat → Int32} {n : Nat} (hn : n ≤ 1000) {q : Nat ⊕ Int32} (h : okS n q) : plS T n q ≤ 1000 := by
  cases q with
  | inl p => exact Nat.le_trans (tBeg_le (h.1 p rfl)) hn
  | inr k => exact Nat.zero_le _
theorem okS_if7 {n a : Nat} {q : Nat ⊕ Int32} {b : Bool} (h : okS n q) (ha : a ≤ 1000) : okS n (if fltS q = 0 then (if b = true then wrgA (nI a) 3 q else q) else q) := by
  split
  · split
    · exact okS_wrgA ha h
    · exact h
  · exact h
theorem okS_Qe {T : Nat → Int32} {n s : Nat} (hn : n ≤ 1000) {D : rDt} (h : okS n D.1) : okS n (hQe T n s D) := by
  have h2 : okS n (hQ2 T n s D) := by
    unfold hQ2
    refine okS_nxt ?_
    split
    · exact h
    · exact okS_wrg (k := 5) hn h (by decide) (by decide)
  have h4 : okS n (hQ4 T n s D) := by unfold hQ4; exact okS_expW hn (okS_new hn h2) _
  have h5 : okS n (hCl T n s D).2 := by unfold hCl; exact okS_num hn h4 _ _
  have h6 : okS n (hRw T n s D).2 := by unfold hRw; exact okS_num hn h5 _ _
  have h7 : okS n (hQ7 T n s D) := by
    unfold hQ7
    exact okS_if7 h6 (okS_pl (T := T) hn h5)
  unfold hQe hHi
  exact okS_knd hn (okS_num hn (okS_expW hn h7 _) _ _)
theorem okS_g {n : Nat} {q : Nat ⊕ Int32} (h : okS n q) (h0 : fltS q = 0) : ∃ p, q = .inl p := by
  cases q with
  | inl p => exact ⟨p, rfl⟩
  | inr k => exact absurd h0 (h.2 k rfl)
theorem dHouse_H {T : Nat → Int32} {n s : Nat} {D : rDt} (hn : n ≤ 1000) (ho : okS n D.1) (h : hOk s D) : hOk s (dHouse T n s D) := by
  obtain ⟨Hn, h1, h2⟩ := h
  have eN : hNo s D = Hn := by unfold hNo; rw [h1]; exact nI_clamp (by omega)
  have hw := okS_Qe (T := T) (s := s) hn ho
  have hx : ∀ p, hQe T n s D = .inl p → Hn < 8 := fun p hp => by
    have z8 := (hQe_g hp).1
    rw [h1] at z8
    exact (nI_ltI (b := 8) (by omega) (by decide)).mp z8
  unfold dHouse
  generalize hQe T n s D = q at hw hx
  split
  · next z =>
    obtain ⟨p, hp⟩ := okS_g hw z
    exact ⟨Hn + 1, by show hF5 T n s D s 11 = _; unfold hF5; rw [eN]; exact z2_hit _ s 11 (nI (Hn + 1)), hx p hp⟩
  · exact ⟨Hn, h1, h2⟩
theorem dStmt_H {T : Nat → Int32} {n s : Nat} {D : rDt} (hs : 3 < s) (hn : n ≤ 1000) (ho : okS n D.1) (h : hOk s D) : hOk s (dStmt T n s D) := by
  show hOk s (_, (dStm T n s D).2)
  have hh := dHouse_H (T := T) hn ho h
  have e : ∀ E : rDt, E.2.1 s 11 = D.2.1 s 11 → hOk s E := fun E hE => by
    obtain ⟨Hn, h1, h2⟩ := h
    exact ⟨Hn, hE.trans h1, h2⟩
  have g : hOk s (dStm T n s D) := by
    unfold dStm
    generalize tkw T n D.1 = o
    generalize hEd : dHouse T n s D = E at hh
    split
    · exact e _ ((dNum_H (by decide)).trans ((dNum_H (by decide)).trans (dOnce_H hs)))
    · split
      · exact e _ ((dLawE_H (by omega)).trans (dOnce_H hs))
      · split
        · exact e _ ((dLawE_H (by omega)).trans (dOnce_H hs))
        · split
          · exact e _ ((dNum_H (by decide)).trans (dOnce_H hs))
          · split
            · exact e _ ((dNum_H (by decide)).trans (dOnce_H hs))
            · split
              · exact hh
              · exact h
  exact g
