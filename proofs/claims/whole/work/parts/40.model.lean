/-! THE MODEL: cell 44; its rows 45 .. 72 in the order of its fields -/
def moT : List (Nat × Nat × Nat × Nat) := [(2, 45, 10, 1000), (10, 46, 10, 30), (11, 47, 11, 8), (12, 48, 10, 48), (13, 49, 10, 48), (14, 50, 10, 48), (15, 51, 10, 48), (16, 52, 10, 12), (17, 53, 10, 12), (18, 54, 10, 6000), (22, 55, 10, 7), (23, 56, 12, 7), (24, 57, 10, 7), (25, 58, 10, 7), (26, 59, 10, 7), (27, 60, 10, 7), (28, 61, 10, 7), (29, 62, 10, 7), (30, 63, 10, 7), (31, 64, 10, 7), (32, 65, 10, 7), (33, 66, 10, 20), (35, 67, 10, 1344), (36, 68, 10, 5376), (37, 69, 10, 64), (38, 70, 10, 192), (39, 71, 10, 8), (42, 72, 12, 4)]
def zMo (w : zW) : Prop := w.1[44]? = some (8, 43) ∧ ∀ q ∈ moT, w.1[q.2.1]? = some (q.2.2.1, q.2.2.2) ∧ zR w 44 q.1 = some q.2.1
theorem mk_45 {w : zW} (h : zMo w) : w.1[45]? = some (10, 1000) := (h.2 (2, 45, 10, 1000) (by decide)).1
theorem mr_45 {w : zW} (h : zMo w) : zR w 44 2 = some 45 := (h.2 (2, 45, 10, 1000) (by decide)).2
theorem mk_46 {w : zW} (h : zMo w) : w.1[46]? = some (10, 30) := (h.2 (10, 46, 10, 30) (by decide)).1
theorem mr_46 {w : zW} (h : zMo w) : zR w 44 10 = some 46 := (h.2 (10, 46, 10, 30) (by decide)).2
theorem mk_47 {w : zW} (h : zMo w) : w.1[47]? = some (11, 8) := (h.2 (11, 47, 11, 8) (by decide)).1
theorem mr_47 {w : zW} (h : zMo w) : zR w 44 11 = some 47 := (h.2 (11, 47, 11, 8) (by decide)).2
theorem mk_48 {w : zW} (h : zMo w) : w.1[48]? = some (10, 48) := (h.2 (12, 48, 10, 48) (by decide)).1
theorem mr_48 {w : zW} (h : zMo w) : zR w 44 12 = some 48 := (h.2 (12, 48, 10, 48) (by decide)).2
theorem mk_49 {w : zW} (h : zMo w) : w.1[49]? = some (10, 48) := (h.2 (13, 49, 10, 48) (by decide)).1
theorem mr_49 {w : zW} (h : zMo w) : zR w 44 13 = some 49 := (h.2 (13, 49, 10, 48) (by decide)).2
theorem mk_50 {w : zW} (h : zMo w) : w.1[50]? = some (10, 48) := (h.2 (14, 50, 10, 48) (by decide)).1
theorem mr_50 {w : zW} (h : zMo w) : zR w 44 14 = some 50 := (h.2 (14, 50, 10, 48) (by decide)).2
theorem mk_51 {w : zW} (h : zMo w) : w.1[51]? = some (10, 48) := (h.2 (15, 51, 10, 48) (by decide)).1
theorem mr_51 {w : zW} (h : zMo w) : zR w 44 15 = some 51 := (h.2 (15, 51, 10, 48) (by decide)).2
theorem mk_52 {w : zW} (h : zMo w) : w.1[52]? = some (10, 12) := (h.2 (16, 52, 10, 12) (by decide)).1
theorem mr_52 {w : zW} (h : zMo w) : zR w 44 16 = some 52 := (h.2 (16, 52, 10, 12) (by decide)).2
theorem mk_53 {w : zW} (h : zMo w) : w.1[53]? = some (10, 12) := (h.2 (17, 53, 10, 12) (by decide)).1
theorem mr_53 {w : zW} (h : zMo w) : zR w 44 17 = some 53 := (h.2 (17, 53, 10, 12) (by decide)).2
theorem mk_54 {w : zW} (h : zMo w) : w.1[54]? = some (10, 6000) := (h.2 (18, 54, 10, 6000) (by decide)).1
theorem mr_54 {w : zW} (h : zMo w) : zR w 44 18 = some 54 := (h.2 (18, 54, 10, 6000) (by decide)).2
theorem mk_55 {w : zW} (h : zMo w) : w.1[55]? = some (10, 7) := (h.2 (22, 55, 10, 7) (by decide)).1
theorem mr_55 {w : zW} (h : zMo w) : zR w 44 22 = some 55 := (h.2 (22, 55, 10, 7) (by decide)).2
theorem mk_56 {w : zW} (h : zMo w) : w.1[56]? = some (12, 7) := (h.2 (23, 56, 12, 7) (by decide)).1
theorem mr_56 {w : zW} (h : zMo w) : zR w 44 23 = some 56 := (h.2 (23, 56, 12, 7) (by decide)).2
theorem mk_57 {w : zW} (h : zMo w) : w.1[57]? = some (10, 7) := (h.2 (24, 57, 10, 7) (by decide)).1
theorem mr_57 {w : zW} (h : zMo w) : zR w 44 24 = some 57 := (h.2 (24, 57, 10, 7) (by decide)).2
theorem mk_58 {w : zW} (h : zMo w) : w.1[58]? = some (10, 7) := (h.2 (25, 58, 10, 7) (by decide)).1
theorem mr_58 {w : zW} (h : zMo w) : zR w 44 25 = some 58 := (h.2 (25, 58, 10, 7) (by decide)).2
theorem mk_59 {w : zW} (h : zMo w) : w.1[59]? = some (10, 7) := (h.2 (26, 59, 10, 7) (by decide)).1
theorem mr_59 {w : zW} (h : zMo w) : zR w 44 26 = some 59 := (h.2 (26, 59, 10, 7) (by decide)).2
theorem mk_60 {w : zW} (h : zMo w) : w.1[60]? = some (10, 7) := (h.2 (27, 60, 10, 7) (by decide)).1
theorem mr_60 {w : zW} (h : zMo w) : zR w 44 27 = some 60 := (h.2 (27, 60, 10, 7) (by decide)).2
theorem mk_61 {w : zW} (h : zMo w) : w.1[61]? = some (10, 7) := (h.2 (28, 61, 10, 7) (by decide)).1
theorem mr_61 {w : zW} (h : zMo w) : zR w 44 28 = some 61 := (h.2 (28, 61, 10, 7) (by decide)).2
theorem mk_62 {w : zW} (h : zMo w) : w.1[62]? = some (10, 7) := (h.2 (29, 62, 10, 7) (by decide)).1
theorem mr_62 {w : zW} (h : zMo w) : zR w 44 29 = some 62 := (h.2 (29, 62, 10, 7) (by decide)).2
theorem mk_63 {w : zW} (h : zMo w) : w.1[63]? = some (10, 7) := (h.2 (30, 63, 10, 7) (by decide)).1
theorem mr_63 {w : zW} (h : zMo w) : zR w 44 30 = some 63 := (h.2 (30, 63, 10, 7) (by decide)).2
theorem mk_64 {w : zW} (h : zMo w) : w.1[64]? = some (10, 7) := (h.2 (31, 64, 10, 7) (by decide)).1
theorem mr_64 {w : zW} (h : zMo w) : zR w 44 31 = some 64 := (h.2 (31, 64, 10, 7) (by decide)).2
theorem mk_65 {w : zW} (h : zMo w) : w.1[65]? = some (10, 7) := (h.2 (32, 65, 10, 7) (by decide)).1
theorem mr_65 {w : zW} (h : zMo w) : zR w 44 32 = some 65 := (h.2 (32, 65, 10, 7) (by decide)).2
theorem mk_66 {w : zW} (h : zMo w) : w.1[66]? = some (10, 20) := (h.2 (33, 66, 10, 20) (by decide)).1
theorem mr_66 {w : zW} (h : zMo w) : zR w 44 33 = some 66 := (h.2 (33, 66, 10, 20) (by decide)).2
theorem mk_67 {w : zW} (h : zMo w) : w.1[67]? = some (10, 1344) := (h.2 (35, 67, 10, 1344) (by decide)).1
theorem mr_67 {w : zW} (h : zMo w) : zR w 44 35 = some 67 := (h.2 (35, 67, 10, 1344) (by decide)).2
theorem mk_68 {w : zW} (h : zMo w) : w.1[68]? = some (10, 5376) := (h.2 (36, 68, 10, 5376) (by decide)).1
theorem mr_68 {w : zW} (h : zMo w) : zR w 44 36 = some 68 := (h.2 (36, 68, 10, 5376) (by decide)).2
theorem mk_69 {w : zW} (h : zMo w) : w.1[69]? = some (10, 64) := (h.2 (37, 69, 10, 64) (by decide)).1
theorem mr_69 {w : zW} (h : zMo w) : zR w 44 37 = some 69 := (h.2 (37, 69, 10, 64) (by decide)).2
theorem mk_70 {w : zW} (h : zMo w) : w.1[70]? = some (10, 192) := (h.2 (38, 70, 10, 192) (by decide)).1
theorem mr_70 {w : zW} (h : zMo w) : zR w 44 38 = some 70 := (h.2 (38, 70, 10, 192) (by decide)).2
theorem mk_71 {w : zW} (h : zMo w) : w.1[71]? = some (10, 8) := (h.2 (39, 71, 10, 8) (by decide)).1
theorem mr_71 {w : zW} (h : zMo w) : zR w 44 39 = some 71 := (h.2 (39, 71, 10, 8) (by decide)).2
theorem mk_72 {w : zW} (h : zMo w) : w.1[72]? = some (12, 4) := (h.2 (42, 72, 12, 4) (by decide)).1
theorem mr_72 {w : zW} (h : zMo w) : zR w 44 42 = some 72 := (h.2 (42, 72, 12, 4) (by decide)).2
set_option maxRecDepth 100000 in
set_option maxHeartbeats 4000000 in
theorem c_Mod_isCell {w : zW} (hm : zMo w) (x y : Int32) (d : Nat) : zS 0 0 d m_Mod_isCell (fun rv w1 => rv = some (.int (if x < 0 then 0 else (if zI w 46 (0 : Int32).toNatClampNeg ≤ x then 0 else (if y < 0 then 0 else (if zI w 46 (1 : Int32).toNatClampNeg ≤ y then 0 else 1))))) ∧ w1 = w) 0 [(0, .ref 44), (1, .int x), (2, .int y)] [] w := by
  refine z_iload_n (pc := 0) (i := 1) (j := 1) rfl rfl rfl ?_
  refine z_if_lt (pc := 1) (tgt := 32) rfl (by decide) (fun h1 => ?_) (fun h1 => ?_)
  · refine z_iconst (pc := 32) (v := 0) rfl (by decide) ?_
    exact z_zret (pc := 33) rfl rfl (by decide) ⟨by rw [if_pos h1], rfl⟩
  · refine z_iload_n (pc := 4) (i := 1) (j := 1) rfl rfl rfl ?_
    refine z_aload_n (pc := 5) (i := 0) (j := 0) rfl rfl rfl ?_
    refine z_getR (pc := 6) (x := 46) rfl fl_Mod_13 hm.1 rfl (mr_46 hm) ?_
    refine z_iconst (pc := 9) (v := 0) rfl (by decide) ?_
    refine z_iald (pc := 10) rfl (mk_46 hm) (vp_in_nI (n := 0) (by decide) (by decide)) ?_
    refine z_icmp_ge (pc := 11) (tgt := 32) rfl (by decide) (fun h11 => ?_) (fun h11 => ?_)
    · refine z_iconst (pc := 32) (v := 0) rfl (by decide) ?_
      exact z_zret (pc := 33) rfl rfl (by decide) ⟨by rw [if_neg h1, if_pos h11], rfl⟩
    · refine z_iload_n (pc := 14) (i := 2) (j := 2) rfl rfl rfl ?_
      refine z_if_lt (pc := 15) (tgt := 32) rfl (by decide) (fun h15 => ?_) (fun h15 => ?_)
      · refine z_iconst (pc := 32) (v := 0) rfl (by decide) ?_
        exact z_zret (pc := 33) rfl rfl (by decide) ⟨by rw [if_neg h1, if_neg h11, if_pos h15], rfl⟩
      · refine z_iload_n (pc := 18) (i := 2) (j := 2) rfl rfl rfl ?_
        refine z_aload_n (pc := 19) (i := 0) (j := 0) rfl rfl rfl ?_
        refine z_getR (pc := 20) (x := 46) rfl fl_Mod_13 hm.1 rfl (mr_46 hm) ?_
        refine z_iconst (pc := 23) (v := 1) rfl (by decide) ?_
        refine z_iald (pc := 24) rfl (mk_46 hm) (vp_in_nI (n := 1) (by decide) (by decide)) ?_
        refine z_icmp_ge (pc := 25) (tgt := 32) rfl (by decide) (fun h25 => ?_) (fun h25 => ?_)
        · refine z_iconst (pc := 32) (v := 0) rfl (by decide) ?_
          exact z_zret (pc := 33) rfl rfl (by decide) ⟨by rw [if_neg h1, if_neg h11, if_neg h15, if_pos h25], rfl⟩
        · refine z_iconst (pc := 28) (v := 1) rfl (by decide) ?_
          refine z_goto (pc := 29) (tgt := 33) rfl (by decide) ?_
          exact z_zret (pc := 33) rfl rfl (by decide) ⟨by rw [if_neg h1, if_neg h11, if_neg h15, if_neg h25], rfl⟩
set_option maxRecDepth 100000 in
set_option maxHeartbeats 4000000 in
theorem c_Mod_isHouse {w : zW} (hm : zMo w) (b : Int32) (d : Nat) : zS 0 0 d m_Mod_isHouse (fun rv w1 => rv = some (.int (if b < 0 then 0 else (if zI w 46 (4 : Int32).toNatClampNeg ≤ b then 0 else 1))) ∧ w1 = w) 0 [(0, .ref 44), (1, .int b)] [] w := by
  refine z_iload_n (pc := 0) (i := 1) (j := 1) rfl rfl rfl ?_
  refine z_if_lt (pc := 1) (tgt := 18) rfl (by decide) (fun h1 => ?_) (fun h1 => ?_)
  · refine z_iconst (pc := 18) (v := 0) rfl (by decide) ?_
    exact z_zret (pc := 19) rfl rfl (by decide) ⟨by rw [if_pos h1], rfl⟩
  · refine z_iload_n (pc := 4) (i := 1) (j := 1) rfl rfl rfl ?_
    refine z_aload_n (pc := 5) (i := 0) (j := 0) rfl rfl rfl ?_
    refine z_getR (pc := 6) (x := 46) rfl fl_Mod_13 hm.1 rfl (mr_46 hm) ?_
    refine z_iconst (pc := 9) (v := 4) rfl (by decide) ?_
    refine z_iald (pc := 10) rfl (mk_46 hm) (vp_in_nI (n := 4) (by decide) (by decide)) ?_
    refine z_icmp_ge (pc := 11) (tgt := 18) rfl (by decide) (fun h11 => ?_) (fun h11 => ?_)
    · refine z_iconst (pc := 18) (v := 0) rfl (by decide) ?_
      exact z_zret (pc := 19) rfl rfl (by decide) ⟨by rw [if_neg h1, if_pos h11], rfl⟩
    · refine z_iconst (pc := 14) (v := 1) rfl (by decide) ?_
      refine z_goto (pc := 15) (tgt := 19) rfl (by decide) ?_
      exact z_zret (pc := 19) rfl rfl (by decide) ⟨by rw [if_neg h1, if_neg h11], rfl⟩
set_option maxRecDepth 100000 in
set_option maxHeartbeats 4000000 in
theorem c_Mod_isLit {w : zW} (hm : zMo w) (b : Int32) (d : Nat) : zS 0 0 d m_Mod_isLit (fun rv w1 => rv = some (.int (if ((zI w 67 (136 : Int32).toNatClampNeg) >>> (b &&& 31)) &&& 1 = 1 then 1 else 0)) ∧ w1 = w) 0 [(0, .ref 44), (1, .int b)] [] w := by
  refine z_aload_n (pc := 0) (i := 0) (j := 0) rfl rfl rfl ?_
  refine z_getR (pc := 1) (x := 67) rfl fl_Mod_78 hm.1 rfl (mr_67 hm) ?_
  refine z_sipush (pc := 4) (v := 136) rfl (by decide) ?_
  refine z_iald (pc := 7) rfl (mk_67 hm) (vp_in_nI (n := 136) (by decide) (by decide)) ?_
  refine z_iload_n (pc := 8) (i := 1) (j := 1) rfl rfl rfl ?_
  refine z_ishr (pc := 9) rfl ?_
  refine z_iconst (pc := 10) (v := 1) rfl (by decide) ?_
  refine z_iand (pc := 11) rfl ?_
  refine z_iconst (pc := 12) (v := 1) rfl (by decide) ?_
  refine z_icmp_ne (pc := 13) (tgt := 20) rfl (by decide) (fun h13 => ?_) (fun h13 => ?_)
  · refine z_iconst (pc := 20) (v := 0) rfl (by decide) ?_
    exact z_zret (pc := 21) rfl rfl (by decide) ⟨by rw [if_neg h13], rfl⟩
  · refine z_iconst (pc := 16) (v := 1) rfl (by decide) ?_
    refine z_goto (pc := 17) (tgt := 21) rfl (by decide) ?_
    exact z_zret (pc := 21) rfl rfl (by decide) ⟨by rw [if_pos h13], rfl⟩
set_option maxRecDepth 100000 in
set_option maxHeartbeats 4000000 in
theorem c_Mod_isShut {w : zW} (hm : zMo w) (b : Int32) (d : Nat) : zS 0 0 d m_Mod_isShut (fun rv w1 => rv = some (.int (if ((zI w 67 (137 : Int32).toNatClampNeg) >>> (b &&& 31)) &&& 1 = 1 then 1 else 0)) ∧ w1 = w) 0 [(0, .ref 44), (1, .int b)] [] w := by
  refine z_aload_n (pc := 0) (i := 0) (j := 0) rfl rfl rfl ?_
  refine z_getR (pc := 1) (x := 67) rfl fl_Mod_78 hm.1 rfl (mr_67 hm) ?_
  refine z_sipush (pc := 4) (v := 137) rfl (by decide) ?_
  refine z_iald (pc := 7) rfl (mk_67 hm) (vp_in_nI (n := 137) (by decide) (by decide)) ?_
  refine z_iload_n (pc := 8) (i := 1) (j := 1) rfl rfl rfl ?_
  refine z_ishr (pc := 9) rfl ?_
  refine z_iconst (pc := 10) (v := 1) rfl (by decide) ?_
  refine z_iand (pc := 11) rfl ?_
  refine z_iconst (pc := 12) (v := 1) rfl (by decide) ?_
  refine z_icmp_ne (pc := 13) (tgt := 20) rfl (by decide) (fun h13 => ?_) (fun h13 => ?_)
  · refine z_iconst (pc := 20) (v := 0) rfl (by decide) ?_
    exact z_zret (pc := 21) rfl rfl (by decide) ⟨by rw [if_neg h13], rfl⟩
  · refine z_iconst (pc := 16) (v := 1) rfl (by decide) ?_
    refine z_goto (pc := 17) (tgt := 21) rfl (by decide) ?_
    exact z_zret (pc := 21) rfl rfl (by decide) ⟨by rw [if_pos h13], rfl⟩
set_option maxRecDepth 100000 in
set_option maxHeartbeats 4000000 in
theorem c_Mod_payOf {w : zW} (hm : zMo w) {i : Nat} (hb : i < 48) (d : Nat) : zS 0 0 d m_Mod_payOf (fun rv w1 => rv = some (.int (if zI w 51 (nI i).toNatClampNeg = 1 then 1 else (if zI w 51 (nI i).toNatClampNeg = 2 then 3 else 2))) ∧ w1 = w) 0 [(0, .ref 44), (1, .int (nI i))] [] w := by
  refine z_aload_n (pc := 0) (i := 0) (j := 0) rfl rfl rfl ?_
  refine z_getR (pc := 1) (x := 51) rfl fl_Mod_29 hm.1 rfl (mr_51 hm) ?_
  refine z_iload_n (pc := 4) (i := 1) (j := 1) rfl rfl rfl ?_
  refine z_iald (pc := 5) rfl (mk_51 hm) (vp_in_nI hb (by decide)) ?_
  refine z_iconst (pc := 6) (v := 1) rfl (by decide) ?_
  refine z_icmp_ne (pc := 7) (tgt := 14) rfl (by decide) (fun h7 => ?_) (fun h7 => ?_)
  · refine z_aload_n (pc := 14) (i := 0) (j := 0) rfl rfl rfl ?_
    refine z_getR (pc := 15) (x := 51) rfl fl_Mod_29 hm.1 rfl (mr_51 hm) ?_
    refine z_iload_n (pc := 18) (i := 1) (j := 1) rfl rfl rfl ?_
    refine z_iald (pc := 19) rfl (mk_51 hm) (vp_in_nI hb (by decide)) ?_
    refine z_iconst (pc := 20) (v := 2) rfl (by decide) ?_
    refine z_icmp_ne (pc := 21) (tgt := 28) rfl (by decide) (fun h21 => ?_) (fun h21 => ?_)
    · refine z_iconst (pc := 28) (v := 2) rfl (by decide) ?_
      exact z_iret (pc := 29) rfl rfl ⟨by rw [if_neg h7, if_neg h21], rfl⟩
    · refine z_iconst (pc := 24) (v := 3) rfl (by decide) ?_
      refine z_goto (pc := 25) (tgt := 29) rfl (by decide) ?_
      exact z_iret (pc := 29) rfl rfl ⟨by rw [if_neg h7, if_pos h21], rfl⟩
  · refine z_iconst (pc := 10) (v := 1) rfl (by decide) ?_
    refine z_goto (pc := 11) (tgt := 29) rfl (by decide) ?_
    exact z_iret (pc := 29) rfl rfl ⟨by rw [if_pos h7], rfl⟩
set_option maxRecDepth 100000 in
set_option maxHeartbeats 4000000 in
theorem c_Mod_isWord {w : zW} (hm : zMo w) (x : Int64) (d : Nat) : zS 0 0 d m_Mod_isWord (fun rv w1 => rv = some (.int (if zI w 44 6 = 1 then (if lg_cmp (zL w 44 7) x = 0 then 1 else 0) else 0)) ∧ w1 = w) 0 [(0, .ref 44), (1, .long x)] [] w := by
  refine z_aload_n (pc := 0) (i := 0) (j := 0) rfl rfl rfl ?_
  refine z_getI (pc := 1) rfl fl_Mod_125 hm.1 rfl ?_
  refine z_iconst (pc := 4) (v := 1) rfl (by decide) ?_
  refine z_icmp_ne (pc := 5) (tgt := 21) rfl (by decide) (fun h5 => ?_) (fun h5 => ?_)
  · refine z_iconst (pc := 21) (v := 0) rfl (by decide) ?_
    exact z_zret (pc := 22) rfl rfl (by decide) ⟨by rw [if_neg h5], rfl⟩
  · refine z_aload_n (pc := 8) (i := 0) (j := 0) rfl rfl rfl ?_
    refine z_getL (pc := 9) rfl fl_Mod_118 hm.1 rfl ?_
    refine z_lload_n (pc := 12) (i := 1) (j := 1) rfl rfl rfl ?_
    refine z_lcmp (pc := 13) rfl ?_
    refine z_if_ne (pc := 14) (tgt := 21) rfl (by decide) (fun h14 => ?_) (fun h14 => ?_)
    · refine z_iconst (pc := 21) (v := 0) rfl (by decide) ?_
      exact z_zret (pc := 22) rfl rfl (by decide) ⟨by rw [if_pos h5, if_neg h14], rfl⟩
    · refine z_iconst (pc := 17) (v := 1) rfl (by decide) ?_
      refine z_goto (pc := 18) (tgt := 22) rfl (by decide) ?_
      exact z_zret (pc := 22) rfl rfl (by decide) ⟨by rw [if_pos h5, if_pos h14], rfl⟩
set_option maxRecDepth 100000 in
set_option maxHeartbeats 4000000 in
theorem c_Mod_fact {w : zW} (hm : zMo w)  (d : Nat) : zS 0 0 d m_Mod_fact (fun rv w1 => rv = some (.int (if zI w 44 6 = 1 then (if lg_cmp (zL w 44 7) 168984 = 0 then 1 else (if lg_cmp (zL w 44 7) 2968 = 0 then 2 else (if zI w 44 21 = 0 then 0 else (if lg_cmp (zL w 44 7) 164222 = 0 then 3 else (if lg_cmp (zL w 44 7) 16819 = 0 then 4 else 0))))) else 0)) ∧ w1 = w) 0 [(0, .ref 44)] [] w := by
  refine z_aload_n (pc := 0) (i := 0) (j := 0) rfl rfl rfl ?_
  refine z_getI (pc := 1) rfl fl_Mod_125 hm.1 rfl ?_
  refine z_iconst (pc := 4) (v := 1) rfl (by decide) ?_
  refine z_icmp_eq (pc := 5) (tgt := 10) rfl (by decide) (fun h5 => ?_) (fun h5 => ?_)
  · refine z_aload_n (pc := 10) (i := 0) (j := 0) rfl rfl rfl ?_
    refine z_getL (pc := 11) rfl fl_Mod_118 hm.1 rfl ?_
    refine z_ldc2 (pc := 14) (v := 168984) rfl kl_Mod_142 ?_
    refine z_lcmp (pc := 17) rfl ?_
    refine z_if_ne (pc := 18) (tgt := 23) rfl (by decide) (fun h18 => ?_) (fun h18 => ?_)
    · refine z_aload_n (pc := 23) (i := 0) (j := 0) rfl rfl rfl ?_
      refine z_getL (pc := 24) rfl fl_Mod_118 hm.1 rfl ?_
      refine z_ldc2 (pc := 27) (v := 2968) rfl kl_Mod_144 ?_
      refine z_lcmp (pc := 30) rfl ?_
      refine z_if_ne (pc := 31) (tgt := 36) rfl (by decide) (fun h31 => ?_) (fun h31 => ?_)
      · refine z_aload_n (pc := 36) (i := 0) (j := 0) rfl rfl rfl ?_
        refine z_getI (pc := 37) rfl fl_Mod_146 hm.1 rfl ?_
        refine z_if_ne (pc := 40) (tgt := 45) rfl (by decide) (fun h40 => ?_) (fun h40 => ?_)
        · refine z_aload_n (pc := 45) (i := 0) (j := 0) rfl rfl rfl ?_
          refine z_getL (pc := 46) rfl fl_Mod_118 hm.1 rfl ?_
          refine z_ldc2 (pc := 49) (v := 164222) rfl kl_Mod_150 ?_
          refine z_lcmp (pc := 52) rfl ?_
          refine z_if_ne (pc := 53) (tgt := 60) rfl (by decide) (fun h53 => ?_) (fun h53 => ?_)
          · refine z_aload_n (pc := 60) (i := 0) (j := 0) rfl rfl rfl ?_
            refine z_getL (pc := 61) rfl fl_Mod_118 hm.1 rfl ?_
            refine z_ldc2 (pc := 64) (v := 16819) rfl kl_Mod_152 ?_
            refine z_lcmp (pc := 67) rfl ?_
            refine z_if_ne (pc := 68) (tgt := 75) rfl (by decide) (fun h68 => ?_) (fun h68 => ?_)
            · refine z_iconst (pc := 75) (v := 0) rfl (by decide) ?_
              exact z_iret (pc := 76) rfl rfl ⟨by rw [if_pos h5, if_neg h18, if_neg h31, if_neg h40, if_neg h53, if_neg h68], rfl⟩
            · refine z_iconst (pc := 71) (v := 4) rfl (by decide) ?_
              refine z_goto (pc := 72) (tgt := 76) rfl (by decide) ?_
              exact z_iret (pc := 76) rfl rfl ⟨by rw [if_pos h5, if_neg h18, if_neg h31, if_neg h40, if_neg h53, if_pos h68], rfl⟩
          · refine z_iconst (pc := 56) (v := 3) rfl (by decide) ?_
            refine z_goto (pc := 57) (tgt := 76) rfl (by decide) ?_
            exact z_iret (pc := 76) rfl rfl ⟨by rw [if_pos h5, if_neg h18, if_neg h31, if_neg h40, if_pos h53], rfl⟩
        · refine z_iconst (pc := 43) (v := 0) rfl (by decide) ?_
          exact z_iret (pc := 44) rfl rfl ⟨by rw [if_pos h5, if_neg h18, if_neg h31, if_pos h40], rfl⟩
      · refine z_iconst (pc := 34) (v := 2) rfl (by decide) ?_
        exact z_iret (pc := 35) rfl rfl ⟨by rw [if_pos h5, if_neg h18, if_pos h31], rfl⟩
    · refine z_iconst (pc := 21) (v := 1) rfl (by decide) ?_
      exact z_iret (pc := 22) rfl rfl ⟨by rw [if_pos h5, if_pos h18], rfl⟩
  · refine z_iconst (pc := 8) (v := 0) rfl (by decide) ?_
    exact z_iret (pc := 9) rfl rfl ⟨by rw [if_neg h5], rfl⟩
def opensF (f : Nat → Nat → Int32) (i : Nat) : Nat → Nat → Int32 := z2 (z2 (z2 (z2 (z2 (f) 58 i 0) 60 i 0) 61 i 0) 62 i 20) 64 i 0
set_option maxRecDepth 100000 in
set_option maxHeartbeats 4000000 in
theorem c_Mod_opens {w : zW} (hm : zMo w) {i : Nat} (hb : i < 7) (d : Nat) : zS 0 0 d m_Mod_opens (fun rv w1 => rv = none ∧ w1 = zuI w (opensF (zI w) i)) 0 [(0, .ref 44), (1, .int (nI i))] [] w := by
  refine z_aload_n (pc := 0) (i := 0) (j := 0) rfl rfl rfl ?_
  refine z_getR (pc := 1) (x := 58) rfl fl_Mod_51 hm.1 rfl (mr_58 hm) ?_
  refine z_iload_n (pc := 4) (i := 1) (j := 1) rfl rfl rfl ?_
  refine z_iconst (pc := 5) (v := 0) rfl (by decide) ?_
  refine z_iast (pc := 6) rfl (mk_58 hm) (vp_in_nI hb (by decide)) ?_
  refine z_aload_n (pc := 7) (i := 0) (j := 0) rfl rfl rfl ?_
  refine z_getR (pc := 8) (x := 60) rfl fl_Mod_57 hm.1 rfl (mr_60 hm) ?_
  refine z_iload_n (pc := 11) (i := 1) (j := 1) rfl rfl rfl ?_
  refine z_iconst (pc := 12) (v := 0) rfl (by decide) ?_
  refine z_iast (pc := 13) rfl (mk_60 hm) (vp_in_nI hb (by decide)) ?_
  refine z_aload_n (pc := 14) (i := 0) (j := 0) rfl rfl rfl ?_
  refine z_getR (pc := 15) (x := 61) rfl fl_Mod_60 hm.1 rfl (mr_61 hm) ?_
  refine z_iload_n (pc := 18) (i := 1) (j := 1) rfl rfl rfl ?_
  refine z_iconst (pc := 19) (v := 0) rfl (by decide) ?_
  refine z_iast (pc := 20) rfl (mk_61 hm) (vp_in_nI hb (by decide)) ?_
  refine z_aload_n (pc := 21) (i := 0) (j := 0) rfl rfl rfl ?_
  refine z_getR (pc := 22) (x := 62) rfl fl_Mod_63 hm.1 rfl (mr_62 hm) ?_
  refine z_iload_n (pc := 25) (i := 1) (j := 1) rfl rfl rfl ?_
  refine z_bipush (pc := 26) (v := 20) rfl (by decide) ?_
  refine z_iast (pc := 28) rfl (mk_62 hm) (vp_in_nI hb (by decide)) ?_
  refine z_aload_n (pc := 29) (i := 0) (j := 0) rfl rfl rfl ?_
  refine z_getR (pc := 30) (x := 64) rfl fl_Mod_69 hm.1 rfl (mr_64 hm) ?_
  refine z_iload_n (pc := 33) (i := 1) (j := 1) rfl rfl rfl ?_
  refine z_iconst (pc := 34) (v := 0) rfl (by decide) ?_
  refine z_iast (pc := 35) rfl (mk_64 hm) (vp_in_nI hb (by decide)) ?_
  exact z_vret (pc := 36) rfl rfl ⟨rfl, by rw [nI_clamp (by omega)]; rfl⟩
def sumsF (f : Nat → Nat → Int32) (i : Nat) : Nat → Nat → Int32 := z2 (z2 f 61 i (if f 62 i = 21 then f 61 i - f 63 i else f 61 i + f 63 i)) 64 i 0
set_option maxRecDepth 100000 in
set_option maxHeartbeats 4000000 in
theorem c_Mod_sums {w : zW} (hm : zMo w) {i : Nat} (hb : i < 7) (d : Nat) : zS 0 0 d m_Mod_sums (fun rv w1 => rv = none ∧ w1 = zuI w (sumsF (zI w) i)) 0 [(0, .ref 44), (1, .int (nI i))] [] w := by
  refine z_aload_n (pc := 0) (i := 0) (j := 0) rfl rfl rfl ?_
  refine z_getR (pc := 1) (x := 61) rfl fl_Mod_60 hm.1 rfl (mr_61 hm) ?_
  refine z_iload_n (pc := 4) (i := 1) (j := 1) rfl rfl rfl ?_
  refine z_aload_n (pc := 5) (i := 0) (j := 0) rfl rfl rfl ?_
  refine z_getR (pc := 6) (x := 62) rfl fl_Mod_63 hm.1 rfl (mr_62 hm) ?_
  refine z_iload_n (pc := 9) (i := 1) (j := 1) rfl rfl rfl ?_
  refine z_iald (pc := 10) rfl (mk_62 hm) (vp_in_nI hb (by decide)) ?_
  refine z_eqi (y := zI w 62 i) (by rw [nI_clamp (by omega)]) ?_
  have j45 : ∀ v : Int32, (v = (if zI w 62 i = 21 then zI w 61 i - zI w 63 i else zI w 61 i + zI w 63 i)) → zS 0 0 d m_Mod_sums (fun rv w1 => rv = none ∧ w1 = zuI w (sumsF (zI w) i)) 45 [(0, .ref 44), (1, .int (nI i))] [.int v, .int (nI i), .ref 61] w := by
    intro v h_j45
    refine z_iast (pc := 45) rfl (mk_61 hm) (vp_in_nI hb (by decide)) ?_
    refine z_aload_n (pc := 46) (i := 0) (j := 0) rfl rfl rfl ?_
    refine z_getR (pc := 47) (x := 64) rfl fl_Mod_69 hm.1 rfl (mr_64 hm) ?_
    refine z_iload_n (pc := 50) (i := 1) (j := 1) rfl rfl rfl ?_
    refine z_iconst (pc := 51) (v := 0) rfl (by decide) ?_
    refine z_iast (pc := 52) rfl (mk_64 hm) (vp_in_nI hb (by decide)) ?_
    exact z_vret (pc := 53) rfl rfl ⟨rfl, by rw [nI_clamp (by omega), h_j45]; rfl⟩
  refine z_bipush (pc := 11) (v := 21) rfl (by decide) ?_
  refine z_icmp_ne (pc := 13) (tgt := 32) rfl (by decide) (fun h13 => ?_) (fun h13 => ?_)
  · refine z_aload_n (pc := 32) (i := 0) (j := 0) rfl rfl rfl ?_
    refine z_getR (pc := 33) (x := 61) rfl fl_Mod_60 hm.1 rfl (mr_61 hm) ?_
    refine z_iload_n (pc := 36) (i := 1) (j := 1) rfl rfl rfl ?_
    refine z_iald (pc := 37) rfl (mk_61 hm) (vp_in_nI hb (by decide)) ?_
    refine z_eqi (y := zI w 61 i) (by rw [nI_clamp (by omega)]) ?_
    refine z_aload_n (pc := 38) (i := 0) (j := 0) rfl rfl rfl ?_
    refine z_getR (pc := 39) (x := 63) rfl fl_Mod_66 hm.1 rfl (mr_63 hm) ?_
    refine z_iload_n (pc := 42) (i := 1) (j := 1) rfl rfl rfl ?_
    refine z_iald (pc := 43) rfl (mk_63 hm) (vp_in_nI hb (by decide)) ?_
    refine z_eqi (y := zI w 63 i) (by rw [nI_clamp (by omega)]) ?_
    refine z_iadd (pc := 44) rfl ?_
    exact j45 _ (by rw [if_neg h13] <;> rfl)
  · refine z_aload_n (pc := 16) (i := 0) (j := 0) rfl rfl rfl ?_
    refine z_getR (pc := 17) (x := 61) rfl fl_Mod_60 hm.1 rfl (mr_61 hm) ?_
    refine z_iload_n (pc := 20) (i := 1) (j := 1) rfl rfl rfl ?_
    refine z_iald (pc := 21) rfl (mk_61 hm) (vp_in_nI hb (by decide)) ?_
    refine z_eqi (y := zI w 61 i) (by rw [nI_clamp (by omega)]) ?_
    refine z_aload_n (pc := 22) (i := 0) (j := 0) rfl rfl rfl ?_
    refine z_getR (pc := 23) (x := 63) rfl fl_Mod_66 hm.1 rfl (mr_63 hm) ?_
    refine z_iload_n (pc := 26) (i := 1) (j := 1) rfl rfl rfl ?_
    refine z_iald (pc := 27) rfl (mk_63 hm) (vp_in_nI hb (by decide)) ?_
    refine z_eqi (y := zI w 63 i) (by rw [nI_clamp (by omega)]) ?_
    refine z_isub (pc := 28) rfl ?_
    refine z_goto (pc := 29) (tgt := 45) rfl (by decide) ?_
    exact j45 _ (by rw [if_pos h13] <;> rfl)
def testV (f : Nat → Nat → Int32) (i : Nat) : Int32 :=
  let a := f 61 i
  let b := if f 60 i = 24 then (if f 61 i ≤ f 59 i then 0 else 1) else a
  let c := if f 60 i = 25 then (if f 59 i = f 61 i then 1 else 0) else b
  let e := if f 58 i = 26 then (if f 57 i = 0 then 0 else if c = 0 then 0 else 1) else c
  if f 58 i = 27 then (if f 57 i = 0 then (if e = 0 then 0 else 1) else 1) else e
def testsF (f : Nat → Nat → Int32) (i : Nat) : Nat → Nat → Int32 := z2 (z2 (z2 (z2 (sumsF f i) 57 i (testV (sumsF f i) i)) 60 i 0) 61 i 0) 62 i 20
set_option maxRecDepth 100000 in
set_option maxHeartbeats 4000000 in
theorem c_Mod_tests {w : zW} (hm : zMo w) {i : Nat} (hb : i < 7) (d : Nat) (hd : 1 ≤ d) : zS 0 0 d m_Mod_tests (fun rv w1 => rv = none ∧ w1 = zuI w (testsF (zI w) i)) 0 [(0, .ref 44), (1, .int (nI i))] [] w := by
  refine z_aload_n (pc := 0) (i := 0) (j := 0) rfl rfl rfl ?_
  refine z_iload_n (pc := 1) (i := 1) (j := 1) rfl rfl rfl ?_
  refine z_cV (pc := 2) (mc1 := 0) (ms1 := 0) (mc2 := 0) (ms2 := 0) (as := [.int (nI i)]) (rest := []) (o := 44) rfl rfl hm.1 ok_Mod_sums rfl rfl cl_Mod_181 (by omega) (Nat.le_of_ble_eq_true rfl) (Nat.le_of_ble_eq_true rfl) (Nat.le_refl _) (Nat.le_refl _) (c_Mod_sums (w := w) hm hb 0) (fun r1 w1 hp => ?_) rfl rfl
  obtain ⟨rfl, hw1⟩ := hp
  rw [hw1]
  refine ⟨⟨Nat.le_refl _, Or.inl rfl⟩, ?_⟩
  obtain ⟨g, hg⟩ : ∃ g, g = sumsF (zI w) i := ⟨_, rfl⟩
  rw [show testsF (zI w) i = z2 (z2 (z2 (z2 g 57 i (testV g i)) 60 i 0) 61 i 0) 62 i 20 by rw [hg]; rfl, ← hg]
  refine z_aload_n (pc := 5) (i := 0) (j := 0) rfl rfl rfl ?_
  refine z_getR (pc := 6) (x := 61) rfl fl_Mod_60 hm.1 rfl (mr_61 hm) ?_
  refine z_iload_n (pc := 9) (i := 1) (j := 1) rfl rfl rfl ?_
  refine z_iald (pc := 10) rfl (mk_61 hm) (vp_in_nI hb (by decide)) ?_
  refine z_eqi (y := g 61 i) (by rw [nI_clamp (by omega)]; rfl) ?_
  refine z_istore_n (pc := 11) (i := 2) (ls' := [(0, .ref 44), (1, .int (nI i)), (2, .int (g 61 i))]) rfl rfl (by decide) rfl ?_
  have j44 : ∀ v44 : Int32, (v44 = (if g 60 i = 24 then (if g 61 i ≤ g 59 i then 0 else 1) else g 61 i)) → zS 0 0 d m_Mod_tests (fun rv w1 => rv = none ∧ w1 = zuI w (z2 (z2 (z2 (z2 g 57 i (testV g i)) 60 i 0) 61 i 0) 62 i 20)) 44 [(0, .ref 44), (1, .int (nI i)), (2, .int v44)] [] (zuI w g) := by
    intro v44 h_j44
    have j76 : ∀ v76 : Int32, (v76 = (if g 60 i = 25 then (if g 59 i = g 61 i then 1 else 0) else v44)) → zS 0 0 d m_Mod_tests (fun rv w1 => rv = none ∧ w1 = zuI w (z2 (z2 (z2 (z2 g 57 i (testV g i)) 60 i 0) 61 i 0) 62 i 20)) 76 [(0, .ref 44), (1, .int (nI i)), (2, .int v76)] [] (zuI w g) := by
      intro v76 h_j76
      have j106 : ∀ v106 : Int32, (v106 = (if g 58 i = 26 then (if g 57 i = 0 then 0 else if v76 = 0 then 0 else 1) else v76)) → zS 0 0 d m_Mod_tests (fun rv w1 => rv = none ∧ w1 = zuI w (z2 (z2 (z2 (z2 g 57 i (testV g i)) 60 i 0) 61 i 0) 62 i 20)) 106 [(0, .ref 44), (1, .int (nI i)), (2, .int v106)] [] (zuI w g) := by
        intro v106 h_j106
        have j136 : ∀ v136 : Int32, (v136 = (if g 58 i = 27 then (if g 57 i = 0 then (if v106 = 0 then 0 else 1) else 1) else v106)) → zS 0 0 d m_Mod_tests (fun rv w1 => rv = none ∧ w1 = zuI w (z2 (z2 (z2 (z2 g 57 i (testV g i)) 60 i 0) 61 i 0) 62 i 20)) 136 [(0, .ref 44), (1, .int (nI i)), (2, .int v136)] [] (zuI w g) := by
          intro v136 h_j136
          refine z_aload_n (pc := 136) (i := 0) (j := 0) rfl rfl rfl ?_
          refine z_getR (pc := 137) (x := 57) rfl fl_Mod_48 hm.1 rfl (mr_57 hm) ?_
          refine z_iload_n (pc := 140) (i := 1) (j := 1) rfl rfl rfl ?_
          refine z_iload_n (pc := 141) (i := 2) (j := 2) rfl rfl rfl ?_
          refine z_iast (pc := 142) rfl (mk_57 hm) (vp_in_nI hb (by decide)) ?_
          refine z_aload_n (pc := 143) (i := 0) (j := 0) rfl rfl rfl ?_
          refine z_getR (pc := 144) (x := 60) rfl fl_Mod_57 hm.1 rfl (mr_60 hm) ?_
          refine z_iload_n (pc := 147) (i := 1) (j := 1) rfl rfl rfl ?_
          refine z_iconst (pc := 148) (v := 0) rfl (by decide) ?_
          refine z_iast (pc := 149) rfl (mk_60 hm) (vp_in_nI hb (by decide)) ?_
          refine z_aload_n (pc := 150) (i := 0) (j := 0) rfl rfl rfl ?_
          refine z_getR (pc := 151) (x := 61) rfl fl_Mod_60 hm.1 rfl (mr_61 hm) ?_
          refine z_iload_n (pc := 154) (i := 1) (j := 1) rfl rfl rfl ?_
          refine z_iconst (pc := 155) (v := 0) rfl (by decide) ?_
          refine z_iast (pc := 156) rfl (mk_61 hm) (vp_in_nI hb (by decide)) ?_
          refine z_aload_n (pc := 157) (i := 0) (j := 0) rfl rfl rfl ?_
          refine z_getR (pc := 158) (x := 62) rfl fl_Mod_63 hm.1 rfl (mr_62 hm) ?_
          refine z_iload_n (pc := 161) (i := 1) (j := 1) rfl rfl rfl ?_
          refine z_bipush (pc := 162) (v := 20) rfl (by decide) ?_
          refine z_iast (pc := 164) rfl (mk_62 hm) (vp_in_nI hb (by decide)) ?_
          exact z_vret (pc := 165) rfl rfl ⟨rfl, by rw [nI_clamp (by omega), show testV g i = v136 by rw [h_j136, h_j106, h_j76, h_j44]; rfl]; rfl⟩
        refine z_aload_n (pc := 106) (i := 0) (j := 0) rfl rfl rfl ?_
        refine z_getR (pc := 107) (x := 58) rfl fl_Mod_51 hm.1 rfl (mr_58 hm) ?_
        refine z_iload_n (pc := 110) (i := 1) (j := 1) rfl rfl rfl ?_
        refine z_iald (pc := 111) rfl (mk_58 hm) (vp_in_nI hb (by decide)) ?_
        refine z_eqi (y := g 58 i) (by rw [nI_clamp (by omega)]; rfl) ?_
        refine z_bipush (pc := 112) (v := 27) rfl (by decide) ?_
        refine z_icmp_ne (pc := 114) (tgt := 136) rfl (by decide) (fun h114 => ?_) (fun h114 => ?_)
        · exact j136 _ (by rw [if_neg h114])
        · refine z_aload_n (pc := 117) (i := 0) (j := 0) rfl rfl rfl ?_
          refine z_getR (pc := 118) (x := 57) rfl fl_Mod_48 hm.1 rfl (mr_57 hm) ?_
          refine z_iload_n (pc := 121) (i := 1) (j := 1) rfl rfl rfl ?_
          refine z_iald (pc := 122) rfl (mk_57 hm) (vp_in_nI hb (by decide)) ?_
          refine z_eqi (y := g 57 i) (by rw [nI_clamp (by omega)]; rfl) ?_
          refine z_if_ne (pc := 123) (tgt := 130) rfl (by decide) (fun h123 => ?_) (fun h123 => ?_)
          · refine z_iconst (pc := 130) (v := 1) rfl (by decide) ?_
            refine z_goto (pc := 131) (tgt := 135) rfl (by decide) ?_
            refine z_istore_n (pc := 135) (i := 2) (ls' := [(0, .ref 44), (1, .int (nI i)), (2, .int 1)]) rfl rfl (by decide) rfl ?_
            exact j136 _ (by rw [if_pos h114, if_neg h123])
          · refine z_iload_n (pc := 126) (i := 2) (j := 2) rfl rfl rfl ?_
            refine z_if_eq (pc := 127) (tgt := 134) rfl (by decide) (fun h127 => ?_) (fun h127 => ?_)
            · refine z_iconst (pc := 134) (v := 0) rfl (by decide) ?_
              refine z_istore_n (pc := 135) (i := 2) (ls' := [(0, .ref 44), (1, .int (nI i)), (2, .int 0)]) rfl rfl (by decide) rfl ?_
              exact j136 _ (by rw [if_pos h114, if_pos h123, if_pos h127])
            · refine z_iconst (pc := 130) (v := 1) rfl (by decide) ?_
              refine z_goto (pc := 131) (tgt := 135) rfl (by decide) ?_
              refine z_istore_n (pc := 135) (i := 2) (ls' := [(0, .ref 44), (1, .int (nI i)), (2, .int 1)]) rfl rfl (by decide) rfl ?_
              exact j136 _ (by rw [if_pos h114, if_pos h123, if_neg h127])
      refine z_aload_n (pc := 76) (i := 0) (j := 0) rfl rfl rfl ?_
      refine z_getR (pc := 77) (x := 58) rfl fl_Mod_51 hm.1 rfl (mr_58 hm) ?_
      refine z_iload_n (pc := 80) (i := 1) (j := 1) rfl rfl rfl ?_
      refine z_iald (pc := 81) rfl (mk_58 hm) (vp_in_nI hb (by decide)) ?_
      refine z_eqi (y := g 58 i) (by rw [nI_clamp (by omega)]; rfl) ?_
      refine z_bipush (pc := 82) (v := 26) rfl (by decide) ?_
      refine z_icmp_ne (pc := 84) (tgt := 106) rfl (by decide) (fun h84 => ?_) (fun h84 => ?_)
      · exact j106 _ (by rw [if_neg h84])
      · refine z_aload_n (pc := 87) (i := 0) (j := 0) rfl rfl rfl ?_
        refine z_getR (pc := 88) (x := 57) rfl fl_Mod_48 hm.1 rfl (mr_57 hm) ?_
        refine z_iload_n (pc := 91) (i := 1) (j := 1) rfl rfl rfl ?_
        refine z_iald (pc := 92) rfl (mk_57 hm) (vp_in_nI hb (by decide)) ?_
        refine z_eqi (y := g 57 i) (by rw [nI_clamp (by omega)]; rfl) ?_
        refine z_if_eq (pc := 93) (tgt := 104) rfl (by decide) (fun h93 => ?_) (fun h93 => ?_)
        · refine z_iconst (pc := 104) (v := 0) rfl (by decide) ?_
          refine z_istore_n (pc := 105) (i := 2) (ls' := [(0, .ref 44), (1, .int (nI i)), (2, .int 0)]) rfl rfl (by decide) rfl ?_
          exact j106 _ (by rw [if_pos h84, if_pos h93])
        · refine z_iload_n (pc := 96) (i := 2) (j := 2) rfl rfl rfl ?_
          refine z_if_eq (pc := 97) (tgt := 104) rfl (by decide) (fun h97 => ?_) (fun h97 => ?_)
          · refine z_iconst (pc := 104) (v := 0) rfl (by decide) ?_
            refine z_istore_n (pc := 105) (i := 2) (ls' := [(0, .ref 44), (1, .int (nI i)), (2, .int 0)]) rfl rfl (by decide) rfl ?_
            exact j106 _ (by rw [if_pos h84, if_neg h93, if_pos h97])
          · refine z_iconst (pc := 100) (v := 1) rfl (by decide) ?_
            refine z_goto (pc := 101) (tgt := 105) rfl (by decide) ?_
            refine z_istore_n (pc := 105) (i := 2) (ls' := [(0, .ref 44), (1, .int (nI i)), (2, .int 1)]) rfl rfl (by decide) rfl ?_
            exact j106 _ (by rw [if_pos h84, if_neg h93, if_neg h97])
    refine z_aload_n (pc := 44) (i := 0) (j := 0) rfl rfl rfl ?_
    refine z_getR (pc := 45) (x := 60) rfl fl_Mod_57 hm.1 rfl (mr_60 hm) ?_
    refine z_iload_n (pc := 48) (i := 1) (j := 1) rfl rfl rfl ?_
    refine z_iald (pc := 49) rfl (mk_60 hm) (vp_in_nI hb (by decide)) ?_
    refine z_eqi (y := g 60 i) (by rw [nI_clamp (by omega)]; rfl) ?_
    refine z_bipush (pc := 50) (v := 25) rfl (by decide) ?_
    refine z_icmp_ne (pc := 52) (tgt := 76) rfl (by decide) (fun h52 => ?_) (fun h52 => ?_)
    · exact j76 _ (by rw [if_neg h52])
    · refine z_aload_n (pc := 55) (i := 0) (j := 0) rfl rfl rfl ?_
      refine z_getR (pc := 56) (x := 59) rfl fl_Mod_54 hm.1 rfl (mr_59 hm) ?_
      refine z_iload_n (pc := 59) (i := 1) (j := 1) rfl rfl rfl ?_
      refine z_iald (pc := 60) rfl (mk_59 hm) (vp_in_nI hb (by decide)) ?_
      refine z_eqi (y := g 59 i) (by rw [nI_clamp (by omega)]; rfl) ?_
      refine z_aload_n (pc := 61) (i := 0) (j := 0) rfl rfl rfl ?_
      refine z_getR (pc := 62) (x := 61) rfl fl_Mod_60 hm.1 rfl (mr_61 hm) ?_
      refine z_iload_n (pc := 65) (i := 1) (j := 1) rfl rfl rfl ?_
      refine z_iald (pc := 66) rfl (mk_61 hm) (vp_in_nI hb (by decide)) ?_
      refine z_eqi (y := g 61 i) (by rw [nI_clamp (by omega)]; rfl) ?_
      refine z_icmp_ne (pc := 67) (tgt := 74) rfl (by decide) (fun h67 => ?_) (fun h67 => ?_)
      · refine z_iconst (pc := 74) (v := 0) rfl (by decide) ?_
        refine z_istore_n (pc := 75) (i := 2) (ls' := [(0, .ref 44), (1, .int (nI i)), (2, .int 0)]) rfl rfl (by decide) rfl ?_
        exact j76 _ (by rw [if_pos h52, if_neg h67])
      · refine z_iconst (pc := 70) (v := 1) rfl (by decide) ?_
        refine z_goto (pc := 71) (tgt := 75) rfl (by decide) ?_
        refine z_istore_n (pc := 75) (i := 2) (ls' := [(0, .ref 44), (1, .int (nI i)), (2, .int 1)]) rfl rfl (by decide) rfl ?_
        exact j76 _ (by rw [if_pos h52, if_pos h67])
  refine z_aload_n (pc := 12) (i := 0) (j := 0) rfl rfl rfl ?_
  refine z_getR (pc := 13) (x := 60) rfl fl_Mod_57 hm.1 rfl (mr_60 hm) ?_
  refine z_iload_n (pc := 16) (i := 1) (j := 1) rfl rfl rfl ?_
  refine z_iald (pc := 17) rfl (mk_60 hm) (vp_in_nI hb (by decide)) ?_
  refine z_eqi (y := g 60 i) (by rw [nI_clamp (by omega)]; rfl) ?_
  refine z_bipush (pc := 18) (v := 24) rfl (by decide) ?_
  refine z_icmp_ne (pc := 20) (tgt := 44) rfl (by decide) (fun h20 => ?_) (fun h20 => ?_)
  · exact j44 _ (by rw [if_neg h20])
  · refine z_aload_n (pc := 23) (i := 0) (j := 0) rfl rfl rfl ?_
    refine z_getR (pc := 24) (x := 59) rfl fl_Mod_54 hm.1 rfl (mr_59 hm) ?_
    refine z_iload_n (pc := 27) (i := 1) (j := 1) rfl rfl rfl ?_
    refine z_iald (pc := 28) rfl (mk_59 hm) (vp_in_nI hb (by decide)) ?_
    refine z_eqi (y := g 59 i) (by rw [nI_clamp (by omega)]; rfl) ?_
    refine z_aload_n (pc := 29) (i := 0) (j := 0) rfl rfl rfl ?_
    refine z_getR (pc := 30) (x := 61) rfl fl_Mod_60 hm.1 rfl (mr_61 hm) ?_
    refine z_iload_n (pc := 33) (i := 1) (j := 1) rfl rfl rfl ?_
    refine z_iald (pc := 34) rfl (mk_61 hm) (vp_in_nI hb (by decide)) ?_
    refine z_eqi (y := g 61 i) (by rw [nI_clamp (by omega)]; rfl) ?_
    refine z_icmp_ge (pc := 35) (tgt := 42) rfl (by decide) (fun h35 => ?_) (fun h35 => ?_)
    · refine z_iconst (pc := 42) (v := 0) rfl (by decide) ?_
      refine z_istore_n (pc := 43) (i := 2) (ls' := [(0, .ref 44), (1, .int (nI i)), (2, .int 0)]) rfl rfl (by decide) rfl ?_
      exact j44 _ (by rw [if_pos h20, if_pos h35])
    · refine z_iconst (pc := 38) (v := 1) rfl (by decide) ?_
      refine z_goto (pc := 39) (tgt := 43) rfl (by decide) ?_
      refine z_istore_n (pc := 43) (i := 2) (ls' := [(0, .ref 44), (1, .int (nI i)), (2, .int 1)]) rfl rfl (by decide) rfl ?_
      exact j44 _ (by rw [if_pos h20, if_neg h35])
set_option maxRecDepth 100000 in
set_option maxHeartbeats 4000000 in
theorem l_Mod_bits (x : Int32) (w : zW) (d : Nat) : ∀ (m i : Nat), i ≤ 8 → 8 ≤ i + m → zS 0 0 d m_Mod_bits (fun rv w1 => rv = some (.int (rsum (fun k => (x >>> (nI k &&& 31)) &&& 1) 8)) ∧ w1 = w) 4 [(0, .int x), (1, .int (rsum (fun k => (x >>> (nI k &&& 31)) &&& 1) i)), (2, .int (nI i))] [] w := by
  have hex : zS 0 0 d m_Mod_bits (fun rv w1 => rv = some (.int (rsum (fun k => (x >>> (nI k &&& 31)) &&& 1) 8)) ∧ w1 = w) 4 [(0, .int x), (1, .int (rsum (fun k => (x >>> (nI k &&& 31)) &&& 1) 8)), (2, .int (nI 8))] [] w := by
    refine z_iload_n (pc := 4) (i := 2) (j := 2) rfl rfl rfl ?_
    refine z_bipush (pc := 5) (v := 8) rfl (by decide) ?_
    refine z_icmp_ge (pc := 7) (tgt := 24) rfl (by decide) (fun h7 => ?_) (fun h7 => ?_)
    · refine z_iload_n (pc := 24) (i := 1) (j := 1) rfl rfl rfl ?_
      exact z_iret (pc := 25) rfl rfl ⟨rfl, rfl⟩
    · exact absurd (by decide) h7
  intro m
  induction m with
  | zero =>
    intro i hi hm
    obtain rfl : i = 8 := by omega
    exact hex
  | succ m ih =>
    intro i hi hm
    by_cases hlt : i < 8
    · have kk := ih (i + 1) (by omega) (by omega)
      refine z_iload_n (pc := 4) (i := 2) (j := 2) rfl rfl rfl ?_
      refine z_bipush (pc := 5) (v := 8) rfl (by decide) ?_
      refine z_icmp_ge (pc := 7) (tgt := 24) rfl (by decide) (fun h7 => ?_) (fun h7 => ?_)
      · exact absurd h7 (nI_ge (b := 8) hlt (by decide))
      · refine z_iload_n (pc := 10) (i := 1) (j := 1) rfl rfl rfl ?_
        refine z_iload_n (pc := 11) (i := 0) (j := 0) rfl rfl rfl ?_
        refine z_iload_n (pc := 12) (i := 2) (j := 2) rfl rfl rfl ?_
        refine z_ishr (pc := 13) rfl ?_
        refine z_iconst (pc := 14) (v := 1) rfl (by decide) ?_
        refine z_iand (pc := 15) rfl ?_
        refine z_iadd (pc := 16) rfl ?_
        refine z_istore_n (pc := 17) (i := 1) (ls' := [(0, .int x), (1, .int ((rsum (fun k => (x >>> (nI k &&& 31)) &&& 1) i) + ((x >>> ((nI i) &&& 31)) &&& 1))), (2, .int (nI i))]) rfl rfl (by decide) rfl ?_
        refine z_iinc (pc := 18) (i := 2) (j := 2) (v := nI (i + 1)) (ls' := [(0, .int x), (1, .int ((rsum (fun k => (x >>> (nI k &&& 31)) &&& 1) i) + ((x >>> ((nI i) &&& 31)) &&& 1))), (2, .int (nI (i + 1)))]) rfl rfl (nI_1 i) (by decide) rfl ?_
        refine z_goto (pc := 21) (tgt := 4) rfl (by decide) ?_
        exact kk
    · obtain rfl : i = 8 := by omega
      exact hex
set_option maxRecDepth 100000 in
set_option maxHeartbeats 4000000 in
theorem c_Mod_bits (x : Int32) (w : zW) (d : Nat) : zS 0 0 d m_Mod_bits (fun rv w1 => rv = some (.int (rsum (fun k => (x >>> (nI k &&& 31)) &&& 1) 8)) ∧ w1 = w) 0 [(0, .int x)] [] w := by
  refine z_iconst (pc := 0) (v := 0) rfl (by decide) ?_
  refine z_istore_n (pc := 1) (i := 1) (ls' := [(0, .int x), (1, .int 0)]) rfl rfl (by decide) rfl ?_
  refine z_iconst (pc := 2) (v := nI 0) rfl rfl ?_
  refine z_istore_n (pc := 3) (i := 2) (ls' := [(0, .int x), (1, .int 0), (2, .int (nI 0))]) rfl rfl (by decide) rfl ?_
  exact l_Mod_bits x w d 8 0 (by omega) (by omega)
