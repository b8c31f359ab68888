/-! THE MODEL: a plain street -/
def plain0 (f : Nat → Nat → Int32) : Nat → Nat → Int32 := z2 (z2 (z2 (z2 (z2 (z2 (z2 (z2 (z2 (f) 46 0 8) 46 1 8) 46 2 1) 46 3 0) 46 4 0) 52 0 0) 53 0 0) 52 1 0) 53 1 0
set_option maxRecDepth 100000 in
set_option maxHeartbeats 1000000 in
theorem c_Mod_plain0 {w : zW} (hm : zMo w) (d : Nat) : zS 0 0 d m_Mod_plain (fun rv w1 => rv = none ∧ w1 = zuI w (plain0 (zI w))) 0 [(0, .ref 44), (1, .int 0)] [] w := by
  refine z_aload_n (pc := 0) (i := 0) (j := 0) rfl rfl rfl ?_
  refine z_getR (pc := 1) (x := 46) rfl fl_Mod_13 hm.1 rfl (mr_46 hm) ?_
  refine z_iconst (pc := 4) (v := 5) rfl (by decide) ?_
  refine z_iload_n (pc := 5) (i := 1) (j := 1) rfl rfl rfl ?_
  refine z_imul (pc := 6) rfl ?_
  refine z_iconst (pc := 7) (v := 0) rfl (by decide) ?_
  refine z_iadd (pc := 8) rfl ?_
  refine z_eqi (y := 0) (by decide) ?_
  refine z_bipush (pc := 9) (v := 8) rfl (by decide) ?_
  refine z_iast (pc := 11) rfl (mk_46 hm) (vp_in_nI (n := 0) (by decide) (by decide)) ?_
  refine z_aload_n (pc := 12) (i := 0) (j := 0) rfl rfl rfl ?_
  refine z_getR (pc := 13) (x := 46) rfl fl_Mod_13 hm.1 rfl (mr_46 hm) ?_
  refine z_iconst (pc := 16) (v := 5) rfl (by decide) ?_
  refine z_iload_n (pc := 17) (i := 1) (j := 1) rfl rfl rfl ?_
  refine z_imul (pc := 18) rfl ?_
  refine z_iconst (pc := 19) (v := 1) rfl (by decide) ?_
  refine z_iadd (pc := 20) rfl ?_
  refine z_eqi (y := 1) (by decide) ?_
  refine z_bipush (pc := 21) (v := 8) rfl (by decide) ?_
  refine z_iast (pc := 23) rfl (mk_46 hm) (vp_in_nI (n := 1) (by decide) (by decide)) ?_
  refine z_aload_n (pc := 24) (i := 0) (j := 0) rfl rfl rfl ?_
  refine z_getR (pc := 25) (x := 46) rfl fl_Mod_13 hm.1 rfl (mr_46 hm) ?_
  refine z_iconst (pc := 28) (v := 5) rfl (by decide) ?_
  refine z_iload_n (pc := 29) (i := 1) (j := 1) rfl rfl rfl ?_
  refine z_imul (pc := 30) rfl ?_
  refine z_iconst (pc := 31) (v := 2) rfl (by decide) ?_
  refine z_iadd (pc := 32) rfl ?_
  refine z_eqi (y := 2) (by decide) ?_
  refine z_iconst (pc := 33) (v := 1) rfl (by decide) ?_
  refine z_iast (pc := 34) rfl (mk_46 hm) (vp_in_nI (n := 2) (by decide) (by decide)) ?_
  refine z_aload_n (pc := 35) (i := 0) (j := 0) rfl rfl rfl ?_
  refine z_getR (pc := 36) (x := 46) rfl fl_Mod_13 hm.1 rfl (mr_46 hm) ?_
  refine z_iconst (pc := 39) (v := 5) rfl (by decide) ?_
  refine z_iload_n (pc := 40) (i := 1) (j := 1) rfl rfl rfl ?_
  refine z_imul (pc := 41) rfl ?_
  refine z_iconst (pc := 42) (v := 3) rfl (by decide) ?_
  refine z_iadd (pc := 43) rfl ?_
  refine z_eqi (y := 3) (by decide) ?_
  refine z_iconst (pc := 44) (v := 0) rfl (by decide) ?_
  refine z_iast (pc := 45) rfl (mk_46 hm) (vp_in_nI (n := 3) (by decide) (by decide)) ?_
  refine z_aload_n (pc := 46) (i := 0) (j := 0) rfl rfl rfl ?_
  refine z_getR (pc := 47) (x := 46) rfl fl_Mod_13 hm.1 rfl (mr_46 hm) ?_
  refine z_iconst (pc := 50) (v := 5) rfl (by decide) ?_
  refine z_iload_n (pc := 51) (i := 1) (j := 1) rfl rfl rfl ?_
  refine z_imul (pc := 52) rfl ?_
  refine z_iconst (pc := 53) (v := 4) rfl (by decide) ?_
  refine z_iadd (pc := 54) rfl ?_
  refine z_eqi (y := 4) (by decide) ?_
  refine z_iconst (pc := 55) (v := 0) rfl (by decide) ?_
  refine z_iast (pc := 56) rfl (mk_46 hm) (vp_in_nI (n := 4) (by decide) (by decide)) ?_
  refine z_iconst (pc := 57) (v := 0) rfl (by decide) ?_
  refine z_istore_n (pc := 58) (i := 2) (ls' := [(0, .ref 44), (1, .int 0), (2, .int 0)]) rfl rfl (by decide) rfl ?_
  refine z_iload_n (pc := 59) (i := 2) (j := 2) rfl rfl rfl ?_
  refine z_iconst (pc := 60) (v := 2) rfl (by decide) ?_
  refine z_icmp_ge (pc := 61) (tgt := 100) rfl (by decide) (fun h61 => ?_) (fun h61 => ?_)
  · exact absurd h61 (by decide)
  · refine z_aload_n (pc := 64) (i := 0) (j := 0) rfl rfl rfl ?_
    refine z_getR (pc := 65) (x := 52) rfl fl_Mod_32 hm.1 rfl (mr_52 hm) ?_
    refine z_iconst (pc := 68) (v := 2) rfl (by decide) ?_
    refine z_iload_n (pc := 69) (i := 1) (j := 1) rfl rfl rfl ?_
    refine z_imul (pc := 70) rfl ?_
    refine z_iload_n (pc := 71) (i := 2) (j := 2) rfl rfl rfl ?_
    refine z_iadd (pc := 72) rfl ?_
    refine z_eqi (y := 0) (by decide) ?_
    refine z_sipush (pc := 73) (v := 1000) rfl (by decide) ?_
    refine z_iload_n (pc := 76) (i := 1) (j := 1) rfl rfl rfl ?_
    refine z_imul (pc := 77) rfl ?_
    refine z_eqi (y := 0) (by decide) ?_
    refine z_iast (pc := 78) rfl (mk_52 hm) (vp_in_nI (n := 0) (by decide) (by decide)) ?_
    refine z_aload_n (pc := 79) (i := 0) (j := 0) rfl rfl rfl ?_
    refine z_getR (pc := 80) (x := 53) rfl fl_Mod_35 hm.1 rfl (mr_53 hm) ?_
    refine z_iconst (pc := 83) (v := 2) rfl (by decide) ?_
    refine z_iload_n (pc := 84) (i := 1) (j := 1) rfl rfl rfl ?_
    refine z_imul (pc := 85) rfl ?_
    refine z_iload_n (pc := 86) (i := 2) (j := 2) rfl rfl rfl ?_
    refine z_iadd (pc := 87) rfl ?_
    refine z_eqi (y := 0) (by decide) ?_
    refine z_sipush (pc := 88) (v := 1000) rfl (by decide) ?_
    refine z_iload_n (pc := 91) (i := 1) (j := 1) rfl rfl rfl ?_
    refine z_imul (pc := 92) rfl ?_
    refine z_eqi (y := 0) (by decide) ?_
    refine z_iast (pc := 93) rfl (mk_53 hm) (vp_in_nI (n := 0) (by decide) (by decide)) ?_
    refine z_iinc (pc := 94) (i := 2) (j := 2) (v := 1) (ls' := [(0, .ref 44), (1, .int 0), (2, .int 1)]) rfl rfl (by decide) (by decide) rfl ?_
    refine z_goto (pc := 97) (tgt := 59) rfl (by decide) ?_
    refine z_iload_n (pc := 59) (i := 2) (j := 2) rfl rfl rfl ?_
    refine z_iconst (pc := 60) (v := 2) rfl (by decide) ?_
    refine z_icmp_ge (pc := 61) (tgt := 100) rfl (by decide) (fun h61 => ?_) (fun h61 => ?_)
    · exact absurd h61 (by decide)
    · refine z_aload_n (pc := 64) (i := 0) (j := 0) rfl rfl rfl ?_
      refine z_getR (pc := 65) (x := 52) rfl fl_Mod_32 hm.1 rfl (mr_52 hm) ?_
      refine z_iconst (pc := 68) (v := 2) rfl (by decide) ?_
      refine z_iload_n (pc := 69) (i := 1) (j := 1) rfl rfl rfl ?_
      refine z_imul (pc := 70) rfl ?_
      refine z_iload_n (pc := 71) (i := 2) (j := 2) rfl rfl rfl ?_
      refine z_iadd (pc := 72) rfl ?_
      refine z_eqi (y := 1) (by decide) ?_
      refine z_sipush (pc := 73) (v := 1000) rfl (by decide) ?_
      refine z_iload_n (pc := 76) (i := 1) (j := 1) rfl rfl rfl ?_
      refine z_imul (pc := 77) rfl ?_
      refine z_eqi (y := 0) (by decide) ?_
      refine z_iast (pc := 78) rfl (mk_52 hm) (vp_in_nI (n := 1) (by decide) (by decide)) ?_
      refine z_aload_n (pc := 79) (i := 0) (j := 0) rfl rfl rfl ?_
      refine z_getR (pc := 80) (x := 53) rfl fl_Mod_35 hm.1 rfl (mr_53 hm) ?_
      refine z_iconst (pc := 83) (v := 2) rfl (by decide) ?_
      refine z_iload_n (pc := 84) (i := 1) (j := 1) rfl rfl rfl ?_
      refine z_imul (pc := 85) rfl ?_
      refine z_iload_n (pc := 86) (i := 2) (j := 2) rfl rfl rfl ?_
      refine z_iadd (pc := 87) rfl ?_
      refine z_eqi (y := 1) (by decide) ?_
      refine z_sipush (pc := 88) (v := 1000) rfl (by decide) ?_
      refine z_iload_n (pc := 91) (i := 1) (j := 1) rfl rfl rfl ?_
      refine z_imul (pc := 92) rfl ?_
      refine z_eqi (y := 0) (by decide) ?_
      refine z_iast (pc := 93) rfl (mk_53 hm) (vp_in_nI (n := 1) (by decide) (by decide)) ?_
      refine z_iinc (pc := 94) (i := 2) (j := 2) (v := 2) (ls' := [(0, .ref 44), (1, .int 0), (2, .int 2)]) rfl rfl (by decide) (by decide) rfl ?_
      refine z_goto (pc := 97) (tgt := 59) rfl (by decide) ?_
      refine z_iload_n (pc := 59) (i := 2) (j := 2) rfl rfl rfl ?_
      refine z_iconst (pc := 60) (v := 2) rfl (by decide) ?_
      refine z_icmp_ge (pc := 61) (tgt := 100) rfl (by decide) (fun h61 => ?_) (fun h61 => ?_)
      · exact z_vret (pc := 100) rfl rfl ⟨rfl, rfl⟩
      · exact absurd (by decide) h61
def plain1 (f : Nat → Nat → Int32) : Nat → Nat → Int32 := z2 (z2 (z2 (z2 (z2 (z2 (z2 (z2 (z2 (f) 46 5 8) 46 6 8) 46 7 1) 46 8 0) 46 9 0) 52 2 1000) 53 2 1000) 52 3 1000) 53 3 1000
set_option maxRecDepth 100000 in
set_option maxHeartbeats 1000000 in
theorem c_Mod_plain1 {w : zW} (hm : zMo w) (d : Nat) : zS 0 0 d m_Mod_plain (fun rv w1 => rv = none ∧ w1 = zuI w (plain1 (zI w))) 0 [(0, .ref 44), (1, .int 1)] [] w := by
  refine z_aload_n (pc := 0) (i := 0) (j := 0) rfl rfl rfl ?_
  refine z_getR (pc := 1) (x := 46) rfl fl_Mod_13 hm.1 rfl (mr_46 hm) ?_
  refine z_iconst (pc := 4) (v := 5) rfl (by decide) ?_
  refine z_iload_n (pc := 5) (i := 1) (j := 1) rfl rfl rfl ?_
  refine z_imul (pc := 6) rfl ?_
  refine z_iconst (pc := 7) (v := 0) rfl (by decide) ?_
  refine z_iadd (pc := 8) rfl ?_
  refine z_eqi (y := 5) (by decide) ?_
  refine z_bipush (pc := 9) (v := 8) rfl (by decide) ?_
  refine z_iast (pc := 11) rfl (mk_46 hm) (vp_in_nI (n := 5) (by decide) (by decide)) ?_
  refine z_aload_n (pc := 12) (i := 0) (j := 0) rfl rfl rfl ?_
  refine z_getR (pc := 13) (x := 46) rfl fl_Mod_13 hm.1 rfl (mr_46 hm) ?_
  refine z_iconst (pc := 16) (v := 5) rfl (by decide) ?_
  refine z_iload_n (pc := 17) (i := 1) (j := 1) rfl rfl rfl ?_
  refine z_imul (pc := 18) rfl ?_
  refine z_iconst (pc := 19) (v := 1) rfl (by decide) ?_
  refine z_iadd (pc := 20) rfl ?_
  refine z_eqi (y := 6) (by decide) ?_
  refine z_bipush (pc := 21) (v := 8) rfl (by decide) ?_
  refine z_iast (pc := 23) rfl (mk_46 hm) (vp_in_nI (n := 6) (by decide) (by decide)) ?_
  refine z_aload_n (pc := 24) (i := 0) (j := 0) rfl rfl rfl ?_
  refine z_getR (pc := 25) (x := 46) rfl fl_Mod_13 hm.1 rfl (mr_46 hm) ?_
  refine z_iconst (pc := 28) (v := 5) rfl (by decide) ?_
  refine z_iload_n (pc := 29) (i := 1) (j := 1) rfl rfl rfl ?_
  refine z_imul (pc := 30) rfl ?_
  refine z_iconst (pc := 31) (v := 2) rfl (by decide) ?_
  refine z_iadd (pc := 32) rfl ?_
  refine z_eqi (y := 7) (by decide) ?_
  refine z_iconst (pc := 33) (v := 1) rfl (by decide) ?_
  refine z_iast (pc := 34) rfl (mk_46 hm) (vp_in_nI (n := 7) (by decide) (by decide)) ?_
  refine z_aload_n (pc := 35) (i := 0) (j := 0) rfl rfl rfl ?_
  refine z_getR (pc := 36) (x := 46) rfl fl_Mod_13 hm.1 rfl (mr_46 hm) ?_
  refine z_iconst (pc := 39) (v := 5) rfl (by decide) ?_
  refine z_iload_n (pc := 40) (i := 1) (j := 1) rfl rfl rfl ?_
  refine z_imul (pc := 41) rfl ?_
  refine z_iconst (pc := 42) (v := 3) rfl (by decide) ?_
  refine z_iadd (pc := 43) rfl ?_
  refine z_eqi (y := 8) (by decide) ?_
  refine z_iconst (pc := 44) (v := 0) rfl (by decide) ?_
  refine z_iast (pc := 45) rfl (mk_46 hm) (vp_in_nI (n := 8) (by decide) (by decide)) ?_
  refine z_aload_n (pc := 46) (i := 0) (j := 0) rfl rfl rfl ?_
  refine z_getR (pc := 47) (x := 46) rfl fl_Mod_13 hm.1 rfl (mr_46 hm) ?_
  refine z_iconst (pc := 50) (v := 5) rfl (by decide) ?_
  refine z_iload_n (pc := 51) (i := 1) (j := 1) rfl rfl rfl ?_
  refine z_imul (pc := 52) rfl ?_
  refine z_iconst (pc := 53) (v := 4) rfl (by decide) ?_
  refine z_iadd (pc := 54) rfl ?_
  refine z_eqi (y := 9) (by decide) ?_
  refine z_iconst (pc := 55) (v := 0) rfl (by decide) ?_
  refine z_iast (pc := 56) rfl (mk_46 hm) (vp_in_nI (n := 9) (by decide) (by decide)) ?_
  refine z_iconst (pc := 57) (v := 0) rfl (by decide) ?_
  refine z_istore_n (pc := 58) (i := 2) (ls' := [(0, .ref 44), (1, .int 1), (2, .int 0)]) rfl rfl (by decide) rfl ?_
  refine z_iload_n (pc := 59) (i := 2) (j := 2) rfl rfl rfl ?_
  refine z_iconst (pc := 60) (v := 2) rfl (by decide) ?_
  refine z_icmp_ge (pc := 61) (tgt := 100) rfl (by decide) (fun h61 => ?_) (fun h61 => ?_)
  · exact absurd h61 (by decide)
  · refine z_aload_n (pc := 64) (i := 0) (j := 0) rfl rfl rfl ?_
    refine z_getR (pc := 65) (x := 52) rfl fl_Mod_32 hm.1 rfl (mr_52 hm) ?_
    refine z_iconst (pc := 68) (v := 2) rfl (by decide) ?_
    refine z_iload_n (pc := 69) (i := 1) (j := 1) rfl rfl rfl ?_
    refine z_imul (pc := 70) rfl ?_
    refine z_iload_n (pc := 71) (i := 2) (j := 2) rfl rfl rfl ?_
    refine z_iadd (pc := 72) rfl ?_
    refine z_eqi (y := 2) (by decide) ?_
    refine z_sipush (pc := 73) (v := 1000) rfl (by decide) ?_
    refine z_iload_n (pc := 76) (i := 1) (j := 1) rfl rfl rfl ?_
    refine z_imul (pc := 77) rfl ?_
    refine z_eqi (y := 1000) (by decide) ?_
    refine z_iast (pc := 78) rfl (mk_52 hm) (vp_in_nI (n := 2) (by decide) (by decide)) ?_
    refine z_aload_n (pc := 79) (i := 0) (j := 0) rfl rfl rfl ?_
    refine z_getR (pc := 80) (x := 53) rfl fl_Mod_35 hm.1 rfl (mr_53 hm) ?_
    refine z_iconst (pc := 83) (v := 2) rfl (by decide) ?_
    refine z_iload_n (pc := 84) (i := 1) (j := 1) rfl rfl rfl ?_
    refine z_imul (pc := 85) rfl ?_
    refine z_iload_n (pc := 86) (i := 2) (j := 2) rfl rfl rfl ?_
    refine z_iadd (pc := 87) rfl ?_
    refine z_eqi (y := 2) (by decide) ?_
    refine z_sipush (pc := 88) (v := 1000) rfl (by decide) ?_
    refine z_iload_n (pc := 91) (i := 1) (j := 1) rfl rfl rfl ?_
    refine z_imul (pc := 92) rfl ?_
    refine z_eqi (y := 1000) (by decide) ?_
    refine z_iast (pc := 93) rfl (mk_53 hm) (vp_in_nI (n := 2) (by decide) (by decide)) ?_
    refine z_iinc (pc := 94) (i := 2) (j := 2) (v := 1) (ls' := [(0, .ref 44), (1, .int 1), (2, .int 1)]) rfl rfl (by decide) (by decide) rfl ?_
    refine z_goto (pc := 97) (tgt := 59) rfl (by decide) ?_
    refine z_iload_n (pc := 59) (i := 2) (j := 2) rfl rfl rfl ?_
    refine z_iconst (pc := 60) (v := 2) rfl (by decide) ?_
    refine z_icmp_ge (pc := 61) (tgt := 100) rfl (by decide) (fun h61 => ?_) (fun h61 => ?_)
    · exact absurd h61 (by decide)
    · refine z_aload_n (pc := 64) (i := 0) (j := 0) rfl rfl rfl ?_
      refine z_getR (pc := 65) (x := 52) rfl fl_Mod_32 hm.1 rfl (mr_52 hm) ?_
      refine z_iconst (pc := 68) (v := 2) rfl (by decide) ?_
      refine z_iload_n (pc := 69) (i := 1) (j := 1) rfl rfl rfl ?_
      refine z_imul (pc := 70) rfl ?_
      refine z_iload_n (pc := 71) (i := 2) (j := 2) rfl rfl rfl ?_
      refine z_iadd (pc := 72) rfl ?_
      refine z_eqi (y := 3) (by decide) ?_
      refine z_sipush (pc := 73) (v := 1000) rfl (by decide) ?_
      refine z_iload_n (pc := 76) (i := 1) (j := 1) rfl rfl rfl ?_
      refine z_imul (pc := 77) rfl ?_
      refine z_eqi (y := 1000) (by decide) ?_
      refine z_iast (pc := 78) rfl (mk_52 hm) (vp_in_nI (n := 3) (by decide) (by decide)) ?_
      refine z_aload_n (pc := 79) (i := 0) (j := 0) rfl rfl rfl ?_
      refine z_getR (pc := 80) (x := 53) rfl fl_Mod_35 hm.1 rfl (mr_53 hm) ?_
      refine z_iconst (pc := 83) (v := 2) rfl (by decide) ?_
      refine z_iload_n (pc := 84) (i := 1) (j := 1) rfl rfl rfl ?_
      refine z_imul (pc := 85) rfl ?_
      refine z_iload_n (pc := 86) (i := 2) (j := 2) rfl rfl rfl ?_
      refine z_iadd (pc := 87) rfl ?_
      refine z_eqi (y := 3) (by decide) ?_
      refine z_sipush (pc := 88) (v := 1000) rfl (by decide) ?_
      refine z_iload_n (pc := 91) (i := 1) (j := 1) rfl rfl rfl ?_
      refine z_imul (pc := 92) rfl ?_
      refine z_eqi (y := 1000) (by decide) ?_
      refine z_iast (pc := 93) rfl (mk_53 hm) (vp_in_nI (n := 3) (by decide) (by decide)) ?_
      refine z_iinc (pc := 94) (i := 2) (j := 2) (v := 2) (ls' := [(0, .ref 44), (1, .int 1), (2, .int 2)]) rfl rfl (by decide) (by decide) rfl ?_
      refine z_goto (pc := 97) (tgt := 59) rfl (by decide) ?_
      refine z_iload_n (pc := 59) (i := 2) (j := 2) rfl rfl rfl ?_
      refine z_iconst (pc := 60) (v := 2) rfl (by decide) ?_
      refine z_icmp_ge (pc := 61) (tgt := 100) rfl (by decide) (fun h61 => ?_) (fun h61 => ?_)
      · exact z_vret (pc := 100) rfl rfl ⟨rfl, rfl⟩
      · exact absurd (by decide) h61
