/-! THE TAPE: a length and a row; a sign comes behind it -/
def tok (c : Int32) : Bool := c = 10 || (!decide (c < 32) && decide (c ≤ 126))
def tpush (q : Nat × (Nat → Int32)) (c : Int32) : Nat × (Nat → Int32) := if tok c = true ∧ q.1 < 1000 then (q.1 + 1, upd q.2 q.1 c) else q
/-- the tape object o with its row a -/
def zTp (w : zW) (o a : Nat) (q : Nat × (Nat → Int32)) : zW := zrI (zsI w o 1 (nI q.1)) a q.2
def sgn (x : Int64) (j : Nat) : Int32 := (x.toUInt64 >>> ((nI (56 - 8 * j)).toInt64.toUInt64 &&& Int64.toUInt64 63)).toInt64.toInt32 &&& 255
/-- the eight signs of a long from the j-th on -/
def tbytes (x : Int64) : Nat → Nat × (Nat → Int32) → Nat × (Nat → Int32)
  | 0, q => q
  | n + 1, q => tbytes x n (tpush q (sgn x (7 - n)))
theorem tpush_le {q : Nat × (Nat → Int32)} (h : q.1 ≤ 1000) (c : Int32) : (tpush q c).1 ≤ 1000 := by
  unfold tpush
  split
  · rename_i h1; show q.1 + 1 ≤ 1000; omega
  · exact h
theorem tbytes_le (x : Int64) : ∀ (n : Nat) (q : Nat × (Nat → Int32)), q.1 ≤ 1000 → (tbytes x n q).1 ≤ 1000
  | 0, _, h => h
  | n + 1, q, h => tbytes_le x n _ (tpush_le h _)
theorem tok_byte {c : Int32} (h : tok c = true) : vp_nar .byte c.toInt8.toInt32 = c := by
  rw [pk_vb]
  unfold tok at h
  have h1 : c = 10 ∨ (¬ c < 32 ∧ c ≤ 126) := by simpa using h
  rcases h1 with rfl | ⟨h1, h2⟩
  · decide
  · obtain ⟨j, hj, rfl⟩ := nI_of2 (M := 126) (n := 126) rfl (fun q => h1 (Int32.lt_of_lt_of_le q (by decide))) h2
    exact fa_byte_small (by omega)

theorem tape_put (w : zW) {o a : Nat} (hoa : o ≠ a) (q : Nat × (Nat → Int32)) (c : Int32) : zsI (zsI (zTp w o a q) a q.1 c) o 1 (nI (q.1 + 1)) = zTp w o a (q.1 + 1, upd q.2 q.1 c) := by
  unfold zTp
  rw [zrI_put, zsI_cr _ _ _ _ hoa, zsI_over]
theorem tok_1 {c : Int32} (h : c = 10) : tok c = true := by subst h; rfl
theorem tok_2 {c : Int32} (h1 : ¬ c < 32) (h2 : ¬ 126 < c) : tok c = true := by
  have h3 : c ≤ 126 := Int32.not_lt.mp h2
  unfold tok
  rw [decide_eq_false h1, decide_eq_true h3]
  simp
theorem tok_3 {c : Int32} (h : ¬ c = 10) (h1 : c < 32) : ¬ tok c = true := by
  unfold tok
  rw [decide_eq_true h1, decide_eq_false h]
  simp
theorem tok_4 {c : Int32} (h : ¬ c = 10) (h1 : 126 < c) : ¬ tok c = true := by
  have h3 : ¬ c ≤ 126 := fun z => absurd h1 (Int32.not_lt.mpr z)
  unfold tok
  rw [decide_eq_false h3, decide_eq_false h]
  simp
set_option maxRecDepth 100000 in
set_option maxHeartbeats 4000000 in
theorem l_Tape_addBytes {w : zW} {o a : Nat} (h1 : w.1[o]? = some (6, 2)) (h2 : zR w o 0 = some a) (h3 : w.1[a]? = some (9, 1000)) (hoa : o ≠ a) (x : Int64) (d : Nat) : ∀ (m : Nat) (q : Nat × (Nat → Int32)) (s : Int32) (ls : List (Nat × Value)), m ≤ 8 → q.1 ≤ 1000 → s = nI (8 * m) - 8 → ls = [(0, .ref o), (1, .long x), (3, .int s)] → zS 0 0 d m_Tape_addBytes (fun rv w1 => rv = none ∧ w1 = zTp w o a (tbytes x m q)) 3 ls [] (zTp w o a q) := by
  intro m
  induction m with
  | zero =>
    intro q s ls hm hq hs hls
    subst hls hs
    refine z_iload_n (pc := 3) (i := 3) (j := 2) rfl rfl rfl ?_
    refine z_if_lt (pc := 4) (tgt := 90) rfl (by decide) (fun h4 => ?_) (fun h4 => absurd (by decide) h4)
    exact z_vret (pc := 90) rfl rfl ⟨rfl, rfl⟩
  | succ m ih =>
    intro q s ls hm hq hs hls
    subst hls
    have hs56 : s = nI (8 * m) := by rw [hs]; exact (pk_sub (a := 8 * (m + 1)) (b := 8) (by omega)).trans (by congr 1)
    have hlen : zI (zTp w o a q) o 1 = nI q.1 := by unfold zTp; rw [zI_ro _ hoa, zI_hit]
    have hnext : nI (8 * m) + -8 = nI (8 * m) - 8 := by rw [Int32.sub_eq_add_neg]
    refine z_iload_n (pc := 3) (i := 3) (j := 2) rfl rfl rfl ?_
    refine z_if_lt (pc := 4) (tgt := 90) rfl (by decide) (fun h4 => ?_) (fun h4 => ?_)
    · exact absurd h4 (by rw [hs56]; exact nI_pos (by omega))
    · refine z_lload_n (pc := 7) (i := 1) (j := 1) rfl rfl rfl ?_
      refine z_iload_n (pc := 8) (i := 3) (j := 2) rfl rfl rfl ?_
      refine z_lushr (pc := 9) rfl ?_
      refine z_l2i (pc := 10) rfl ?_
      refine z_sipush (pc := 11) (v := 255) rfl (by decide) ?_
      refine z_iand (pc := 14) rfl ?_
      refine z_topi (fun c h_c => ?_)
      refine z_istore (pc := 15) (i := 4) (ls' := [(0, .ref o), (1, .long x), (3, .int s), (4, .int c)]) rfl (by decide) rfl ?_
      have hc : c = sgn x (7 - m) := by rw [h_c, hs56]; unfold sgn; rw [show 56 - 8 * (7 - m) = 8 * m by omega]
      have j43 : ∀ b : Int32, (b = (if tok c = true then 1 else 0)) → zS 0 0 d m_Tape_addBytes (fun rv w1 => rv = none ∧ w1 = zTp w o a (tbytes x (m + 1) q)) 43 [(0, .ref o), (1, .long x), (3, .int s), (4, .int c)] [.int b] (zTp w o a q) := by
        intro b h_j43
        refine z_istore (pc := 43) (i := 5) (ls' := [(0, .ref o), (1, .long x), (3, .int s), (4, .int c), (5, .int b)]) rfl (by decide) rfl ?_
        refine z_iload (pc := 45) (i := 5) (j := 4) rfl rfl ?_
        refine z_if_eq (pc := 47) (tgt := 84) rfl (by decide) (fun h47 => ?_) (fun h47 => ?_)
        · refine z_iinc (pc := 84) (i := 3) (j := 2) (v := nI (8 * m) - 8) (ls' := [(0, .ref o), (1, .long x), (3, .int (nI (8 * m) - 8)), (4, .int c), (5, .int b)]) rfl rfl (by rw [hs56]; exact hnext) (by decide) rfl ?_
          refine z_goto (pc := 87) (tgt := 3) rfl (by decide) ?_
          have htk : ¬ tok c = true := fun ht => by rw [h_j43, if_pos ht] at h47; exact absurd h47 (by decide)
          have hp : tpush q c = q := if_neg (fun z => htk z.1)
          refine z_drop (ls' := [(0, .ref o), (1, .long x), (3, .int (nI (8 * m) - 8))]) (by simp) ?_
          rw [show tbytes x (m + 1) q = tbytes x m q from by show tbytes x m (tpush q (sgn x (7 - m))) = _; rw [← hc, hp]]
          exact ih q _ _ (by omega) hq rfl rfl
        · refine z_aload_n (pc := 50) (i := 0) (j := 0) rfl rfl rfl ?_
          refine z_getI (pc := 51) rfl fl_Tape_15 h1 rfl ?_
          refine z_eqi (y := nI q.1) hlen ?_
          refine z_aload_n (pc := 54) (i := 0) (j := 0) rfl rfl rfl ?_
          refine z_getR (pc := 55) (x := a) rfl fl_Tape_9 h1 rfl h2 ?_
          refine z_alen (pc := 58) (v := 1000) rfl h3 (by decide) (by decide) ?_
          refine z_icmp_ge (pc := 59) (tgt := 84) rfl (by decide) (fun h59 => ?_) (fun h59 => ?_)
          · refine z_iinc (pc := 84) (i := 3) (j := 2) (v := nI (8 * m) - 8) (ls' := [(0, .ref o), (1, .long x), (3, .int (nI (8 * m) - 8)), (4, .int c), (5, .int b)]) rfl rfl (by rw [hs56]; exact hnext) (by decide) rfl ?_
            refine z_goto (pc := 87) (tgt := 3) rfl (by decide) ?_
            have hlt : ¬ q.1 < 1000 := fun z => nI_ge (b := 1000) z (by omega) h59
            have hp : tpush q c = q := if_neg (fun z => hlt z.2)
            refine z_drop (ls' := [(0, .ref o), (1, .long x), (3, .int (nI (8 * m) - 8))]) (by simp) ?_
            rw [show tbytes x (m + 1) q = tbytes x m q from by show tbytes x m (tpush q (sgn x (7 - m))) = _; rw [← hc, hp]]
            exact ih q _ _ (by omega) hq rfl rfl
          · refine z_aload_n (pc := 62) (i := 0) (j := 0) rfl rfl rfl ?_
            refine z_getR (pc := 63) (x := a) rfl fl_Tape_9 h1 rfl h2 ?_
            refine z_aload_n (pc := 66) (i := 0) (j := 0) rfl rfl rfl ?_
            refine z_getI (pc := 67) rfl fl_Tape_15 h1 rfl ?_
            refine z_eqi (y := nI q.1) hlen ?_
            refine z_iload (pc := 70) (i := 4) (j := 3) rfl rfl ?_
            refine z_i2b (pc := 72) rfl ?_
            refine z_bast (pc := 73) rfl h3 (vp_in_nI (zlt_of 1000 (by omega) h59) (by omega)) ?_
            refine z_aload_n (pc := 74) (i := 0) (j := 0) rfl rfl rfl ?_
            refine z_dup (pc := 75) rfl rfl ?_
            refine z_getI (pc := 76) rfl fl_Tape_15 h1 rfl ?_
            refine z_eqi (y := nI q.1) (by rw [zI_o _ _ _ hoa]; exact hlen) ?_
            refine z_iconst (pc := 79) (v := 1) rfl (by decide) ?_
            refine z_iadd (pc := 80) rfl ?_
            refine z_putI (pc := 81) rfl fl_Tape_15 h1 rfl  ?_
            refine z_iinc (pc := 84) (i := 3) (j := 2) (v := nI (8 * m) - 8) (ls' := [(0, .ref o), (1, .long x), (3, .int (nI (8 * m) - 8)), (4, .int c), (5, .int b)]) rfl rfl (by rw [hs56]; exact hnext) (by decide) rfl ?_
            refine z_goto (pc := 87) (tgt := 3) rfl (by decide) ?_
            have hlt : q.1 < 1000 := zlt_of 1000 (by omega) h59
            have htk : tok c = true := by
              by_cases ht : tok c = true
              · exact ht
              · exact absurd (h_j43.trans (if_neg ht)) h47
            have hp : tpush q c = (q.1 + 1, upd q.2 q.1 c) := if_pos ⟨htk, hlt⟩
            refine z_eqw (w2 := zTp w o a (tpush q c)) ?_ ?_
            · rw [hp, tok_byte htk, nI_clamp (by omega), nI_1]
              exact tape_put w hoa q c
            · refine z_drop (ls' := [(0, .ref o), (1, .long x), (3, .int (nI (8 * m) - 8))]) (by simp) ?_
              rw [show tbytes x (m + 1) q = tbytes x m (tpush q c) from by show tbytes x m (tpush q (sgn x (7 - m))) = _; rw [hc]]
              exact ih (tpush q c) _ _ (by omega) (tpush_le hq c) rfl rfl
      refine z_iload (pc := 17) (i := 4) (j := 3) rfl rfl ?_
      refine z_bipush (pc := 19) (v := 10) rfl (by decide) ?_
      refine z_icmp_eq (pc := 21) (tgt := 38) rfl (by decide) (fun h21 => ?_) (fun h21 => ?_)
      · refine z_iconst (pc := 38) (v := 1) rfl (by decide) ?_
        refine z_goto (pc := 39) (tgt := 43) rfl (by decide) ?_
        exact j43 _ ((if_pos (tok_1 h21)).symm)
      · refine z_iload (pc := 24) (i := 4) (j := 3) rfl rfl ?_
        refine z_bipush (pc := 26) (v := 32) rfl (by decide) ?_
        refine z_icmp_lt (pc := 28) (tgt := 42) rfl (by decide) (fun h28 => ?_) (fun h28 => ?_)
        · refine z_iconst (pc := 42) (v := 0) rfl (by decide) ?_
          exact j43 _ ((if_neg (tok_3 h21 h28)).symm)
        · refine z_iload (pc := 31) (i := 4) (j := 3) rfl rfl ?_
          refine z_bipush (pc := 33) (v := 126) rfl (by decide) ?_
          refine z_icmp_gt (pc := 35) (tgt := 42) rfl (by decide) (fun h35 => ?_) (fun h35 => ?_)
          · refine z_iconst (pc := 42) (v := 0) rfl (by decide) ?_
            exact j43 _ ((if_neg (tok_4 h21 h35)).symm)
          · refine z_iconst (pc := 38) (v := 1) rfl (by decide) ?_
            refine z_goto (pc := 39) (tgt := 43) rfl (by decide) ?_
            exact j43 _ ((if_pos (tok_2 h28 h35)).symm)
set_option maxRecDepth 100000 in
set_option maxHeartbeats 4000000 in
theorem c_Tape_addBytes {w : zW} {o a n : Nat} (h1 : w.1[o]? = some (6, 2)) (h2 : zR w o 0 = some a) (h3 : w.1[a]? = some (9, 1000)) (hoa : o ≠ a) (hn : zI w o 1 = nI n) (hn1 : n ≤ 1000) (x : Int64) (d : Nat) : zS 0 0 d m_Tape_addBytes (fun rv w1 => rv = none ∧ w1 = zTp w o a (tbytes x 8 (n, zI w a))) 0 [(0, .ref o), (1, .long x)] [] w := by
  refine z_bipush (pc := 0) (v := 56) rfl (by decide) ?_
  refine z_istore_n (pc := 2) (i := 3) (ls' := [(0, .ref o), (1, .long x), (3, .int 56)]) rfl rfl (by decide) rfl ?_
  refine z_eqw (w2 := zTp w o a (n, zI w a)) ?_ (l_Tape_addBytes h1 h2 h3 hoa x d 8 (n, zI w a) 56 _ (by omega) hn1 (by decide) rfl)
  unfold zTp
  show w = zrI (zsI w o 1 (nI n)) a (zI w a)
  rw [zsI_same hn, zrI_self]
