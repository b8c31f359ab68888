/-! THE READER: all of a tape; the object's street and feed -/
theorem strB_o {f : Nat → Nat → Int32} {s o : Nat} (h : o < s ∨ s + 12 ≤ o) : strB f s o = f o := by
  unfold strB
  repeat rw [z2_ro _ _ _ (by omega)]
def rd0 (f : Nat → Nat → Int32) (s : Nat) : Nat → Nat → Int32 := z2 (z2 (z2 (z2 (z2 (z2 (z2 (strB f s) 3 3 0) 3 9 0) 3 10 0) 3 11 0) 3 12 0) 3 13 0) 3 14 0
def rd1 (w : zW) (s : Nat) : zW := zsI (zsI (zsI (zsI (zsI (zsI (zsI (zsR (zuI w (strB (zI w) s)) 3 2 (some (s + 6))) 3 3 0) 3 9 0) 3 10 0) 3 11 0) 3 12 0) 3 13 0) 3 14 0
theorem rd1_H {w : zW} {s : Nat} (hs : 3 < s) : rH s w (rd1 w s) := by
  have h0 : rH s w (zuI w (strB (zI w) s)) := ⟨rfl, fun _ _ _ => rfl, fun _ _ _ => rfl, strB_o (f := zI w) (s := s) (o := 1) (by omega), strB_o (f := zI w) (s := s) (o := 2) (by omega)⟩
  exact rH_t h0 (rH_t (rH_R _) (rH_t (rH_I (by decide) _ _) (rH_t (rH_I (by decide) _ _) (rH_t (rH_I (by decide) _ _) (rH_t (rH_I (by decide) _ _) (rH_t (rH_I (by decide) _ _) (rH_t (rH_I (by decide) _ _) (rH_I (by decide) _ _))))))))
def dD0 (w : zW) (s : Nat) : rDt := (.inl 0, zI (rd1 w s), zL w (s + 5))
set_option maxRecDepth 100000 in
set_option maxHeartbeats 4000000 in
theorem l_Reader_read {T : Nat → Int32} {n s d : Nat} (hd : 133 ≤ d) : ∀ (m i : Nat) (w : zW) (D : rDt), i + m = 1001 → rdK w s n T → rD w T n s D → hOk s D → zS 0 0 d m_Reader_read (fun rv w1 => rv = some (.int (fltS (dAll T n s m D).1)) ∧ rH s w w1 ∧ rD w1 T n s (dAll T n s m D)) 59 [(0, .ref 3), (1, .int (nI i))] [] w := by
  intro m
  induction m with
  | zero =>
    intro i w D him hk hD hO
    obtain rfl : i = 1001 := by omega
    refine z_iload_n (pc := 59) (i := 1) (j := 1) rfl rfl rfl ?_
    refine z_sipush (pc := 60) (v := 1000) rfl (by decide) ?_
    refine z_icmp_gt (pc := 63) (tgt := 90) rfl (by decide) (fun h63 => ?_) (fun h63 => absurd (by decide) h63)
    refine z_aload_n (pc := 90) (i := 0) (j := 0) rfl rfl rfl ?_
    refine z_getI (pc := 91) rfl fl_Reader_39 hk.1 rfl ?_
    refine z_eqi (y := fltS D.1) (rS_f hD.1) ?_
    exact z_iret (pc := 94) rfl rfl ⟨rfl, rH_r s w, hD⟩
  | succ m ih =>
    intro i w D him hk hD hO
    obtain ⟨Hn, hHn, hH8⟩ := hO
    · skip
      refine z_iload_n (pc := 59) (i := 1) (j := 1) rfl rfl rfl ?_
      refine z_sipush (pc := 60) (v := 1000) rfl (by decide) ?_
      refine z_icmp_gt (pc := 63) (tgt := 90) rfl (by decide) (fun h63 => ?_) (fun h63 => ?_)
      · exact absurd h63 (nI_nlt (a := 1000) (b := i) (by omega) (by decide))
      · refine z_aload_n (pc := 66) (i := 0) (j := 0) rfl rfl rfl ?_
        refine z_getI (pc := 67) rfl fl_Reader_39 hk.1 rfl ?_
        refine z_eqi (y := fltS D.1) (rS_f hD.1) ?_
        refine z_if_ne (pc := 70) (tgt := 90) rfl (by decide) (fun h70 => ?_) (fun h70 => ?_)
        · have e0 : dAll T n s (m + 1) D = D := if_neg h70
          rw [e0]
          refine z_aload_n (pc := 90) (i := 0) (j := 0) rfl rfl rfl ?_
          refine z_getI (pc := 91) rfl fl_Reader_39 hk.1 rfl ?_
          refine z_eqi (y := fltS D.1) (rS_f hD.1) ?_
          exact z_iret (pc := 94) rfl rfl ⟨rfl, rH_r s w, hD⟩
        · refine z_aload_n (pc := 73) (i := 0) (j := 0) rfl rfl rfl ?_
          refine z_getI (pc := 74) rfl fl_Reader_61 hk.1 rfl ?_
          refine z_eqi (y := tkc T n D.1) (rS_c hD.1) ?_
          refine z_if_eq (pc := 77) (tgt := 90) rfl (by decide) (fun h77 => ?_) (fun h77 => ?_)
          · have e0 : dAll T n s (m + 1) D = D := (if_pos h70).trans (if_pos h77)
            rw [e0]
            refine z_aload_n (pc := 90) (i := 0) (j := 0) rfl rfl rfl ?_
            refine z_getI (pc := 91) rfl fl_Reader_39 hk.1 rfl ?_
            refine z_eqi (y := fltS D.1) (rS_f hD.1) ?_
            exact z_iret (pc := 94) rfl rfl ⟨rfl, rH_r s w, hD⟩
          · refine z_aload_n (pc := 80) (i := 0) (j := 0) rfl rfl rfl ?_
            refine z_cV (pc := 81) (mc1 := 0) (ms1 := 0) (mc2 := 0) (ms2 := 0) (as := []) (rest := []) (o := 3) rfl rfl hk.1 ok_Reader_readStatement rfl rfl cl_Reader_64 (by omega) (Nat.le_of_ble_eq_true rfl) (Nat.le_of_ble_eq_true rfl) (Nat.le_refl _) (Nat.le_refl _) (c_Reader_readStatement hk D hD hHn hH8 132 (Nat.le_refl _)) (fun r1 w1 hp => ?_) rfl rfl
            obtain ⟨rfl, hH1, hD1⟩ := hp
            refine ⟨⟨by rw [hH1.1]; exact Nat.le_refl _, Or.inl (by rw [hH1.1])⟩, ?_⟩
            have hk1 := rdK_H hk hH1
            refine z_iinc (pc := 84) (i := 1) (j := 1) (v := nI (i + 1)) (ls' := [(0, .ref 3), (1, .int (nI (i + 1)))]) rfl rfl (nI_1 i) (by decide) rfl ?_
            refine z_goto (pc := 87) (tgt := 59) rfl (by decide) ?_
            have e0 : dAll T n s (m + 1) D = dAll T n s m (dStmt T n s D) := (if_pos h70).trans (if_neg h77)
            rw [e0]
            refine z_mono (fun r w9 h9 => ?_) (ih (i + 1) w1 _ (by omega) hk1 hD1 (dStmt_H (rdK_s hk) hk.2.2.2.2.2.2.2.2.2.1 (rS_ok hD.1) ⟨Hn, hHn, hH8⟩))
            exact ⟨h9.1, rH_t hH1 h9.2.1, h9.2.2⟩
set_option maxRecDepth 100000 in
set_option maxHeartbeats 4000000 in
theorem c_Reader_read {w : zW} {s n : Nat} {T : Nat → Int32} (hk : rdK w s n T) (d : Nat) (hd : 133 ≤ d) : zS 0 0 d m_Reader_read (fun rv w1 => rv = some (.int (fltS (dAll T n s 1001 (dD0 w s)).1)) ∧ rH s w w1 ∧ rD w1 T n s (dAll T n s 1001 (dD0 w s))) 0 [(0, .ref 3)] [] w := by
  have hs3 := rdK_s hk
  have hkr : rdK (rd1 w s) s n T := rdK_H hk (rd1_H hs3)
  refine z_aload_n (pc := 0) (i := 0) (j := 0) rfl rfl rfl ?_
  refine z_getR (pc := 1) (x := s) rfl fl_Reader_21 hk.1 rfl hk.2.2.1 ?_
  refine z_cV (pc := 4) (mc1 := 0) (ms1 := 0) (mc2 := 0) (ms2 := 0) (as := []) (rest := []) (o := s) rfl rfl hk.2.2.2.2.2.2.1.1 ok_Street_begin rfl rfl cl_Reader_32 (by omega) (Nat.le_of_ble_eq_true rfl) (Nat.le_of_ble_eq_true rfl) (Nat.le_refl _) (Nat.le_refl _) (c_Street_begin hk.2.2.2.2.2.2.1 2 (Nat.le_refl _)) (fun r1 w1 hp => ?_) rfl rfl
  obtain ⟨rfl, hw1⟩ := hp
  rw [hw1]
  refine ⟨⟨Nat.le_refl _, Or.inl rfl⟩, ?_⟩
  refine z_aload_n (pc := 7) (i := 0) (j := 0) rfl rfl rfl ?_
  refine z_aload_n (pc := 8) (i := 0) (j := 0) rfl rfl rfl ?_
  refine z_getR (pc := 9) (x := s) rfl fl_Reader_21 hk.1 rfl hk.2.2.1 ?_
  refine z_getR (pc := 12) (x := s + 6) rfl fl_Reader_25 hk.2.2.2.2.2.2.1.1 rfl hk.2.2.2.2.2.2.1.2.2.2.2.2.2.2.2.2.2.2.1 ?_
  refine z_putR (pc := 15) rfl fl_Reader_29 hk.1 rfl (Or.inl (List.getElem?_eq_some_iff.mp hk.2.2.2.2.2.2.1.2.2.2.2.2.2.2.2.2.2.2.2.2.1.1).1) ?_
  refine z_aload_n (pc := 18) (i := 0) (j := 0) rfl rfl rfl ?_
  refine z_iconst (pc := 19) (v := 0) rfl (by decide) ?_
  refine z_putI (pc := 20) rfl fl_Reader_35 hk.1 rfl  ?_
  refine z_aload_n (pc := 23) (i := 0) (j := 0) rfl rfl rfl ?_
  refine z_iconst (pc := 24) (v := 0) rfl (by decide) ?_
  refine z_putI (pc := 25) rfl fl_Reader_39 hk.1 rfl  ?_
  refine z_aload_n (pc := 28) (i := 0) (j := 0) rfl rfl rfl ?_
  refine z_iconst (pc := 29) (v := 0) rfl (by decide) ?_
  refine z_putZ (pc := 30) rfl fl_Reader_42 hk.1 rfl (by decide) ?_
  refine z_aload_n (pc := 33) (i := 0) (j := 0) rfl rfl rfl ?_
  refine z_iconst (pc := 34) (v := 0) rfl (by decide) ?_
  refine z_putZ (pc := 35) rfl fl_Reader_46 hk.1 rfl (by decide) ?_
  refine z_aload_n (pc := 38) (i := 0) (j := 0) rfl rfl rfl ?_
  refine z_iconst (pc := 39) (v := 0) rfl (by decide) ?_
  refine z_putZ (pc := 40) rfl fl_Reader_49 hk.1 rfl (by decide) ?_
  refine z_aload_n (pc := 43) (i := 0) (j := 0) rfl rfl rfl ?_
  refine z_iconst (pc := 44) (v := 0) rfl (by decide) ?_
  refine z_putZ (pc := 45) rfl fl_Reader_52 hk.1 rfl (by decide) ?_
  refine z_aload_n (pc := 48) (i := 0) (j := 0) rfl rfl rfl ?_
  refine z_iconst (pc := 49) (v := 0) rfl (by decide) ?_
  refine z_putZ (pc := 50) rfl fl_Reader_55 hk.1 rfl (by decide) ?_
  refine z_aload_n (pc := 53) (i := 0) (j := 0) rfl rfl rfl ?_
  refine z_cV (pc := 54) (mc1 := 0) (ms1 := 0) (mc2 := 0) (ms2 := 0) (as := []) (rest := []) (o := 3) rfl rfl hk.1 ok_Reader_next rfl rfl cl_Reader_58 (by omega) (Nat.le_of_ble_eq_true rfl) (Nat.le_of_ble_eq_true rfl) (Nat.le_refl _) (Nat.le_refl _) (c_Reader_next0 (w := rd1 w s) hkr (p := 0) (Nat.zero_le _) rfl rfl 4 (by decide)) (fun r1 w2 hp => ?_) rfl rfl
  obtain ⟨rfl, hF2, hS2⟩ := hp
  refine ⟨⟨by rw [hF2.1]; exact Nat.le_refl _, Or.inl (by rw [hF2.1]; rfl)⟩, ?_⟩
  have hk2 := rdK_F hkr hF2
  refine z_iconst (pc := 57) (v := 0) rfl (by decide) ?_
  refine z_istore_n (pc := 58) (i := 1) (ls' := [(0, .ref 3), (1, .int 0)]) rfl rfl (by decide) rfl ?_
  have hD2 : rD w2 T n s (dD0 w s) := ⟨hS2, fun o h1 _ _ => hF2.2.1 o h1, congrFun (hF2.2.1 _ (by omega)) 2, congrFun (hF2.2.1 _ (by omega)) 2, fun k hk => hF2.2.2.1 k hk, by funext j; exact hF2.2.2.2.1 (s + 5) j (fun e => by omega)⟩
  have hO : hOk s (dD0 w s) := by
    refine ⟨0, ?_, by decide⟩
    show z2 (z2 (z2 (z2 (z2 (z2 (z2 (strB (zI w) s) 3 3 0) 3 9 0) 3 10 0) 3 11 0) 3 12 0) 3 13 0) 3 14 0 s 11 = 0
    repeat rw [z2_ro _ _ _ (by omega)]
    show strB (zI w) s s 11 = 0
    unfold strB
    rw [z2_o _ _ _ _ (show s ≠ s + 9 by omega), z2_o _ _ _ _ (show s ≠ s + 10 by omega), z2_o _ _ _ _ (show s ≠ s + 9 by omega), z2_o _ _ _ _ (show s ≠ s + 6 by omega), z2_o _ _ _ _ (show s ≠ s + 7 by omega), z2_o _ _ _ _ (show s ≠ s + 6 by omega)]
    exact z2_hit _ s 11 0
  refine z_mono (fun r w9 h9 => ?_) (l_Reader_read hd 1001 0 w2 _ rfl hk2 hD2 hO)
  exact ⟨h9.1, rH_t (rd1_H hs3) (rH_t (rH_F hF2) h9.2.1), h9.2.2⟩
theorem zX_H {w w1 : zW} {s s1 : Nat} (hx : zX w s1) (h : rH s w w1) : zX w1 s1 := by
  have e1 := h.1
  have e2 : ∀ o k, o ≠ 3 → zR w1 o k = zR w o k := fun o k ho => h.2.1 o k (fun e => ho e.1)
  unfold zX zAir zLf at *
  rw [e1]
  obtain ⟨a1, a2, a3, a4, a5, a6, a7, a8, a9, a10, a11, a12, a13, a14, a15, a16, a17⟩ := hx
  refine ⟨a1, (e2 _ _ (by decide)).trans a2, (e2 _ _ (by decide)).trans a3, (e2 _ _ (by decide)).trans a4, (e2 _ _ (by decide)).trans a5, (e2 _ _ (by decide)).trans a6, (e2 _ _ (by decide)).trans a7, (e2 _ _ (by decide)).trans a8, a9, a10, (e2 _ _ (by decide)).trans a11, ?_, ?_, a14, a15, zSt_mv a16 e1 e2 (by omega), a17⟩
  · rw [e2 16 0 (by decide), e2 16 1 (by decide), e2 16 2 (by decide), e2 16 3 (by decide)]
    exact a12
  · rw [e2 21 0 (by decide), e2 21 1 (by decide), e2 21 2 (by decide), e2 21 3 (by decide), e2 21 4 (by decide), e2 21 5 (by decide), e2 21 6 (by decide), e2 21 7 (by decide)]
    exact a13
set_option maxRecDepth 100000 in
set_option maxHeartbeats 4000000 in
theorem c_SW_street {w : zW} {s1 s n : Nat} {T : Nat → Int32} (hx : zX w s1) (hk : rdK w s n T) (d : Nat) (hd : 134 ≤ d) : zS 0 0 d m_SW_street (fun rv w9 => rv = some (.int (fltS (dAll T n s 1001 (dD0 w s)).1)) ∧ ∃ w1, rH s w w1 ∧ rD w1 T n s (dAll T n s 1001 (dD0 w s)) ∧ w9 = if fltS (dAll T n s 1001 (dD0 w s)).1 = 0 then zuI (zsR (zsR (zsI w1 1 1 0) 0 6 (some s)) 3 1 (some s1)) (lifeB (zI (zsI w1 1 1 0)) 21) else zsI w1 1 1 0) 0 [(0, .ref 0)] [] w := by
  refine z_aload_n (pc := 0) (i := 0) (j := 0) rfl rfl rfl ?_
  refine z_getR (pc := 1) (x := 3) rfl fl_SW_10 hx.1 rfl hx.2.2.1 ?_
  refine z_cV (pc := 4) (mc1 := 0) (ms1 := 0) (mc2 := 0) (ms2 := 0) (as := []) (rest := []) (o := 3) rfl rfl hk.1 ok_Reader_read rfl rfl cl_SW_62 (by omega) (Nat.le_of_ble_eq_true rfl) (Nat.le_of_ble_eq_true rfl) (Nat.le_refl _) (Nat.le_refl _) (c_Reader_read hk 133 (Nat.le_refl _)) (fun r1 w1 hp => ?_) rfl rfl
  obtain ⟨rfl, hH1, hD1⟩ := hp
  refine ⟨⟨by rw [hH1.1]; exact Nat.le_refl _, Or.inl (by rw [hH1.1])⟩, ?_⟩
  have hk1 := rdK_H hk hH1
  have hx1 := zX_H hx hH1
  refine z_istore_n (pc := 7) (i := 1) (ls' := [(0, .ref 0), (1, .int (fltS (dAll T n s 1001 (dD0 w s)).1))]) rfl rfl (by decide) rfl ?_
  refine z_aload_n (pc := 8) (i := 0) (j := 0) rfl rfl rfl ?_
  refine z_getR (pc := 9) (x := 1) rfl fl_SW_20 hx1.1 rfl hx1.2.1 ?_
  refine z_iconst (pc := 12) (v := 0) rfl (by decide) ?_
  refine z_putI (pc := 13) rfl fl_SW_58 hx1.2.2.2.2.2.2.2.2.1 rfl  ?_
  refine z_iload_n (pc := 16) (i := 1) (j := 1) rfl rfl rfl ?_
  refine z_if_ne (pc := 17) (tgt := 51) rfl (by decide) (fun h17 => ?_) (fun h17 => ?_)
  · refine z_iload_n (pc := 51) (i := 1) (j := 1) rfl rfl rfl ?_
    exact z_iret (pc := 52) rfl rfl ⟨rfl, w1, hH1, hD1, by rw [if_neg h17]⟩
  · refine z_aload_n (pc := 20) (i := 0) (j := 0) rfl rfl rfl ?_
    refine z_getR (pc := 21) (x := s1) rfl fl_SW_48 hx1.1 rfl hx1.2.2.2.2.2.2.2.1 ?_
    refine z_astore_n (pc := 24) (i := 2) (ls' := [(0, .ref 0), (1, .int (fltS (dAll T n s 1001 (dD0 w s)).1)), (2, .ref s1)]) rfl rfl (by decide) rfl ?_
    refine z_aload_n (pc := 25) (i := 0) (j := 0) rfl rfl rfl ?_
    refine z_aload_n (pc := 26) (i := 0) (j := 0) rfl rfl rfl ?_
    refine z_getR (pc := 27) (x := 3) rfl fl_SW_10 hx1.1 rfl hx1.2.2.1 ?_
    refine z_getR (pc := 30) (x := s) rfl fl_SW_66 hk1.1 rfl hk1.2.2.1 ?_
    refine z_putR (pc := 33) rfl fl_SW_48 hx1.1 rfl (Or.inl (List.getElem?_eq_some_iff.mp hk1.2.2.2.2.2.2.1.1).1) ?_
    refine z_aload_n (pc := 36) (i := 0) (j := 0) rfl rfl rfl ?_
    refine z_getR (pc := 37) (x := 3) rfl fl_SW_10 hx1.1 rfl hx1.2.2.1 ?_
    refine z_aload_n (pc := 40) (i := 2) (j := 2) rfl rfl rfl ?_
    refine z_putR (pc := 41) rfl fl_SW_66 hk1.1 rfl (Or.inl (List.getElem?_eq_some_iff.mp hx1.2.2.2.2.2.2.2.2.2.2.2.2.2.2.2.1.1).1) ?_
    refine z_aload_n (pc := 44) (i := 0) (j := 0) rfl rfl rfl ?_
    refine z_getR (pc := 45) (x := 21) rfl fl_SW_31 hx1.1 rfl hx1.2.2.2.2.1 ?_
    refine z_cV (pc := 48) (mc1 := 0) (ms1 := 0) (mc2 := 0) (ms2 := 0) (as := []) (rest := []) (o := 21) rfl rfl (hx1.2.2.2.2.2.2.2.2.2.2.2.2.1).1 ok_Life_begin rfl rfl cl_SW_69 (by omega) (Nat.le_of_ble_eq_true rfl) (Nat.le_of_ble_eq_true rfl) (Nat.le_refl _) (Nat.le_refl _) (c_Life_begin (l := 21) (w := zsR (zsR (zsI w1 1 1 0) 0 6 (some s)) 3 1 (some s1)) hx1.2.2.2.2.2.2.2.2.2.2.2.2.1 1 (by decide)) (fun r1 w8 hp => ?_) rfl rfl
    obtain ⟨rfl, hw9⟩ := hp
    rw [hw9]
    refine ⟨⟨Nat.le_refl _, Or.inl rfl⟩, ?_⟩
    refine z_iload_n (pc := 51) (i := 1) (j := 1) rfl rfl rfl ?_
    exact z_iret (pc := 52) rfl rfl ⟨rfl, w1, hH1, hD1, by rw [if_pos h17]; rfl⟩
theorem zTp_2 (w : zW) (q : Nat × (Nat → Int32)) : zI (zTp w 1 2 q) 2 = q.2 := zI_rh _ _ _
theorem zTp_t (w : zW) (q r : Nat × (Nat → Int32)) : zTp (zTp w 1 2 q) 1 2 r = zTp w 1 2 r := by
  unfold zTp
  rw [zsI_cr _ _ _ _ (by decide), zsI_over, zrI_r]
set_option maxRecDepth 100000 in
set_option maxHeartbeats 4000000 in
theorem c_SW_feed {w : zW} {s n : Nat} (hx : zX w s) (hn : zI w 1 1 = nI n) (hn1 : n ≤ 1000) (a b c : Int64) (d : Nat) (hd : 1 ≤ d) : zS 0 0 d m_SW_feed (fun rv w1 => rv = some (.int (nI (tbytes c 8 (tbytes b 8 (tbytes a 8 (n, zI w 2)))).1)) ∧ w1 = zTp w 1 2 (tbytes c 8 (tbytes b 8 (tbytes a 8 (n, zI w 2))))) 0 [(0, .ref 0), (1, .long a), (3, .long b), (5, .long c)] [] w := by
  refine z_aload_n (pc := 0) (i := 0) (j := 0) rfl rfl rfl ?_
  refine z_getR (pc := 1) (x := 1) rfl fl_SW_20 hx.1 rfl hx.2.1 ?_
  refine z_lload_n (pc := 4) (i := 1) (j := 1) rfl rfl rfl ?_
  refine z_cV (pc := 5) (mc1 := 0) (ms1 := 0) (mc2 := 0) (ms2 := 0) (as := [.long a]) (rest := []) (o := 1) rfl rfl hx.2.2.2.2.2.2.2.2.1 ok_Tape_addBytes rfl rfl cl_SW_52 (by omega) (Nat.le_of_ble_eq_true rfl) (Nat.le_of_ble_eq_true rfl) (Nat.le_refl _) (Nat.le_refl _) (c_Tape_addBytes (w := w) (n := (n, zI w 2).1) hx.2.2.2.2.2.2.2.2.1 hx.2.2.2.2.2.2.2.2.2.2.1 hx.2.2.2.2.2.2.2.2.2.1 (by decide) hn hn1 a 0) (fun r1 w1 hp => ?_) rfl rfl
  obtain ⟨rfl, hw1⟩ := hp
  rw [hw1]
  refine ⟨⟨Nat.le_refl _, Or.inl rfl⟩, ?_⟩
  refine z_aload_n (pc := 8) (i := 0) (j := 0) rfl rfl rfl ?_
  refine z_getR (pc := 9) (x := 1) rfl fl_SW_20 hx.1 rfl hx.2.1 ?_
  refine z_lload_n (pc := 12) (i := 3) (j := 2) rfl rfl rfl ?_
  refine z_cV (pc := 13) (mc1 := 0) (ms1 := 0) (mc2 := 0) (ms2 := 0) (as := [.long b]) (rest := []) (o := 1) rfl rfl hx.2.2.2.2.2.2.2.2.1 ok_Tape_addBytes rfl rfl cl_SW_52 (by omega) (Nat.le_of_ble_eq_true rfl) (Nat.le_of_ble_eq_true rfl) (Nat.le_refl _) (Nat.le_refl _) (c_Tape_addBytes (w := zTp w 1 2 (tbytes a 8 (n, zI w 2))) (n := (tbytes a 8 (n, zI w 2)).1) hx.2.2.2.2.2.2.2.2.1 hx.2.2.2.2.2.2.2.2.2.2.1 hx.2.2.2.2.2.2.2.2.2.1 (by decide) rfl (tbytes_le _ _ _ hn1) b 0) (fun r1 w1 hp => ?_) rfl rfl
  obtain ⟨rfl, hw1⟩ := hp
  rw [zTp_2, zTp_t] at hw1
  rw [hw1]
  refine ⟨⟨Nat.le_refl _, Or.inl rfl⟩, ?_⟩
  refine z_aload_n (pc := 16) (i := 0) (j := 0) rfl rfl rfl ?_
  refine z_getR (pc := 17) (x := 1) rfl fl_SW_20 hx.1 rfl hx.2.1 ?_
  refine z_lload (pc := 20) (i := 5) (j := 3) rfl rfl ?_
  refine z_cV (pc := 22) (mc1 := 0) (ms1 := 0) (mc2 := 0) (ms2 := 0) (as := [.long c]) (rest := []) (o := 1) rfl rfl hx.2.2.2.2.2.2.2.2.1 ok_Tape_addBytes rfl rfl cl_SW_52 (by omega) (Nat.le_of_ble_eq_true rfl) (Nat.le_of_ble_eq_true rfl) (Nat.le_refl _) (Nat.le_refl _) (c_Tape_addBytes (w := zTp w 1 2 (tbytes b 8 (tbytes a 8 (n, zI w 2)))) (n := (tbytes b 8 (tbytes a 8 (n, zI w 2))).1) hx.2.2.2.2.2.2.2.2.1 hx.2.2.2.2.2.2.2.2.2.2.1 hx.2.2.2.2.2.2.2.2.2.1 (by decide) rfl (tbytes_le _ _ _ (tbytes_le _ _ _ hn1)) c 0) (fun r1 w1 hp => ?_) rfl rfl
  obtain ⟨rfl, hw1⟩ := hp
  rw [zTp_2, zTp_t] at hw1
  rw [hw1]
  refine ⟨⟨Nat.le_refl _, Or.inl rfl⟩, ?_⟩
  refine z_aload_n (pc := 25) (i := 0) (j := 0) rfl rfl rfl ?_
  refine z_getR (pc := 26) (x := 1) rfl fl_SW_20 hx.1 rfl hx.2.1 ?_
  refine z_getI (pc := 29) rfl fl_SW_58 hx.2.2.2.2.2.2.2.2.1 rfl ?_
  refine z_eqi (y := nI (tbytes c 8 (tbytes b 8 (tbytes a 8 (n, zI w 2)))).1) rfl ?_
  exact z_iret (pc := 32) rfl rfl ⟨rfl, rfl⟩
