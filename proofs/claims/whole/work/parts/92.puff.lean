/-! THE OBJECT'S PUFF OF SMOKE -/
def puff (f : Nat → Nat → Int32) (s C R j yv : Nat) (x : Int32) : Int32 := cellV (cell16 C R (pX f s j + x * zkE.getD yv 0) (f (s + 2) j + x * zkS.getD yv 0))
def smokeV (f : Nat → Nat → Int32) (s C R H : Nat) (F G : Int32 → Int32 → Int32 → Int32) (b x : Int32) : Int32 := if hOK H b = true then (if x < 0 then -1 else if x < lenLit f s F G b.toNatClampNeg then puff f s C R b.toNatClampNeg (cyv F (f 21 8)) x else -1) else -1
theorem cellV_has {C R : Nat} (hC : C ≤ 12) (hR : R ≤ 12) {x y : Int32} (h : (cell16 C R x y).isSome = true) : cellV (cell16 C R x y) = 16 * y + x := by
  obtain ⟨p, hp⟩ := Option.isSome_iff_exists.mp h
  rw [hp]
  exact (cell16_in hC hR hp).2.1.symm
theorem cellV_no {C R : Nat} {x y : Int32} (h : ¬ (cell16 C R x y).isSome = true) : cellV (cell16 C R x y) = -1 := by
  rw [Option.not_isSome_iff_eq_none.mp h]
  rfl
set_option maxRecDepth 100000 in
set_option maxHeartbeats 4000000 in
theorem c_SW_smoke {w : zW} {s C R H : Nat} {F G : Int32 → Int32 → Int32 → Int32} (hx : zX w s) (hi : zXi (zI w) s C R H F G) (b x : Int32) (d : Nat) (hd : 4 ≤ d) : zS 0 0 d m_SW_smoke (fun rv w1 => ∃ f, w1 = zuI w f ∧ (∀ o, o ≠ s + 8 → o ≠ s + 11 → f o = zI w o) ∧ rv = some (.int (smokeV (zI w) s C R H F G b x))) 0 [(0, .ref 0), (1, .int b), (2, .int x)] [] w := by
  refine z_aload_n (pc := 0) (i := 0) (j := 0) rfl rfl rfl ?_
  refine z_iload_n (pc := 1) (i := 1) (j := 1) rfl rfl rfl ?_
  refine z_cV (pc := 2) (mc1 := 0) (ms1 := 0) (mc2 := 0) (ms2 := 0) (as := [.int b]) (rest := []) (o := 0) rfl rfl hx.1 ok_SW_isHouse rfl rfl cl_SW_72 (by omega) (Nat.le_of_ble_eq_true rfl) (Nat.le_of_ble_eq_true rfl) (Nat.le_refl _) (Nat.le_refl _) (c_SW_isHouse (w := w) hx hi.2.2.1 hi.2.2.2.2.2.1 b 0) (fun r1 w1 hp => ?_) rfl rfl
  obtain ⟨rfl, hw1⟩ := hp
  rw [hw1]
  refine ⟨⟨Nat.le_refl _, Or.inl rfl⟩, ?_⟩
  refine z_if_eq (pc := 5) (tgt := 21) rfl (by decide) (fun h5 => ?_) (fun h5 => ?_)
  · refine z_iconst (pc := 21) (v := (-1)) rfl (by decide) ?_
    exact z_iret (pc := 22) rfl rfl ⟨zI w, rfl, fun _ _ _ => rfl, by unfold smokeV; rw [if_neg (ite_eq h5)]⟩
  · refine z_iload_n (pc := 8) (i := 2) (j := 2) rfl rfl rfl ?_
    refine z_if_lt (pc := 9) (tgt := 21) rfl (by decide) (fun h9 => ?_) (fun h9 => ?_)
    · refine z_iconst (pc := 21) (v := (-1)) rfl (by decide) ?_
      exact z_iret (pc := 22) rfl rfl ⟨zI w, rfl, fun _ _ _ => rfl, by unfold smokeV; rw [if_pos (ite_ne h5), if_pos h9]⟩
    · have hO := ite_ne h5
      obtain ⟨j, hj, rfl⟩ := hOK_of hi.2.2.2.2.2.1 (ite_ne h5)
      have hj8 : j < 8 := Nat.lt_of_lt_of_le hj hi.2.2.2.2.2.1
      refine z_iload_n (pc := 12) (i := 2) (j := 2) rfl rfl rfl ?_
      refine z_aload_n (pc := 13) (i := 0) (j := 0) rfl rfl rfl ?_
      refine z_iload_n (pc := 14) (i := 1) (j := 1) rfl rfl rfl ?_
      refine z_cV (pc := 15) (mc1 := 0) (ms1 := 0) (mc2 := 0) (ms2 := 0) (as := [.int (nI j)]) (rest := [.int x]) (o := 0) rfl rfl hx.1 ok_SW_lengthIfLit rfl rfl cl_SW_111 (by omega) (Nat.le_of_ble_eq_true rfl) (Nat.le_of_ble_eq_true rfl) (Nat.le_refl _) (Nat.le_refl _) (c_SW_lengthIfLit (w := w) hx hi hj8 3 (by decide)) (fun r1 w1 hp => ?_) rfl rfl
      obtain ⟨f1, hw1, rfl, hf1⟩ := hp
      rw [hw1]
      refine ⟨⟨Nat.le_refl _, Or.inl rfl⟩, ?_⟩
      have hss := (hx.2.2.2.2.2.2.2.2.2.2.2.2.2.2.2.2)
      refine z_icmp_lt (pc := 18) (tgt := 23) rfl (by decide) (fun h18 => ?_) (fun h18 => ?_)
      · refine z_aload_n (pc := 23) (i := 0) (j := 0) rfl rfl rfl ?_
        refine z_getR (pc := 24) (x := s) rfl fl_SW_48 hx.1 rfl hx.2.2.2.2.2.2.2.1 ?_
        refine z_aload_n (pc := 27) (i := 0) (j := 0) rfl rfl rfl ?_
        refine z_getR (pc := 28) (x := 21) rfl fl_SW_31 hx.1 rfl hx.2.2.2.2.1 ?_
        refine z_getI (pc := 31) rfl fl_SW_104 hx.2.2.2.2.2.2.2.2.2.2.2.2.1.1 rfl ?_
        refine z_eqi (y := zI w 21 8) (congrFun (hf1 21 (by omega) (by omega)) 8) ?_
        refine z_cV (pc := 34) (mc1 := 0) (ms1 := 0) (mc2 := 0) (ms2 := 0) (as := [.int (zI w 21 8)]) (rest := []) (o := s) rfl rfl hx.2.2.2.2.2.2.2.2.2.2.2.2.2.2.2.1.1 ok_Street_windIn rfl rfl cl_SW_107 (by omega) (Nat.le_of_ble_eq_true rfl) (Nat.le_of_ble_eq_true rfl) (Nat.le_refl _) (Nat.le_refl _) (c_Street_windIn (w := zuI w f1) (hx.2.2.2.2.2.2.2.2.2.2.2.2.2.2.2.1) (zLaw_congr hi.2.2.2.2.2.2.1 (hf1 _ (by omega) (by omega)) (hf1 _ (by omega) (by omega))) (zI w 21 8) 2 (by decide)) (fun r1 w1 hp => ?_) rfl rfl
        obtain ⟨f2, hw2, rfl, hf2⟩ := hp
        rw [hw2, (cyv_n F (zI w 21 8)).1]
        refine ⟨⟨Nat.le_refl _, Or.inl rfl⟩, ?_⟩
        have hy := (cyv_n F (zI w 21 8)).2
        have hF : ∀ o, o ≠ s + 8 → o ≠ s + 11 → f2 o = zI w o := fun o a1 a2 => (hf2 o a1).trans (hf1 o a1 a2)
        refine z_istore_n (pc := 37) (i := 3) (ls' := [(0, .ref 0), (1, .int (nI j)), (2, .int x), (3, .int (nI (cyv F (zI w 21 8))))]) rfl rfl (by decide) rfl ?_
        refine z_aload_n (pc := 38) (i := 0) (j := 0) rfl rfl rfl ?_
        refine z_getR (pc := 39) (x := s) rfl fl_SW_48 hx.1 rfl hx.2.2.2.2.2.2.2.1 ?_
        refine z_iload_n (pc := 42) (i := 1) (j := 1) rfl rfl rfl ?_
        refine z_cV (pc := 43) (mc1 := 0) (ms1 := 0) (mc2 := 0) (ms2 := 0) (as := [.int (nI j)]) (rest := []) (o := s) rfl rfl hx.2.2.2.2.2.2.2.2.2.2.2.2.2.2.2.1.1 ok_Street_firstColumn rfl rfl cl_SW_114 (by omega) (Nat.le_of_ble_eq_true rfl) (Nat.le_of_ble_eq_true rfl) (Nat.le_refl _) (Nat.le_refl _) (c_Street_firstColumn (w := zuI w f2) (hx.2.2.2.2.2.2.2.2.2.2.2.2.2.2.2.1) (i := j) hj8 0) (fun r1 w1 hp => ?_) rfl rfl
        obtain ⟨rfl, hw3⟩ := hp
        rw [hw3, nI_clamp (n := j) (by omega), show zI (zuI w f2) (s + 4) = zI w (s + 4) from hF _ (by omega) (by omega), show zI (zuI w f2) (s + 1) = zI w (s + 1) from hF _ (by omega) (by omega)]
        refine ⟨⟨Nat.le_refl _, Or.inl rfl⟩, ?_⟩
        refine z_iload_n (pc := 46) (i := 2) (j := 2) rfl rfl rfl ?_
        refine z_gets (pc := 47) (C0 := "SmokeWeds") (n1 := "EASTWARD") (d1 := "[I") (v := .ref 1000019) rfl (by decide +kernel) gl_SW_117 ?_
        refine z_iload_n (pc := 50) (i := 3) (j := 3) rfl rfl rfl ?_
        refine z_tE (pc := 51) rfl (vp_in_nI hy (by decide)) ?_
        refine z_eqi (y := zkE.getD (cyv F (zI w 21 8)) 0) (by rw [nI_clamp (by omega)]) ?_
        refine z_imul (pc := 52) rfl ?_
        refine z_iadd (pc := 53) rfl ?_
        refine z_istore (pc := 54) (i := 4) (ls' := [(0, .ref 0), (1, .int (nI j)), (2, .int x), (3, .int (nI (cyv F (zI w 21 8)))), (4, .int ((pX (zI w) s j) + (x * (zkE.getD (cyv F (zI w 21 8)) 0))))]) rfl (by decide) rfl ?_
        refine z_aload_n (pc := 56) (i := 0) (j := 0) rfl rfl rfl ?_
        refine z_getR (pc := 57) (x := s) rfl fl_SW_48 hx.1 rfl hx.2.2.2.2.2.2.2.1 ?_
        refine z_getR (pc := 60) (x := s + 2) rfl fl_SW_79 hx.2.2.2.2.2.2.2.2.2.2.2.2.2.2.2.1.1 rfl hx.2.2.2.2.2.2.2.2.2.2.2.2.2.2.2.1.2.2.2.2.2.2.2.1 ?_
        refine z_iload_n (pc := 63) (i := 1) (j := 1) rfl rfl rfl ?_
        refine z_iald (pc := 64) rfl hx.2.2.2.2.2.2.2.2.2.2.2.2.2.2.2.1.2.2.1 (vp_in_nI hj8 (by decide)) ?_
        refine z_eqi (y := zI w (s + 2) j) (by rw [nI_clamp (by omega)]; exact congrFun (hF (s + 2) (by omega) (by omega)) j) ?_
        refine z_iload_n (pc := 65) (i := 2) (j := 2) rfl rfl rfl ?_
        refine z_gets (pc := 66) (C0 := "SmokeWeds") (n1 := "SOUTHWARD") (d1 := "[I") (v := .ref 1000020) rfl (by decide +kernel) gl_SW_120 ?_
        refine z_iload_n (pc := 69) (i := 3) (j := 3) rfl rfl rfl ?_
        refine z_tS (pc := 70) rfl (vp_in_nI hy (by decide)) ?_
        refine z_eqi (y := zkS.getD (cyv F (zI w 21 8)) 0) (by rw [nI_clamp (by omega)]) ?_
        refine z_imul (pc := 71) rfl ?_
        refine z_iadd (pc := 72) rfl ?_
        refine z_istore (pc := 73) (i := 5) (ls' := [(0, .ref 0), (1, .int (nI j)), (2, .int x), (3, .int (nI (cyv F (zI w 21 8)))), (4, .int ((pX (zI w) s j) + (x * (zkE.getD (cyv F (zI w 21 8)) 0)))), (5, .int ((zI w (s + 2) j) + (x * (zkS.getD (cyv F (zI w 21 8)) 0))))]) rfl (by decide) rfl ?_
        refine z_aload_n (pc := 75) (i := 0) (j := 0) rfl rfl rfl ?_
        refine z_getR (pc := 76) (x := s) rfl fl_SW_48 hx.1 rfl hx.2.2.2.2.2.2.2.1 ?_
        refine z_iload (pc := 79) (i := 4) (j := 4) rfl rfl ?_
        refine z_iload (pc := 81) (i := 5) (j := 5) rfl rfl ?_
        refine z_cV (pc := 83) (mc1 := 0) (ms1 := 0) (mc2 := 0) (ms2 := 0) (as := [.int ((pX (zI w) s j) + (x * (zkE.getD (cyv F (zI w 21 8)) 0))), .int ((zI w (s + 2) j) + (x * (zkS.getD (cyv F (zI w 21 8)) 0)))]) (rest := []) (o := s) rfl rfl hx.2.2.2.2.2.2.2.2.2.2.2.2.2.2.2.1.1 ok_Street_hasCell rfl rfl cl_SW_123 (by omega) (Nat.le_of_ble_eq_true rfl) (Nat.le_of_ble_eq_true rfl) (Nat.le_refl _) (Nat.le_refl _) (c_Street_hasCell (w := zuI w f2) (hx.2.2.2.2.2.2.2.2.2.2.2.2.2.2.2.1) (pX (zI w) s j + x * zkE.getD (cyv F (zI w 21 8)) 0) (zI w (s + 2) j + x * zkS.getD (cyv F (zI w 21 8)) 0) 0) (fun r1 w1 hp => ?_) rfl rfl
        obtain ⟨rfl, hw3⟩ := hp
        rw [hw3, show zI (zuI w f2) s 7 = nI C from (congrFun (hF s (by omega) (by omega)) 7).trans hi.1, show zI (zuI w f2) s 8 = nI R from (congrFun (hF s (by omega) (by omega)) 8).trans hi.2.1, cell16_has hi.2.2.2.1 hi.2.2.2.2.1]
        refine ⟨⟨Nat.le_refl _, Or.inl rfl⟩, ?_⟩
        refine z_if_eq (pc := 86) (tgt := 100) rfl (by decide) (fun h86 => ?_) (fun h86 => ?_)
        · refine z_iconst (pc := 100) (v := (-1)) rfl (by decide) ?_
          exact z_iret (pc := 101) rfl rfl ⟨f2, rfl, hF, by unfold smokeV puff; rw [if_pos hO, if_neg h9, nI_clamp (n := j) (by omega), if_pos h18, cellV_no (ite_eq h86)]⟩
        · refine z_bipush (pc := 89) (v := 16) rfl (by decide) ?_
          refine z_iload (pc := 91) (i := 5) (j := 5) rfl rfl ?_
          refine z_imul (pc := 93) rfl ?_
          refine z_iload (pc := 94) (i := 4) (j := 4) rfl rfl ?_
          refine z_iadd (pc := 96) rfl ?_
          refine z_goto (pc := 97) (tgt := 101) rfl (by decide) ?_
          exact z_iret (pc := 101) rfl rfl ⟨f2, rfl, hF, by unfold smokeV puff; rw [if_pos hO, if_neg h9, nI_clamp (n := j) (by omega), if_pos h18, cellV_has hi.2.2.2.1 hi.2.2.2.2.1 (ite_ne h86)]⟩
      · refine z_iconst (pc := 21) (v := (-1)) rfl (by decide) ?_
        exact z_iret (pc := 22) rfl rfl ⟨f1, rfl, hf1, by unfold smokeV; rw [if_pos hO, if_neg h9, nI_clamp (n := j) (by omega), if_neg h18]⟩
