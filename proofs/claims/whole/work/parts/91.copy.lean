/-! A STREET COPIED -/
set_option maxRecDepth 100000 in
set_option maxHeartbeats 1000000 in
theorem c_Street_copy {w : zW} {s k n1 n2 : Nat} (h : zSt w s) (hk : zSt w k) (hsk : s + 12 ≤ k ∨ k + 12 ≤ s) (hL1 : zI w (k + 6) 2 = nI n1) (hn1 : n1 ≤ 1000) (hL2 : zI w (k + 9) 2 = nI n2) (hn2 : n2 ≤ 1000) (d : Nat) (hd : 2 ≤ d) : zS 0 0 d m_Street_copy (fun rv w1 => ∃ f nu, w1 = zuI (zrL w (s + 5) nu) f ∧ rv = none ∧ (∀ o, (o < s ∨ s + 12 ≤ o) → f o = zI w o) ∧ (∀ j, j < 8 → f (s + 1) j = zI w (k + 1) j) ∧ (∀ j, j < 8 → f (s + 2) j = zI w (k + 2) j) ∧ (∀ j, j < 8 → f (s + 3) j = zI w (k + 3) j) ∧ (∀ j, j < 8 → f (s + 4) j = zI w (k + 4) j) ∧ (∀ j, j < n1 → f (s + 7) j = zI w (k + 7) j) ∧ f (s + 6) 2 = nI n1 ∧ (∀ j, j < n2 → f (s + 10) j = zI w (k + 10) j) ∧ f (s + 9) 2 = nI n2 ∧ f s 7 = zI w k 7 ∧ f s 8 = zI w k 8 ∧ f s 9 = zI w k 9 ∧ f s 10 = zI w k 10 ∧ f s 11 = zI w k 11) 0 [(0, .ref s), (1, .ref k)] [] w := by
  refine z_aload_n (pc := 0) (i := 1) (j := 1) rfl rfl rfl ?_
  refine z_getR (pc := 1) (x := k + 1) rfl fl_Street_9 hk.1 rfl hk.2.2.2.2.2.2.1 ?_
  refine z_iconst (pc := 4) (v := 0) rfl (by decide) ?_
  refine z_aload_n (pc := 5) (i := 0) (j := 0) rfl rfl rfl ?_
  refine z_getR (pc := 6) (x := s + 1) rfl fl_Street_9 h.1 rfl h.2.2.2.2.2.2.1 ?_
  refine z_iconst (pc := 9) (v := 0) rfl (by decide) ?_
  refine z_bipush (pc := 10) (v := 8) rfl (by decide) ?_
  refine z_cpI (pc := 12) (w := w) (f := zI w) 8 rfl sl_Street_61 hk.2.1 h.2.1 (by decide) (by decide) (by decide) (by decide) (by omega) (Nat.le_of_ble_eq_true rfl) (fun g1 hg1 rg1 => ?_)
  refine z_aload_n (pc := 15) (i := 1) (j := 1) rfl rfl rfl ?_
  refine z_getR (pc := 16) (x := k + 2) rfl fl_Street_15 hk.1 rfl hk.2.2.2.2.2.2.2.1 ?_
  refine z_iconst (pc := 19) (v := 0) rfl (by decide) ?_
  refine z_aload_n (pc := 20) (i := 0) (j := 0) rfl rfl rfl ?_
  refine z_getR (pc := 21) (x := s + 2) rfl fl_Street_15 h.1 rfl h.2.2.2.2.2.2.2.1 ?_
  refine z_iconst (pc := 24) (v := 0) rfl (by decide) ?_
  refine z_bipush (pc := 25) (v := 8) rfl (by decide) ?_
  refine z_cpI (pc := 27) (w := w) (f := g1) 8 rfl sl_Street_61 hk.2.2.1 h.2.2.1 (by decide) (by decide) (by decide) (by decide) (by omega) (Nat.le_of_ble_eq_true rfl) (fun g2 hg2 rg2 => ?_)
  refine z_aload_n (pc := 30) (i := 1) (j := 1) rfl rfl rfl ?_
  refine z_getR (pc := 31) (x := k + 3) rfl fl_Street_18 hk.1 rfl hk.2.2.2.2.2.2.2.2.1 ?_
  refine z_iconst (pc := 34) (v := 0) rfl (by decide) ?_
  refine z_aload_n (pc := 35) (i := 0) (j := 0) rfl rfl rfl ?_
  refine z_getR (pc := 36) (x := s + 3) rfl fl_Street_18 h.1 rfl h.2.2.2.2.2.2.2.2.1 ?_
  refine z_iconst (pc := 39) (v := 0) rfl (by decide) ?_
  refine z_bipush (pc := 40) (v := 8) rfl (by decide) ?_
  refine z_cpI (pc := 42) (w := w) (f := g2) 8 rfl sl_Street_61 hk.2.2.2.1 h.2.2.2.1 (by decide) (by decide) (by decide) (by decide) (by omega) (Nat.le_of_ble_eq_true rfl) (fun g3 hg3 rg3 => ?_)
  refine z_aload_n (pc := 45) (i := 1) (j := 1) rfl rfl rfl ?_
  refine z_getR (pc := 46) (x := k + 4) rfl fl_Street_21 hk.1 rfl hk.2.2.2.2.2.2.2.2.2.1 ?_
  refine z_iconst (pc := 49) (v := 0) rfl (by decide) ?_
  refine z_aload_n (pc := 50) (i := 0) (j := 0) rfl rfl rfl ?_
  refine z_getR (pc := 51) (x := s + 4) rfl fl_Street_21 h.1 rfl h.2.2.2.2.2.2.2.2.2.1 ?_
  refine z_iconst (pc := 54) (v := 0) rfl (by decide) ?_
  refine z_bipush (pc := 55) (v := 8) rfl (by decide) ?_
  refine z_cpI (pc := 57) (w := w) (f := g3) 8 rfl sl_Street_61 hk.2.2.2.2.1 h.2.2.2.2.1 (by decide) (by decide) (by decide) (by decide) (by omega) (Nat.le_of_ble_eq_true rfl) (fun g4 hg4 rg4 => ?_)
  refine z_aload_n (pc := 60) (i := 1) (j := 1) rfl rfl rfl ?_
  refine z_getR (pc := 61) (x := k + 5) rfl fl_Street_24 hk.1 rfl hk.2.2.2.2.2.2.2.2.2.2.1 ?_
  refine z_iconst (pc := 64) (v := 0) rfl (by decide) ?_
  refine z_aload_n (pc := 65) (i := 0) (j := 0) rfl rfl rfl ?_
  refine z_getR (pc := 66) (x := s + 5) rfl fl_Street_24 h.1 rfl h.2.2.2.2.2.2.2.2.2.2.1 ?_
  refine z_iconst (pc := 69) (v := 0) rfl (by decide) ?_
  refine z_bipush (pc := 70) (v := 8) rfl (by decide) ?_
  refine z_copyL (pc := 72) rfl sl_Street_61 hk.2.2.2.2.2.1 h.2.2.2.2.2.1 (by decide) (by decide) (by decide) (by decide) (by decide) (by omega) (Nat.le_of_ble_eq_true rfl) ?_
  refine z_aload_n (pc := 75) (i := 0) (j := 0) rfl rfl rfl ?_
  refine z_getR (pc := 76) (x := s + 6) rfl fl_Street_31 h.1 rfl h.2.2.2.2.2.2.2.2.2.2.2.1 ?_
  refine z_aload_n (pc := 79) (i := 1) (j := 1) rfl rfl rfl ?_
  refine z_getR (pc := 80) (x := k + 6) rfl fl_Street_31 hk.1 rfl hk.2.2.2.2.2.2.2.2.2.2.2.1 ?_
  have G : ∀ o, (o ≠ s + 1 ∧ o ≠ s + 2 ∧ o ≠ s + 3 ∧ o ≠ s + 4) → g4 o = zI w o := fun o ho => ((hg4 o (by omega)).trans ((hg3 o (by omega)).trans ((hg2 o (by omega)).trans (hg1 o (by omega)))))
  have en1 : g4 (k + 6) 2 = nI n1 := (congrFun (G (k + 6) (by omega)) 2).trans hL1
  refine z_cV (pc := 83) (mc1 := 0) (ms1 := 0) (mc2 := 0) (ms2 := 0) (as := [.ref (k + 6)]) (rest := []) (o := s + 6) rfl rfl h.2.2.2.2.2.2.2.2.2.2.2.2.2.1.1 ok_Law_copy rfl rfl cl_Street_67 (by omega) (Nat.le_of_ble_eq_true rfl) (Nat.le_of_ble_eq_true rfl) (Nat.le_refl _) (Nat.le_refl _) (c_Law_copy (w := zuI (zrL w (s + 5) (va_cpy (zL w (k + 5)) (zL w (s + 5)) 0 0 8)) g4) (L := s + 6) (K := k + 6) h.2.2.2.2.2.2.2.2.2.2.2.2.2.1 hk.2.2.2.2.2.2.2.2.2.2.2.2.2.1 (by omega) (n := n1) en1 hn1 1 (by decide)) (fun r1 w1 hp => ?_) rfl rfl
  obtain ⟨f5, hw_f5, rfl, hf5, rf5, zf5⟩ := hp
  rw [hw_f5]
  refine ⟨⟨Nat.le_refl _, Or.inl rfl⟩, ?_⟩
  refine z_aload_n (pc := 86) (i := 0) (j := 0) rfl rfl rfl ?_
  refine z_getR (pc := 87) (x := s + 9) rfl fl_Street_35 h.1 rfl h.2.2.2.2.2.2.2.2.2.2.2.2.1 ?_
  refine z_aload_n (pc := 90) (i := 1) (j := 1) rfl rfl rfl ?_
  refine z_getR (pc := 91) (x := k + 9) rfl fl_Street_35 hk.1 rfl hk.2.2.2.2.2.2.2.2.2.2.2.2.1 ?_
  have en2 : f5 (k + 9) 2 = nI n2 := (congrFun (hf5 (k + 9) (by omega) (by omega)) 2).trans ((congrFun (G (k + 9) (by omega)) 2).trans hL2)
  refine z_cV (pc := 94) (mc1 := 0) (ms1 := 0) (mc2 := 0) (ms2 := 0) (as := [.ref (k + 9)]) (rest := []) (o := s + 9) rfl rfl h.2.2.2.2.2.2.2.2.2.2.2.2.2.2.1 ok_Law_copy rfl rfl cl_Street_67 (by omega) (Nat.le_of_ble_eq_true rfl) (Nat.le_of_ble_eq_true rfl) (Nat.le_refl _) (Nat.le_refl _) (c_Law_copy (w := zuI (zrL w (s + 5) (va_cpy (zL w (k + 5)) (zL w (s + 5)) 0 0 8)) f5) (L := s + 9) (K := k + 9) h.2.2.2.2.2.2.2.2.2.2.2.2.2.2 hk.2.2.2.2.2.2.2.2.2.2.2.2.2.2 (by omega) (n := n2) en2 hn2 1 (by decide)) (fun r1 w1 hp => ?_) rfl rfl
  obtain ⟨f6, hw_f6, rfl, hf6, rf6, zf6⟩ := hp
  rw [hw_f6]
  refine ⟨⟨Nat.le_refl _, Or.inl rfl⟩, ?_⟩
  have Z : f6 k = zI w k := (hf6 k (by omega) (by omega)).trans ((hf5 k (by omega) (by omega)).trans (G k (by omega)))
  refine z_aload_n (pc := 97) (i := 0) (j := 0) rfl rfl rfl ?_
  refine z_aload_n (pc := 98) (i := 1) (j := 1) rfl rfl rfl ?_
  refine z_getI (pc := 99) rfl fl_Street_41 hk.1 rfl ?_
  refine z_eqi (y := zI w k 7) (congrFun Z 7) ?_
  refine z_putI (pc := 102) rfl fl_Street_41 h.1 rfl  ?_
  refine z_aload_n (pc := 105) (i := 0) (j := 0) rfl rfl rfl ?_
  refine z_aload_n (pc := 106) (i := 1) (j := 1) rfl rfl rfl ?_
  refine z_getI (pc := 107) rfl fl_Street_45 hk.1 rfl ?_
  refine z_eqi (y := zI w k 8) ((z2_o _ _ _ _ (show k ≠ s by omega)).trans (congrFun Z 8)) ?_
  refine z_putI (pc := 110) rfl fl_Street_45 h.1 rfl  ?_
  refine z_aload_n (pc := 113) (i := 0) (j := 0) rfl rfl rfl ?_
  refine z_aload_n (pc := 114) (i := 1) (j := 1) rfl rfl rfl ?_
  refine z_getI (pc := 115) rfl fl_Street_48 hk.1 rfl ?_
  refine z_eqi (y := zI w k 9) ((z2_o _ _ _ _ (show k ≠ s by omega)).trans ((z2_o _ _ _ _ (show k ≠ s by omega)).trans (congrFun Z 9))) ?_
  refine z_putI (pc := 118) rfl fl_Street_48 h.1 rfl  ?_
  refine z_aload_n (pc := 121) (i := 0) (j := 0) rfl rfl rfl ?_
  refine z_aload_n (pc := 122) (i := 1) (j := 1) rfl rfl rfl ?_
  refine z_getI (pc := 123) rfl fl_Street_51 hk.1 rfl ?_
  refine z_eqi (y := zI w k 10) ((z2_o _ _ _ _ (show k ≠ s by omega)).trans ((z2_o _ _ _ _ (show k ≠ s by omega)).trans ((z2_o _ _ _ _ (show k ≠ s by omega)).trans (congrFun Z 10)))) ?_
  refine z_putI (pc := 126) rfl fl_Street_51 h.1 rfl  ?_
  refine z_aload_n (pc := 129) (i := 0) (j := 0) rfl rfl rfl ?_
  refine z_aload_n (pc := 130) (i := 1) (j := 1) rfl rfl rfl ?_
  refine z_getI (pc := 131) rfl fl_Street_54 hk.1 rfl ?_
  refine z_eqi (y := zI w k 11) ((z2_o _ _ _ _ (show k ≠ s by omega)).trans ((z2_o _ _ _ _ (show k ≠ s by omega)).trans ((z2_o _ _ _ _ (show k ≠ s by omega)).trans ((z2_o _ _ _ _ (show k ≠ s by omega)).trans (congrFun Z 11))))) ?_
  refine z_putI (pc := 134) rfl fl_Street_54 h.1 rfl  ?_
  have E : ∀ o, o ≠ s → (z2 (z2 (z2 (z2 (z2 f6 s 7 (zI w k 7)) s 8 (zI w k 8)) s 9 (zI w k 9)) s 10 (zI w k 10)) s 11 (zI w k 11)) o = f6 o := fun o ho => by
    rw [z2_off _ _ _ ho, z2_off _ _ _ ho, z2_off _ _ _ ho, z2_off _ _ _ ho, z2_off _ _ _ ho]
  have E2 : ∀ o, o ≠ s → (o < s + 6 ∨ s + 11 ≤ o ∨ o = s + 8) → (z2 (z2 (z2 (z2 (z2 f6 s 7 (zI w k 7)) s 8 (zI w k 8)) s 9 (zI w k 9)) s 10 (zI w k 10)) s 11 (zI w k 11)) o = g4 o := fun o h1 h2 => (E o h1).trans ((hf6 o (by omega) (by omega)).trans (hf5 o (by omega) (by omega)))
  refine z_vret (pc := 137) rfl rfl ⟨z2 (z2 (z2 (z2 (z2 f6 s 7 (zI w k 7)) s 8 (zI w k 8)) s 9 (zI w k 9)) s 10 (zI w k 10)) s 11 (zI w k 11), va_cpy (zL w (k + 5)) (zL w (s + 5)) 0 0 8, rfl, rfl, fun o ho => ?_, fun j hj => ?_, fun j hj => ?_, fun j hj => ?_, fun j hj => ?_, fun j hj => ?_, ?_, fun j hj => ?_, ?_, ?_, ?_, ?_, ?_, ?_⟩
  · exact (E2 o (by omega) (by omega)).trans (G o (by omega))
  · rw [E2 (s + 1) (by omega) (by omega), hg4 _ (by omega), hg3 _ (by omega), hg2 _ (by omega), rg1 j, if_pos hj]
  · rw [E2 (s + 2) (by omega) (by omega), hg4 _ (by omega), hg3 _ (by omega), rg2 j, if_pos hj, hg1 _ (by omega)]
  · rw [E2 (s + 3) (by omega) (by omega), hg4 _ (by omega), rg3 j, if_pos hj, hg2 _ (by omega), hg1 _ (by omega)]
  · rw [E2 (s + 4) (by omega) (by omega), rg4 j, if_pos hj, hg3 _ (by omega), hg2 _ (by omega), hg1 _ (by omega)]
  · rw [E (s + 7) (by omega), hf6 (s + 7) (by omega) (by omega)]
    exact (rf5 j hj).trans (congrFun (G (k + 7) (by omega)) j)
  · rw [E (s + 6) (by omega), hf6 (s + 6) (by omega) (by omega)]; exact zf5
  · rw [E (s + 10) (by omega)]
    exact (rf6 j hj).trans ((congrFun (hf5 (k + 10) (by omega) (by omega)) j).trans (congrFun (G (k + 10) (by omega)) j))
  · rw [E (s + 9) (by omega)]; exact zf6
  · rw [z2_k _ _ _ (by decide), z2_k _ _ _ (by decide), z2_k _ _ _ (by decide), z2_k _ _ _ (by decide), z2_hit]
  · rw [z2_k _ _ _ (by decide), z2_k _ _ _ (by decide), z2_k _ _ _ (by decide), z2_hit]
  · rw [z2_k _ _ _ (by decide), z2_k _ _ _ (by decide), z2_hit]
  · rw [z2_k _ _ _ (by decide), z2_hit]
  · rw [z2_hit]
