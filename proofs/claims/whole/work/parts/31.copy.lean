theorem z_cpI {mc ms d : Nat} {M : zM} {P : Option Value → zW → Prop} {pc : Nat} {ls : List (Nat × Value)} {st : List Value} {w : zW} {f : Nat → Nat → Int32} {o0 o1 n1 n2 idx : Nat} {n : Int32} (N : Nat) (hf : zM.f M pc = some (.invokestatic idx, 3)) (hw : Cond.methodLink (zM.y M).cls idx arraycopyName ∈ zT) (ho0 : w.1[o0]? = some (10, n1)) (ho1 : w.1[o1]? = some (10, n2)) (hn : n = nI N) (h4 : N ≤ n1) (h5 : N ≤ n2) (h6 : N ≤ 10000) (hd : 1 ≤ d) (hrest : (st.map fun v => v.category).sum ≤ 8)
    (k : ∀ g : Nat → Nat → Int32, (∀ o, o ≠ o1 → g o = f o) → (∀ j, g o1 j = if j < N then f o0 j else f o1 j) → zS mc ms d M P (pc + 3) ls st (zuI w g)) : zS mc ms d M P pc ls (.int n :: .int 0 :: .ref o1 :: .int 0 :: .ref o0 :: st) (zuI w f) := by
  subst hn
  have e : (nI N).toNatClampNeg = N := nI_clamp (by omega)
  refine z_copyI (w := zuI w f) hf hw ho0 ho1 (by decide) (by decide) (nI_pos (by omega)) (by rw [e]; show 0 + N ≤ n1; omega) (by rw [e]; show 0 + N ≤ n2; omega) hd hrest ?_
  rw [e]
  refine k _ (fun o ho => if_neg ho) (fun j => ?_)
  show (if o1 = o1 then va_cpy (f o0) (f o1) 0 0 N else f o1) j = _
  rw [if_pos rfl]
  unfold va_cpy
  simp
set_option maxRecDepth 100000 in
set_option maxHeartbeats 4000000 in
theorem c_Law_copy {w : zW} {L K n : Nat} (h : zLw w L) (k : zLw w K) (hLK : L + 3 ≤ K ∨ K + 3 ≤ L) (hn : zI w K 2 = nI n) (hn1 : n ≤ 1000) (d : Nat) (hd : 1 ≤ d) : zS 0 0 d m_Law_copy (fun rv w1 => ∃ f, w1 = zuI w f ∧ rv = none ∧ (∀ o, o ≠ L → o ≠ L + 1 → f o = zI w o) ∧ (∀ j, j < n → f (L + 1) j = zI w (K + 1) j) ∧ f L 2 = nI n) 0 [(0, .ref L), (1, .ref K)] [] w := by
  refine z_aload_n (pc := 0) (i := 1) (j := 1) rfl rfl rfl ?_
  refine z_getR (pc := 1) (x := K + 1) rfl fl_Law_9 k.1 rfl k.2.2.2.1 ?_
  refine z_iconst (pc := 4) (v := 0) rfl (by decide) ?_
  refine z_aload_n (pc := 5) (i := 0) (j := 0) rfl rfl rfl ?_
  refine z_getR (pc := 6) (x := L + 1) rfl fl_Law_9 h.1 rfl h.2.2.2.1 ?_
  refine z_iconst (pc := 9) (v := 0) rfl (by decide) ?_
  refine z_aload_n (pc := 10) (i := 1) (j := 1) rfl rfl rfl ?_
  refine z_getI (pc := 11) rfl fl_Law_18 k.1 rfl ?_
  refine z_eqi (y := nI n) hn ?_
  refine z_cpI (pc := 14) (w := w) (f := zI w) n rfl sl_Law_26 k.2.1 h.2.1 rfl (by omega) (by omega) (by omega) (by omega) (Nat.le_of_ble_eq_true rfl) (fun g1 hg1 rg1 => ?_)
  refine z_aload_n (pc := 17) (i := 0) (j := 0) rfl rfl rfl ?_
  refine z_aload_n (pc := 18) (i := 1) (j := 1) rfl rfl rfl ?_
  refine z_getI (pc := 19) rfl fl_Law_18 k.1 rfl ?_
  refine z_eqi (y := nI n) ((congrFun (hg1 K (by omega)) 2).trans hn) ?_
  refine z_putI (pc := 22) rfl fl_Law_18 h.1 rfl  ?_
  exact z_vret (pc := 25) rfl rfl ⟨_, rfl, rfl, fun o h1 h2 => (funext fun j => z2_o _ _ _ _ h1).trans (hg1 o h2), fun j hj => (z2_o _ _ _ _ (by omega)).trans ((rg1 j).trans (if_pos hj)), z2_hit _ _ _ _⟩
set_option maxRecDepth 100000 in
set_option maxHeartbeats 4000000 in
theorem c_Life_copy {w : zW} {l k : Nat} (hl : zLf w l) (hk : zLf w k) (hlk : l + 9 ≤ k ∨ k + 9 ≤ l) (d : Nat) (hd : 1 ≤ d) : zS 0 0 d m_Life_copy (fun rv w1 => ∃ f, w1 = zuI w f ∧ rv = none ∧ (∀ o, (o < l ∨ l + 9 ≤ o) → f o = zI w o) ∧ (∀ j, j < 8 → f (l + 1) j = zI w (k + 1) j) ∧ (∀ j, j < 64 → f (l + 2) j = zI w (k + 2) j) ∧ (∀ j, j < 64 → f (l + 3) j = zI w (k + 3) j) ∧ (∀ j, j < 8 → f (l + 4) j = zI w (k + 4) j) ∧ (∀ j, j < 1152 → f (l + 5) j = zI w (k + 5) j) ∧ (∀ j, j < 10 → f (l + 6) j = zI w (k + 6) j) ∧ (∀ j, j < 10 → f (l + 7) j = zI w (k + 7) j) ∧ (∀ j, j < 10 → f (l + 8) j = zI w (k + 8) j) ∧ f l 8 = zI w k 8 ∧ f l 9 = zI w k 9 ∧ f l 10 = zI w k 10 ∧ f l 11 = zI w k 11 ∧ f l 12 = zI w k 12) 0 [(0, .ref l), (1, .ref k)] [] w := by
  refine z_aload_n (pc := 0) (i := 1) (j := 1) rfl rfl rfl ?_
  refine z_getR (pc := 1) (x := k + 1) rfl fl_Life_9 hk.1 rfl hk.2.2.2.2.2.2.2.2.2.1 ?_
  refine z_iconst (pc := 4) (v := 0) rfl (by decide) ?_
  refine z_aload_n (pc := 5) (i := 0) (j := 0) rfl rfl rfl ?_
  refine z_getR (pc := 6) (x := l + 1) rfl fl_Life_9 hl.1 rfl hl.2.2.2.2.2.2.2.2.2.1 ?_
  refine z_iconst (pc := 9) (v := 0) rfl (by decide) ?_
  refine z_aload_n (pc := 10) (i := 0) (j := 0) rfl rfl rfl ?_
  refine z_getR (pc := 11) (x := l + 1) rfl fl_Life_9 hl.1 rfl hl.2.2.2.2.2.2.2.2.2.1 ?_
  refine z_alen (pc := 14) (v := 8) rfl hl.2.1 (by decide) (by decide) ?_
  refine z_cpI (pc := 15) (w := w) (f := zI w) 8 rfl sl_Life_61 hk.2.1 hl.2.1 (by decide) (by decide) (by decide) (by decide) (by omega) (Nat.le_of_ble_eq_true rfl) (fun g1 hg1 rg1 => ?_)
  refine z_aload_n (pc := 18) (i := 1) (j := 1) rfl rfl rfl ?_
  refine z_getR (pc := 19) (x := k + 2) rfl fl_Life_15 hk.1 rfl hk.2.2.2.2.2.2.2.2.2.2.1 ?_
  refine z_iconst (pc := 22) (v := 0) rfl (by decide) ?_
  refine z_aload_n (pc := 23) (i := 0) (j := 0) rfl rfl rfl ?_
  refine z_getR (pc := 24) (x := l + 2) rfl fl_Life_15 hl.1 rfl hl.2.2.2.2.2.2.2.2.2.2.1 ?_
  refine z_iconst (pc := 27) (v := 0) rfl (by decide) ?_
  refine z_aload_n (pc := 28) (i := 0) (j := 0) rfl rfl rfl ?_
  refine z_getR (pc := 29) (x := l + 2) rfl fl_Life_15 hl.1 rfl hl.2.2.2.2.2.2.2.2.2.2.1 ?_
  refine z_alen (pc := 32) (v := 64) rfl hl.2.2.1 (by decide) (by decide) ?_
  refine z_cpI (pc := 33) (w := w) (f := g1) 64 rfl sl_Life_61 hk.2.2.1 hl.2.2.1 (by decide) (by decide) (by decide) (by decide) (by omega) (Nat.le_of_ble_eq_true rfl) (fun g2 hg2 rg2 => ?_)
  refine z_aload_n (pc := 36) (i := 1) (j := 1) rfl rfl rfl ?_
  refine z_getR (pc := 37) (x := k + 3) rfl fl_Life_18 hk.1 rfl hk.2.2.2.2.2.2.2.2.2.2.2.1 ?_
  refine z_iconst (pc := 40) (v := 0) rfl (by decide) ?_
  refine z_aload_n (pc := 41) (i := 0) (j := 0) rfl rfl rfl ?_
  refine z_getR (pc := 42) (x := l + 3) rfl fl_Life_18 hl.1 rfl hl.2.2.2.2.2.2.2.2.2.2.2.1 ?_
  refine z_iconst (pc := 45) (v := 0) rfl (by decide) ?_
  refine z_aload_n (pc := 46) (i := 0) (j := 0) rfl rfl rfl ?_
  refine z_getR (pc := 47) (x := l + 3) rfl fl_Life_18 hl.1 rfl hl.2.2.2.2.2.2.2.2.2.2.2.1 ?_
  refine z_alen (pc := 50) (v := 64) rfl hl.2.2.2.1 (by decide) (by decide) ?_
  refine z_cpI (pc := 51) (w := w) (f := g2) 64 rfl sl_Life_61 hk.2.2.2.1 hl.2.2.2.1 (by decide) (by decide) (by decide) (by decide) (by omega) (Nat.le_of_ble_eq_true rfl) (fun g3 hg3 rg3 => ?_)
  refine z_aload_n (pc := 54) (i := 1) (j := 1) rfl rfl rfl ?_
  refine z_getR (pc := 55) (x := k + 4) rfl fl_Life_21 hk.1 rfl hk.2.2.2.2.2.2.2.2.2.2.2.2.1 ?_
  refine z_iconst (pc := 58) (v := 0) rfl (by decide) ?_
  refine z_aload_n (pc := 59) (i := 0) (j := 0) rfl rfl rfl ?_
  refine z_getR (pc := 60) (x := l + 4) rfl fl_Life_21 hl.1 rfl hl.2.2.2.2.2.2.2.2.2.2.2.2.1 ?_
  refine z_iconst (pc := 63) (v := 0) rfl (by decide) ?_
  refine z_aload_n (pc := 64) (i := 0) (j := 0) rfl rfl rfl ?_
  refine z_getR (pc := 65) (x := l + 4) rfl fl_Life_21 hl.1 rfl hl.2.2.2.2.2.2.2.2.2.2.2.2.1 ?_
  refine z_alen (pc := 68) (v := 8) rfl hl.2.2.2.2.1 (by decide) (by decide) ?_
  refine z_cpI (pc := 69) (w := w) (f := g3) 8 rfl sl_Life_61 hk.2.2.2.2.1 hl.2.2.2.2.1 (by decide) (by decide) (by decide) (by decide) (by omega) (Nat.le_of_ble_eq_true rfl) (fun g4 hg4 rg4 => ?_)
  refine z_aload_n (pc := 72) (i := 1) (j := 1) rfl rfl rfl ?_
  refine z_getR (pc := 73) (x := k + 5) rfl fl_Life_24 hk.1 rfl hk.2.2.2.2.2.2.2.2.2.2.2.2.2.1 ?_
  refine z_iconst (pc := 76) (v := 0) rfl (by decide) ?_
  refine z_aload_n (pc := 77) (i := 0) (j := 0) rfl rfl rfl ?_
  refine z_getR (pc := 78) (x := l + 5) rfl fl_Life_24 hl.1 rfl hl.2.2.2.2.2.2.2.2.2.2.2.2.2.1 ?_
  refine z_iconst (pc := 81) (v := 0) rfl (by decide) ?_
  refine z_aload_n (pc := 82) (i := 0) (j := 0) rfl rfl rfl ?_
  refine z_getR (pc := 83) (x := l + 5) rfl fl_Life_24 hl.1 rfl hl.2.2.2.2.2.2.2.2.2.2.2.2.2.1 ?_
  refine z_alen (pc := 86) (v := 1152) rfl hl.2.2.2.2.2.1 (by decide) (by decide) ?_
  refine z_cpI (pc := 87) (w := w) (f := g4) 1152 rfl sl_Life_61 hk.2.2.2.2.2.1 hl.2.2.2.2.2.1 (by decide) (by decide) (by decide) (by decide) (by omega) (Nat.le_of_ble_eq_true rfl) (fun g5 hg5 rg5 => ?_)
  refine z_aload_n (pc := 90) (i := 1) (j := 1) rfl rfl rfl ?_
  refine z_getR (pc := 91) (x := k + 6) rfl fl_Life_27 hk.1 rfl hk.2.2.2.2.2.2.2.2.2.2.2.2.2.2.1 ?_
  refine z_iconst (pc := 94) (v := 0) rfl (by decide) ?_
  refine z_aload_n (pc := 95) (i := 0) (j := 0) rfl rfl rfl ?_
  refine z_getR (pc := 96) (x := l + 6) rfl fl_Life_27 hl.1 rfl hl.2.2.2.2.2.2.2.2.2.2.2.2.2.2.1 ?_
  refine z_iconst (pc := 99) (v := 0) rfl (by decide) ?_
  refine z_bipush (pc := 100) (v := 10) rfl (by decide) ?_
  refine z_cpI (pc := 102) (w := w) (f := g5) 10 rfl sl_Life_61 hk.2.2.2.2.2.2.1 hl.2.2.2.2.2.2.1 (by decide) (by decide) (by decide) (by decide) (by omega) (Nat.le_of_ble_eq_true rfl) (fun g6 hg6 rg6 => ?_)
  refine z_aload_n (pc := 105) (i := 1) (j := 1) rfl rfl rfl ?_
  refine z_getR (pc := 106) (x := k + 7) rfl fl_Life_30 hk.1 rfl hk.2.2.2.2.2.2.2.2.2.2.2.2.2.2.2.1 ?_
  refine z_iconst (pc := 109) (v := 0) rfl (by decide) ?_
  refine z_aload_n (pc := 110) (i := 0) (j := 0) rfl rfl rfl ?_
  refine z_getR (pc := 111) (x := l + 7) rfl fl_Life_30 hl.1 rfl hl.2.2.2.2.2.2.2.2.2.2.2.2.2.2.2.1 ?_
  refine z_iconst (pc := 114) (v := 0) rfl (by decide) ?_
  refine z_bipush (pc := 115) (v := 10) rfl (by decide) ?_
  refine z_cpI (pc := 117) (w := w) (f := g6) 10 rfl sl_Life_61 hk.2.2.2.2.2.2.2.1 hl.2.2.2.2.2.2.2.1 (by decide) (by decide) (by decide) (by decide) (by omega) (Nat.le_of_ble_eq_true rfl) (fun g7 hg7 rg7 => ?_)
  refine z_aload_n (pc := 120) (i := 1) (j := 1) rfl rfl rfl ?_
  refine z_getR (pc := 121) (x := k + 8) rfl fl_Life_33 hk.1 rfl hk.2.2.2.2.2.2.2.2.2.2.2.2.2.2.2.2 ?_
  refine z_iconst (pc := 124) (v := 0) rfl (by decide) ?_
  refine z_aload_n (pc := 125) (i := 0) (j := 0) rfl rfl rfl ?_
  refine z_getR (pc := 126) (x := l + 8) rfl fl_Life_33 hl.1 rfl hl.2.2.2.2.2.2.2.2.2.2.2.2.2.2.2.2 ?_
  refine z_iconst (pc := 129) (v := 0) rfl (by decide) ?_
  refine z_bipush (pc := 130) (v := 10) rfl (by decide) ?_
  refine z_cpI (pc := 132) (w := w) (f := g7) 10 rfl sl_Life_61 hk.2.2.2.2.2.2.2.2.1 hl.2.2.2.2.2.2.2.2.1 (by decide) (by decide) (by decide) (by decide) (by omega) (Nat.le_of_ble_eq_true rfl) (fun g8 hg8 rg8 => ?_)
  refine z_aload_n (pc := 135) (i := 0) (j := 0) rfl rfl rfl ?_
  refine z_aload_n (pc := 136) (i := 1) (j := 1) rfl rfl rfl ?_
  refine z_getI (pc := 137) rfl fl_Life_45 hk.1 rfl ?_
  refine z_eqi (y := zI w k 8) (congrFun ((((((((hg8 _ (by omega)).trans (hg7 _ (by omega))).trans (hg6 _ (by omega))).trans (hg5 _ (by omega))).trans (hg4 _ (by omega))).trans (hg3 _ (by omega))).trans (hg2 _ (by omega))).trans (hg1 _ (by omega))) 8) ?_
  refine z_putI (pc := 140) rfl fl_Life_45 hl.1 rfl  ?_
  refine z_aload_n (pc := 143) (i := 0) (j := 0) rfl rfl rfl ?_
  refine z_aload_n (pc := 144) (i := 1) (j := 1) rfl rfl rfl ?_
  refine z_getI (pc := 145) rfl fl_Life_49 hk.1 rfl ?_
  refine z_eqi (y := zI w k 9) ((z2_o _ _ _ _ (by omega)).trans (congrFun ((((((((hg8 _ (by omega)).trans (hg7 _ (by omega))).trans (hg6 _ (by omega))).trans (hg5 _ (by omega))).trans (hg4 _ (by omega))).trans (hg3 _ (by omega))).trans (hg2 _ (by omega))).trans (hg1 _ (by omega))) 9)) ?_
  refine z_putI (pc := 148) rfl fl_Life_49 hl.1 rfl  ?_
  refine z_aload_n (pc := 151) (i := 0) (j := 0) rfl rfl rfl ?_
  refine z_aload_n (pc := 152) (i := 1) (j := 1) rfl rfl rfl ?_
  refine z_getI (pc := 153) rfl fl_Life_52 hk.1 rfl ?_
  refine z_eqi (y := zI w k 10) ((z2_o _ _ _ _ (by omega)).trans ((z2_o _ _ _ _ (by omega)).trans (congrFun ((((((((hg8 _ (by omega)).trans (hg7 _ (by omega))).trans (hg6 _ (by omega))).trans (hg5 _ (by omega))).trans (hg4 _ (by omega))).trans (hg3 _ (by omega))).trans (hg2 _ (by omega))).trans (hg1 _ (by omega))) 10))) ?_
  refine z_putI (pc := 156) rfl fl_Life_52 hl.1 rfl  ?_
  refine z_aload_n (pc := 159) (i := 0) (j := 0) rfl rfl rfl ?_
  refine z_aload_n (pc := 160) (i := 1) (j := 1) rfl rfl rfl ?_
  refine z_getI (pc := 161) rfl fl_Life_55 hk.1 rfl ?_
  refine z_eqi (y := zI w k 11) ((z2_o _ _ _ _ (by omega)).trans ((z2_o _ _ _ _ (by omega)).trans ((z2_o _ _ _ _ (by omega)).trans (congrFun ((((((((hg8 _ (by omega)).trans (hg7 _ (by omega))).trans (hg6 _ (by omega))).trans (hg5 _ (by omega))).trans (hg4 _ (by omega))).trans (hg3 _ (by omega))).trans (hg2 _ (by omega))).trans (hg1 _ (by omega))) 11)))) ?_
  refine z_putI (pc := 164) rfl fl_Life_55 hl.1 rfl  ?_
  refine z_aload_n (pc := 167) (i := 0) (j := 0) rfl rfl rfl ?_
  refine z_aload_n (pc := 168) (i := 1) (j := 1) rfl rfl rfl ?_
  refine z_getI (pc := 169) rfl fl_Life_58 hk.1 rfl ?_
  refine z_eqi (y := zI w k 12) ((z2_o _ _ _ _ (by omega)).trans ((z2_o _ _ _ _ (by omega)).trans ((z2_o _ _ _ _ (by omega)).trans ((z2_o _ _ _ _ (by omega)).trans (congrFun ((((((((hg8 _ (by omega)).trans (hg7 _ (by omega))).trans (hg6 _ (by omega))).trans (hg5 _ (by omega))).trans (hg4 _ (by omega))).trans (hg3 _ (by omega))).trans (hg2 _ (by omega))).trans (hg1 _ (by omega))) 12))))) ?_
  refine z_putI (pc := 172) rfl fl_Life_58 hl.1 rfl  ?_
  exact z_vret (pc := 175) rfl rfl ⟨_, rfl, rfl, (fun o ho => (funext fun j => ((z2_o _ _ _ _ (by omega)).trans ((z2_o _ _ _ _ (by omega)).trans ((z2_o _ _ _ _ (by omega)).trans ((z2_o _ _ _ _ (by omega)).trans ((z2_o _ _ _ _ (by omega)).trans rfl)))))).trans ((((((((hg8 _ (by omega)).trans (hg7 _ (by omega))).trans (hg6 _ (by omega))).trans (hg5 _ (by omega))).trans (hg4 _ (by omega))).trans (hg3 _ (by omega))).trans (hg2 _ (by omega))).trans (hg1 _ (by omega)))), (fun j hj => ((z2_o _ _ _ _ (by omega)).trans ((z2_o _ _ _ _ (by omega)).trans ((z2_o _ _ _ _ (by omega)).trans ((z2_o _ _ _ _ (by omega)).trans ((z2_o _ _ _ _ (by omega)).trans ((congrFun (((((((hg8 _ (by omega)).trans (hg7 _ (by omega))).trans (hg6 _ (by omega))).trans (hg5 _ (by omega))).trans (hg4 _ (by omega))).trans (hg3 _ (by omega))).trans (hg2 _ (by omega))) j).trans ((rg1 j).trans (if_pos hj))))))))), (fun j hj => ((z2_o _ _ _ _ (by omega)).trans ((z2_o _ _ _ _ (by omega)).trans ((z2_o _ _ _ _ (by omega)).trans ((z2_o _ _ _ _ (by omega)).trans ((z2_o _ _ _ _ (by omega)).trans ((congrFun ((((((hg8 _ (by omega)).trans (hg7 _ (by omega))).trans (hg6 _ (by omega))).trans (hg5 _ (by omega))).trans (hg4 _ (by omega))).trans (hg3 _ (by omega))) j).trans (((rg2 j).trans (if_pos hj)).trans (congrFun (hg1 _ (by omega)) j))))))))), (fun j hj => ((z2_o _ _ _ _ (by omega)).trans ((z2_o _ _ _ _ (by omega)).trans ((z2_o _ _ _ _ (by omega)).trans ((z2_o _ _ _ _ (by omega)).trans ((z2_o _ _ _ _ (by omega)).trans ((congrFun (((((hg8 _ (by omega)).trans (hg7 _ (by omega))).trans (hg6 _ (by omega))).trans (hg5 _ (by omega))).trans (hg4 _ (by omega))) j).trans (((rg3 j).trans (if_pos hj)).trans (congrFun ((hg2 _ (by omega)).trans (hg1 _ (by omega))) j))))))))), (fun j hj => ((z2_o _ _ _ _ (by omega)).trans ((z2_o _ _ _ _ (by omega)).trans ((z2_o _ _ _ _ (by omega)).trans ((z2_o _ _ _ _ (by omega)).trans ((z2_o _ _ _ _ (by omega)).trans ((congrFun ((((hg8 _ (by omega)).trans (hg7 _ (by omega))).trans (hg6 _ (by omega))).trans (hg5 _ (by omega))) j).trans (((rg4 j).trans (if_pos hj)).trans (congrFun (((hg3 _ (by omega)).trans (hg2 _ (by omega))).trans (hg1 _ (by omega))) j))))))))), (fun j hj => ((z2_o _ _ _ _ (by omega)).trans ((z2_o _ _ _ _ (by omega)).trans ((z2_o _ _ _ _ (by omega)).trans ((z2_o _ _ _ _ (by omega)).trans ((z2_o _ _ _ _ (by omega)).trans ((congrFun (((hg8 _ (by omega)).trans (hg7 _ (by omega))).trans (hg6 _ (by omega))) j).trans (((rg5 j).trans (if_pos hj)).trans (congrFun ((((hg4 _ (by omega)).trans (hg3 _ (by omega))).trans (hg2 _ (by omega))).trans (hg1 _ (by omega))) j))))))))), (fun j hj => ((z2_o _ _ _ _ (by omega)).trans ((z2_o _ _ _ _ (by omega)).trans ((z2_o _ _ _ _ (by omega)).trans ((z2_o _ _ _ _ (by omega)).trans ((z2_o _ _ _ _ (by omega)).trans ((congrFun ((hg8 _ (by omega)).trans (hg7 _ (by omega))) j).trans (((rg6 j).trans (if_pos hj)).trans (congrFun (((((hg5 _ (by omega)).trans (hg4 _ (by omega))).trans (hg3 _ (by omega))).trans (hg2 _ (by omega))).trans (hg1 _ (by omega))) j))))))))), (fun j hj => ((z2_o _ _ _ _ (by omega)).trans ((z2_o _ _ _ _ (by omega)).trans ((z2_o _ _ _ _ (by omega)).trans ((z2_o _ _ _ _ (by omega)).trans ((z2_o _ _ _ _ (by omega)).trans ((congrFun (hg8 _ (by omega)) j).trans (((rg7 j).trans (if_pos hj)).trans (congrFun ((((((hg6 _ (by omega)).trans (hg5 _ (by omega))).trans (hg4 _ (by omega))).trans (hg3 _ (by omega))).trans (hg2 _ (by omega))).trans (hg1 _ (by omega))) j))))))))), (fun j hj => ((z2_o _ _ _ _ (by omega)).trans ((z2_o _ _ _ _ (by omega)).trans ((z2_o _ _ _ _ (by omega)).trans ((z2_o _ _ _ _ (by omega)).trans ((z2_o _ _ _ _ (by omega)).trans (((rg8 j).trans (if_pos hj)).trans (congrFun (((((((hg7 _ (by omega)).trans (hg6 _ (by omega))).trans (hg5 _ (by omega))).trans (hg4 _ (by omega))).trans (hg3 _ (by omega))).trans (hg2 _ (by omega))).trans (hg1 _ (by omega))) j)))))))), ((z2_k _ _ _ (by omega)).trans ((z2_k _ _ _ (by omega)).trans ((z2_k _ _ _ (by omega)).trans ((z2_k _ _ _ (by omega)).trans (z2_hit _ _ _ _))))), ((z2_k _ _ _ (by omega)).trans ((z2_k _ _ _ (by omega)).trans ((z2_k _ _ _ (by omega)).trans (z2_hit _ _ _ _)))), ((z2_k _ _ _ (by omega)).trans ((z2_k _ _ _ (by omega)).trans (z2_hit _ _ _ _))), ((z2_k _ _ _ (by omega)).trans (z2_hit _ _ _ _)), (z2_hit _ _ _ _)⟩
def strB (f : Nat → Nat → Int32) (s : Nat) : Nat → Nat → Int32 := z2 (z2 (z2 (z2 (z2 (z2 (z2 (z2 (z2 (z2 (z2 (f) s 7 8) s 8 8) s 9 1) s 10 0) s 11 0) (s + 6) 2 0) (s + 7) 0 0) (s + 6) 2 1) (s + 9) 2 0) (s + 10) 0 (-3)) (s + 9) 2 1
set_option maxRecDepth 100000 in
set_option maxHeartbeats 4000000 in
theorem c_Street_begin {w : zW} {s : Nat} (h : zSt w s) (d : Nat) (hd : 2 ≤ d) : zS 0 0 d m_Street_begin (fun rv w1 => rv = none ∧ w1 = zuI w (strB (zI w) s)) 0 [(0, .ref s)] [] w := by
  refine z_aload_n (pc := 0) (i := 0) (j := 0) rfl rfl rfl ?_
  refine z_bipush (pc := 1) (v := 8) rfl (by decide) ?_
  refine z_putI (pc := 3) rfl fl_Street_41 h.1 rfl  ?_
  refine z_aload_n (pc := 6) (i := 0) (j := 0) rfl rfl rfl ?_
  refine z_bipush (pc := 7) (v := 8) rfl (by decide) ?_
  refine z_putI (pc := 9) rfl fl_Street_45 h.1 rfl  ?_
  refine z_aload_n (pc := 12) (i := 0) (j := 0) rfl rfl rfl ?_
  refine z_iconst (pc := 13) (v := 1) rfl (by decide) ?_
  refine z_putI (pc := 14) rfl fl_Street_48 h.1 rfl  ?_
  refine z_aload_n (pc := 17) (i := 0) (j := 0) rfl rfl rfl ?_
  refine z_iconst (pc := 18) (v := 0) rfl (by decide) ?_
  refine z_putI (pc := 19) rfl fl_Street_51 h.1 rfl  ?_
  refine z_aload_n (pc := 22) (i := 0) (j := 0) rfl rfl rfl ?_
  refine z_iconst (pc := 23) (v := 0) rfl (by decide) ?_
  refine z_putI (pc := 24) rfl fl_Street_54 h.1 rfl  ?_
  refine z_aload_n (pc := 27) (i := 0) (j := 0) rfl rfl rfl ?_
  refine z_getR (pc := 28) (x := s + 6) rfl fl_Street_31 h.1 rfl h.2.2.2.2.2.2.2.2.2.2.2.1 ?_
  refine z_iconst (pc := 31) (v := 0) rfl (by decide) ?_
  refine z_cV (pc := 32) (mc1 := 0) (ms1 := 0) (mc2 := 0) (ms2 := 0) (as := [.int 0]) (rest := []) (o := s + 6) rfl rfl h.2.2.2.2.2.2.2.2.2.2.2.2.2.1.1 ok_Law_beginWith rfl rfl cl_Street_57 (by omega) (Nat.le_of_ble_eq_true rfl) (Nat.le_of_ble_eq_true rfl) (Nat.le_refl _) (Nat.le_refl _) (c_Law_beginWith (w := zuI w (z2 (z2 (z2 (z2 (z2 (zI w) s 7 8) s 8 8) s 9 1) s 10 0) s 11 0)) (o := s + 6) (a := s + 7) h.2.2.2.2.2.2.2.2.2.2.2.2.2.1.1 h.2.2.2.2.2.2.2.2.2.2.2.2.2.1.2.2.2.1 h.2.2.2.2.2.2.2.2.2.2.2.2.2.1.2.1 (by omega) 0 1 (by decide)) (fun r1 w1 hp => ?_) rfl rfl
  obtain ⟨rfl, hw1⟩ := hp
  rw [hw1]
  refine ⟨⟨Nat.le_refl _, Or.inl rfl⟩, ?_⟩
  refine z_aload_n (pc := 35) (i := 0) (j := 0) rfl rfl rfl ?_
  refine z_getR (pc := 36) (x := s + 9) rfl fl_Street_35 h.1 rfl h.2.2.2.2.2.2.2.2.2.2.2.2.1 ?_
  refine z_bipush (pc := 39) (v := (-3)) rfl (by decide) ?_
  refine z_cV (pc := 41) (mc1 := 0) (ms1 := 0) (mc2 := 0) (ms2 := 0) (as := [.int (-3)]) (rest := []) (o := s + 9) rfl rfl h.2.2.2.2.2.2.2.2.2.2.2.2.2.2.1 ok_Law_beginWith rfl rfl cl_Street_57 (by omega) (Nat.le_of_ble_eq_true rfl) (Nat.le_of_ble_eq_true rfl) (Nat.le_refl _) (Nat.le_refl _) (c_Law_beginWith (w := zuI w (z2 (z2 (z2 (z2 (z2 (z2 (z2 (z2 (zI w) s 7 8) s 8 8) s 9 1) s 10 0) s 11 0) (s + 6) 2 0) (s + 7) 0 0) (s + 6) 2 1)) (o := s + 9) (a := s + 10) h.2.2.2.2.2.2.2.2.2.2.2.2.2.2.1 h.2.2.2.2.2.2.2.2.2.2.2.2.2.2.2.2.2.1 h.2.2.2.2.2.2.2.2.2.2.2.2.2.2.2.1 (by omega) (-3) 1 (by decide)) (fun r1 w1 hp => ?_) rfl rfl
  obtain ⟨rfl, hw1⟩ := hp
  rw [hw1]
  refine ⟨⟨Nat.le_refl _, Or.inl rfl⟩, ?_⟩
  exact z_vret (pc := 44) rfl rfl ⟨rfl, rfl⟩
