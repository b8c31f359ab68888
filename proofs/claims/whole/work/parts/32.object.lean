/-! THE OBJECT: SmokeWeds is 0, tape 1 (row 2), reader 3, air 16, life 21, marks 30, wedInRun 31; s: the street that stands -/
def zX (w : zW) (s : Nat) : Prop := w.1[0]? = some (7, 7) ∧ zR w 0 0 = some 1 ∧ zR w 0 1 = some 3 ∧ zR w 0 2 = some 16 ∧ zR w 0 3 = some 21 ∧ zR w 0 4 = some 30 ∧ zR w 0 5 = some 31 ∧ zR w 0 6 = some s ∧ w.1[1]? = some (6, 2) ∧ w.1[2]? = some (9, 1000) ∧ zR w 1 0 = some 2 ∧ zAir w 16 ∧ zLf w 21 ∧ w.1[30]? = some (13, 4) ∧ w.1[31]? = some (10, 8) ∧ zSt w s ∧ (s = 4 ∨ s = 32)
def hOK (H : Nat) (b : Int32) : Bool := decide (0 ≤ b.toInt ∧ b.toInt < H)
theorem hOK_of {H : Nat} {b : Int32} (hH : H ≤ 8) (h : hOK H b = true) : ∃ j : Nat, j < H ∧ b = nI j := by
  have h1 : 0 ≤ b.toInt ∧ b.toInt < H := of_decide_eq_true h
  refine ⟨b.toInt.toNat, by omega, ?_⟩
  apply Int32.toInt_inj.mp
  rw [nI_toInt (by omega)]
  omega
theorem hOK_if {H : Nat} (hH : H ≤ 8) (b : Int32) : (if b < 0 then (0 : Int32) else if nI H ≤ b then 0 else 1) = if hOK H b = true then 1 else 0 := by
  have eH := nI_toInt (n := H) (by omega)
  have z0 : (0 : Int32).toInt = 0 := rfl
  unfold hOK
  simp only [fa_lt, fa_le, eH, z0, decide_eq_true_eq]
  by_cases h1 : b.toInt < 0
  · rw [if_pos h1, if_neg (by omega)]
  · rw [if_neg h1]
    by_cases h2 : (H : Int) ≤ b.toInt
    · rw [if_pos h2, if_neg (by omega)]
    · rw [if_neg h2, if_pos (by omega)]
theorem ite_ne {c : Bool} (h : ¬ (if c = true then (1 : Int32) else 0) = 0) : c = true := by cases c <;> simp_all
theorem ite_eq {c : Bool} (h : (if c = true then (1 : Int32) else 0) = 0) : ¬ c = true := by cases c <;> simp_all
set_option maxRecDepth 100000 in
set_option maxHeartbeats 4000000 in
theorem c_SW_isHouse {w : zW} {s : Nat} (hx : zX w s) {H : Nat} (hH : zI w s 11 = nI H) (hH8 : H ≤ 8) (b : Int32) (d : Nat) : zS 0 0 d m_SW_isHouse (fun rv w1 => rv = some (.int (if hOK H b = true then 1 else 0)) ∧ w1 = w) 0 [(0, .ref 0), (1, .int b)] [] w := by
  refine z_iload_n (pc := 0) (i := 1) (j := 1) rfl rfl rfl ?_
  refine z_if_lt (pc := 1) (tgt := 19) rfl (by decide) (fun h1 => ?_) (fun h1 => ?_)
  · refine z_iconst (pc := 19) (v := 0) rfl (by decide) ?_
    exact z_zret (pc := 20) rfl rfl (by decide) ⟨by rw [← hOK_if hH8 b, ← hH]; rw [if_pos h1], rfl⟩
  · refine z_iload_n (pc := 4) (i := 1) (j := 1) rfl rfl rfl ?_
    refine z_aload_n (pc := 5) (i := 0) (j := 0) rfl rfl rfl ?_
    refine z_getR (pc := 6) (x := s) rfl fl_SW_48 hx.1 rfl hx.2.2.2.2.2.2.2.1 ?_
    refine z_getI (pc := 9) rfl fl_SW_171 hx.2.2.2.2.2.2.2.2.2.2.2.2.2.2.2.1.1 rfl ?_
    refine z_icmp_ge (pc := 12) (tgt := 19) rfl (by decide) (fun h12 => ?_) (fun h12 => ?_)
    · refine z_iconst (pc := 19) (v := 0) rfl (by decide) ?_
      exact z_zret (pc := 20) rfl rfl (by decide) ⟨by rw [← hOK_if hH8 b, ← hH]; rw [if_neg h1, if_pos h12], rfl⟩
    · refine z_iconst (pc := 15) (v := 1) rfl (by decide) ?_
      refine z_goto (pc := 16) (tgt := 20) rfl (by decide) ?_
      exact z_zret (pc := 20) rfl rfl (by decide) ⟨by rw [← hOK_if hH8 b, ← hH]; rw [if_neg h1, if_neg h12], rfl⟩
def twoOK (H : Nat) (a b : Int32) : Int32 := if hOK H a = true then (if hOK H b = true then (if a = b then 0 else 1) else 0) else 0
set_option maxRecDepth 100000 in
set_option maxHeartbeats 4000000 in
theorem c_SW_areTwo {w : zW} {s : Nat} (hx : zX w s) {H : Nat} (hH : zI w s 11 = nI H) (hH8 : H ≤ 8) (a b : Int32) (d : Nat) (hd : 1 ≤ d) : zS 0 0 d m_SW_areTwo (fun rv w1 => rv = some (.int (twoOK H a b)) ∧ w1 = w) 0 [(0, .ref 0), (1, .int a), (2, .int b)] [] w := by
  refine z_aload_n (pc := 0) (i := 0) (j := 0) rfl rfl rfl ?_
  refine z_iload_n (pc := 1) (i := 1) (j := 1) rfl rfl rfl ?_
  refine z_cV (pc := 2) (mc1 := 0) (ms1 := 0) (mc2 := 0) (ms2 := 0) (as := [.int a]) (rest := []) (o := 0) rfl rfl hx.1 ok_SW_isHouse rfl rfl cl_SW_72 (by omega) (Nat.le_of_ble_eq_true rfl) (Nat.le_of_ble_eq_true rfl) (Nat.le_refl _) (Nat.le_refl _) (c_SW_isHouse (w := w) hx hH hH8 a 0) (fun r1 w1 hp => ?_) rfl rfl
  obtain ⟨rfl, hw1⟩ := hp
  rw [hw1]
  refine ⟨⟨Nat.le_refl _, Or.inl rfl⟩, ?_⟩
  refine z_if_eq (pc := 5) (tgt := 25) rfl (by decide) (fun h5 => ?_) (fun h5 => ?_)
  · refine z_iconst (pc := 25) (v := 0) rfl (by decide) ?_
    exact z_zret (pc := 26) rfl rfl (by decide) ⟨by unfold twoOK; rw [if_neg (ite_eq h5)], rfl⟩
  · refine z_aload_n (pc := 8) (i := 0) (j := 0) rfl rfl rfl ?_
    refine z_iload_n (pc := 9) (i := 2) (j := 2) rfl rfl rfl ?_
    refine z_cV (pc := 10) (mc1 := 0) (ms1 := 0) (mc2 := 0) (ms2 := 0) (as := [.int b]) (rest := []) (o := 0) rfl rfl hx.1 ok_SW_isHouse rfl rfl cl_SW_72 (by omega) (Nat.le_of_ble_eq_true rfl) (Nat.le_of_ble_eq_true rfl) (Nat.le_refl _) (Nat.le_refl _) (c_SW_isHouse (w := w) hx hH hH8 b 0) (fun r1 w1 hp => ?_) rfl rfl
    obtain ⟨rfl, hw1⟩ := hp
    rw [hw1]
    refine ⟨⟨Nat.le_refl _, Or.inl rfl⟩, ?_⟩
    refine z_if_eq (pc := 13) (tgt := 25) rfl (by decide) (fun h13 => ?_) (fun h13 => ?_)
    · refine z_iconst (pc := 25) (v := 0) rfl (by decide) ?_
      exact z_zret (pc := 26) rfl rfl (by decide) ⟨by unfold twoOK; rw [if_pos (ite_ne h5), if_neg (ite_eq h13)], rfl⟩
    · refine z_iload_n (pc := 16) (i := 1) (j := 1) rfl rfl rfl ?_
      refine z_iload_n (pc := 17) (i := 2) (j := 2) rfl rfl rfl ?_
      refine z_icmp_eq (pc := 18) (tgt := 25) rfl (by decide) (fun h18 => ?_) (fun h18 => ?_)
      · refine z_iconst (pc := 25) (v := 0) rfl (by decide) ?_
        exact z_zret (pc := 26) rfl rfl (by decide) ⟨by unfold twoOK; rw [if_pos (ite_ne h5), if_pos (ite_ne h13), if_pos h18], rfl⟩
      · refine z_iconst (pc := 21) (v := 1) rfl (by decide) ?_
        refine z_goto (pc := 22) (tgt := 26) rfl (by decide) ?_
        exact z_zret (pc := 26) rfl rfl (by decide) ⟨by unfold twoOK; rw [if_pos (ite_ne h5), if_pos (ite_ne h13), if_neg h18], rfl⟩
theorem twoOK_of {H : Nat} {a b : Int32} (hH : H ≤ 8) (h : ¬ twoOK H a b = 0) : ∃ i j : Nat, i < H ∧ j < H ∧ a = nI i ∧ b = nI j ∧ i ≠ j := by
  unfold twoOK at h
  split at h
  · rename_i h1
    split at h
    · rename_i h2
      split at h
      · exact absurd rfl h
      · rename_i h3
        obtain ⟨i, hi, rfl⟩ := hOK_of hH h1
        obtain ⟨j, hj, rfl⟩ := hOK_of hH h2
        exact ⟨i, j, hi, hj, rfl, rfl, fun e => h3 (by rw [e])⟩
    · exact absurd rfl h
  · exact absurd rfl h
theorem twoOK_01 (H : Nat) (a b : Int32) : twoOK H a b = 0 ∨ twoOK H a b = 1 := by
  unfold twoOK
  (repeat' split) <;> simp
set_option maxRecDepth 100000 in
set_option maxHeartbeats 4000000 in
theorem c_SW_light {w : zW} {s : Nat} (hx : zX w s) {H : Nat} (hH : zI w s 11 = nI H) (hH8 : H ≤ 8) (b t : Int32) (d : Nat) (hd : 1 ≤ d) : zS 0 0 d m_SW_light (fun rv w1 => rv = some (.int (if hOK H b = true then (if (if (zI w 21 10 >>> (b &&& 31)) &&& 1 = 0 then 0 else 1) = t then 0 else 1) else 0)) ∧ w1 = (if hOK H b = true then (if (if (zI w 21 10 >>> (b &&& 31)) &&& 1 = 0 then 0 else 1) = t then w else zuI w (z2 (zI w) 21 10 (zI w 21 10 ^^^ (1 <<< (b &&& 31))))) else w)) 0 [(0, .ref 0), (1, .int b), (2, .int t)] [] w := by
  refine z_aload_n (pc := 0) (i := 0) (j := 0) rfl rfl rfl ?_
  refine z_iload_n (pc := 1) (i := 1) (j := 1) rfl rfl rfl ?_
  refine z_cV (pc := 2) (mc1 := 0) (ms1 := 0) (mc2 := 0) (ms2 := 0) (as := [.int b]) (rest := []) (o := 0) rfl rfl hx.1 ok_SW_isHouse rfl rfl cl_SW_72 (by omega) (Nat.le_of_ble_eq_true rfl) (Nat.le_of_ble_eq_true rfl) (Nat.le_refl _) (Nat.le_refl _) (c_SW_isHouse (w := w) hx hH hH8 b 0) (fun r1 w1 hp => ?_) rfl rfl
  obtain ⟨rfl, hw1⟩ := hp
  rw [hw1]
  refine ⟨⟨Nat.le_refl _, Or.inl rfl⟩, ?_⟩
  refine z_if_eq (pc := 5) (tgt := 23) rfl (by decide) (fun h5 => ?_) (fun h5 => ?_)
  · refine z_iconst (pc := 23) (v := 0) rfl (by decide) ?_
    exact z_zret (pc := 24) rfl rfl (by decide) ⟨by rw [if_neg (ite_eq h5)], by rw [if_neg (ite_eq h5)]⟩
  · refine z_aload_n (pc := 8) (i := 0) (j := 0) rfl rfl rfl ?_
    refine z_getR (pc := 9) (x := 21) rfl fl_SW_31 hx.1 rfl hx.2.2.2.2.1 ?_
    refine z_getI (pc := 12) rfl fl_SW_88 hx.2.2.2.2.2.2.2.2.2.2.2.2.1.1 rfl ?_
    refine z_iload_n (pc := 15) (i := 1) (j := 1) rfl rfl rfl ?_
    refine z_cS (pc := 16) (mc1 := 0) (ms1 := 0) (mc2 := 0) (ms2 := 0) (as := [.int (zI w 21 10), .int b]) (rest := []) ok_SW_hasBit rfl rfl cl_SW_100 (by omega) (Nat.le_of_ble_eq_true rfl) (Nat.le_of_ble_eq_true rfl) (Nat.le_refl _) (Nat.le_refl _) (c_SW_hasBit (zI w 21 10) b 0 _) (fun r1 w1 hp => ?_) rfl rfl
    obtain ⟨rfl, hw1⟩ := hp
    rw [hw1]
    refine ⟨⟨Nat.le_refl _, Or.inl rfl⟩, ?_⟩
    refine z_iload_n (pc := 19) (i := 2) (j := 2) rfl rfl rfl ?_
    refine z_icmp_ne (pc := 20) (tgt := 25) rfl (by decide) (fun h20 => ?_) (fun h20 => ?_)
    · refine z_aload_n (pc := 25) (i := 0) (j := 0) rfl rfl rfl ?_
      refine z_getR (pc := 26) (x := 21) rfl fl_SW_31 hx.1 rfl hx.2.2.2.2.1 ?_
      refine z_dup (pc := 29) rfl rfl ?_
      refine z_getI (pc := 30) rfl fl_SW_88 hx.2.2.2.2.2.2.2.2.2.2.2.2.1.1 rfl ?_
      refine z_iconst (pc := 33) (v := 1) rfl (by decide) ?_
      refine z_iload_n (pc := 34) (i := 1) (j := 1) rfl rfl rfl ?_
      refine z_ishl (pc := 35) rfl ?_
      refine z_ixor (pc := 36) rfl ?_
      refine z_putI (pc := 37) rfl fl_SW_88 hx.2.2.2.2.2.2.2.2.2.2.2.2.1.1 rfl  ?_
      refine z_iconst (pc := 40) (v := 1) rfl (by decide) ?_
      exact z_zret (pc := 41) rfl rfl (by decide) ⟨by rw [if_pos (ite_ne h5), if_neg h20], by rw [if_pos (ite_ne h5), if_neg h20]; rfl⟩
    · refine z_iconst (pc := 23) (v := 0) rfl (by decide) ?_
      exact z_zret (pc := 24) rfl rfl (by decide) ⟨by rw [if_pos (ite_ne h5), if_pos h20], by rw [if_pos (ite_ne h5), if_pos h20]⟩
set_option maxRecDepth 100000 in
set_option maxHeartbeats 4000000 in
theorem c_SW_shut {w : zW} {s : Nat} (hx : zX w s) {H : Nat} (hH : zI w s 11 = nI H) (hH8 : H ≤ 8) (b t : Int32) (d : Nat) (hd : 1 ≤ d) : zS 0 0 d m_SW_shut (fun rv w1 => rv = some (.int (if hOK H b = true then (if (if (zI w 21 11 >>> (b &&& 31)) &&& 1 = 0 then 0 else 1) = t then 0 else 1) else 0)) ∧ w1 = (if hOK H b = true then (if (if (zI w 21 11 >>> (b &&& 31)) &&& 1 = 0 then 0 else 1) = t then w else zuI w (z2 (zI w) 21 11 (zI w 21 11 ^^^ (1 <<< (b &&& 31))))) else w)) 0 [(0, .ref 0), (1, .int b), (2, .int t)] [] w := by
  refine z_aload_n (pc := 0) (i := 0) (j := 0) rfl rfl rfl ?_
  refine z_iload_n (pc := 1) (i := 1) (j := 1) rfl rfl rfl ?_
  refine z_cV (pc := 2) (mc1 := 0) (ms1 := 0) (mc2 := 0) (ms2 := 0) (as := [.int b]) (rest := []) (o := 0) rfl rfl hx.1 ok_SW_isHouse rfl rfl cl_SW_72 (by omega) (Nat.le_of_ble_eq_true rfl) (Nat.le_of_ble_eq_true rfl) (Nat.le_refl _) (Nat.le_refl _) (c_SW_isHouse (w := w) hx hH hH8 b 0) (fun r1 w1 hp => ?_) rfl rfl
  obtain ⟨rfl, hw1⟩ := hp
  rw [hw1]
  refine ⟨⟨Nat.le_refl _, Or.inl rfl⟩, ?_⟩
  refine z_if_eq (pc := 5) (tgt := 23) rfl (by decide) (fun h5 => ?_) (fun h5 => ?_)
  · refine z_iconst (pc := 23) (v := 0) rfl (by decide) ?_
    exact z_zret (pc := 24) rfl rfl (by decide) ⟨by rw [if_neg (ite_eq h5)], by rw [if_neg (ite_eq h5)]⟩
  · refine z_aload_n (pc := 8) (i := 0) (j := 0) rfl rfl rfl ?_
    refine z_getR (pc := 9) (x := 21) rfl fl_SW_31 hx.1 rfl hx.2.2.2.2.1 ?_
    refine z_getI (pc := 12) rfl fl_SW_91 hx.2.2.2.2.2.2.2.2.2.2.2.2.1.1 rfl ?_
    refine z_iload_n (pc := 15) (i := 1) (j := 1) rfl rfl rfl ?_
    refine z_cS (pc := 16) (mc1 := 0) (ms1 := 0) (mc2 := 0) (ms2 := 0) (as := [.int (zI w 21 11), .int b]) (rest := []) ok_SW_hasBit rfl rfl cl_SW_100 (by omega) (Nat.le_of_ble_eq_true rfl) (Nat.le_of_ble_eq_true rfl) (Nat.le_refl _) (Nat.le_refl _) (c_SW_hasBit (zI w 21 11) b 0 _) (fun r1 w1 hp => ?_) rfl rfl
    obtain ⟨rfl, hw1⟩ := hp
    rw [hw1]
    refine ⟨⟨Nat.le_refl _, Or.inl rfl⟩, ?_⟩
    refine z_iload_n (pc := 19) (i := 2) (j := 2) rfl rfl rfl ?_
    refine z_icmp_ne (pc := 20) (tgt := 25) rfl (by decide) (fun h20 => ?_) (fun h20 => ?_)
    · refine z_aload_n (pc := 25) (i := 0) (j := 0) rfl rfl rfl ?_
      refine z_getR (pc := 26) (x := 21) rfl fl_SW_31 hx.1 rfl hx.2.2.2.2.1 ?_
      refine z_dup (pc := 29) rfl rfl ?_
      refine z_getI (pc := 30) rfl fl_SW_91 hx.2.2.2.2.2.2.2.2.2.2.2.2.1.1 rfl ?_
      refine z_iconst (pc := 33) (v := 1) rfl (by decide) ?_
      refine z_iload_n (pc := 34) (i := 1) (j := 1) rfl rfl rfl ?_
      refine z_ishl (pc := 35) rfl ?_
      refine z_ixor (pc := 36) rfl ?_
      refine z_putI (pc := 37) rfl fl_SW_91 hx.2.2.2.2.2.2.2.2.2.2.2.2.1.1 rfl  ?_
      refine z_iconst (pc := 40) (v := 1) rfl (by decide) ?_
      exact z_zret (pc := 41) rfl rfl (by decide) ⟨by rw [if_pos (ite_ne h5), if_neg h20], by rw [if_pos (ite_ne h5), if_neg h20]; rfl⟩
    · refine z_iconst (pc := 23) (v := 0) rfl (by decide) ?_
      exact z_zret (pc := 24) rfl rfl (by decide) ⟨by rw [if_pos (ite_ne h5), if_pos h20], by rw [if_pos (ite_ne h5), if_pos h20]⟩
set_option maxRecDepth 100000 in
set_option maxHeartbeats 4000000 in
theorem c_SW_clear {w : zW} {s : Nat} (hx : zX w s) (d : Nat) : zS 0 0 d m_SW_clear (fun rv w1 => rv = some (.int 1) ∧ w1 = zuI w (z2 (zI w) 21 12 0)) 0 [(0, .ref 0)] [] w := by
  refine z_aload_n (pc := 0) (i := 0) (j := 0) rfl rfl rfl ?_
  refine z_getR (pc := 1) (x := 21) rfl fl_SW_31 hx.1 rfl hx.2.2.2.2.1 ?_
  refine z_iconst (pc := 4) (v := 0) rfl (by decide) ?_
  refine z_putI (pc := 5) rfl fl_SW_198 hx.2.2.2.2.2.2.2.2.2.2.2.2.1.1 rfl  ?_
  refine z_iconst (pc := 8) (v := 1) rfl (by decide) ?_
  exact z_zret (pc := 9) rfl rfl (by decide) ⟨rfl, rfl⟩
def countV (f : Nat → Nat → Int32) (s : Nat) (x : Int32) : Int32 :=
  if x = 0 then f s 7 else if x = 1 then f s 8 else if x = 2 then f s 11 else if x = 3 then f 21 8 else if x = 4 then rsum (fun k => bitc (f 22 k)) 8 / 2 else if x = 5 then rsum (f 24) 64 else if x = 6 then rsum (f 26) 1152 else if x = 7 then f 21 12 else if x = 8 then f 1 1 else -1
set_option maxRecDepth 100000 in
set_option maxHeartbeats 4000000 in
theorem c_SW_count {w : zW} {s : Nat} (hx : zX w s) (x : Int32) (d : Nat) (hd : 2 ≤ d) : zS 0 0 d m_SW_count (fun rv w1 => rv = some (.int (countV (zI w) s x)) ∧ w1 = w) 0 [(0, .ref 0), (1, .int x)] [] w := by
  refine z_iload_n (pc := 0) (i := 1) (j := 1) rfl rfl rfl ?_
  by_cases hc1_0 : x = 0
  · refine z_tabIn (pc := 1) (off := 51) (tgt := 52) rfl (by rw [hc1_0]; decide) (by rw [hc1_0]; decide) (by rw [hc1_0]; rfl) (by decide) ?_
    refine z_aload_n (pc := 52) (i := 0) (j := 0) rfl rfl rfl ?_
    refine z_getR (pc := 53) (x := s) rfl fl_SW_48 hx.1 rfl hx.2.2.2.2.2.2.2.1 ?_
    refine z_getI (pc := 56) rfl fl_SW_249 hx.2.2.2.2.2.2.2.2.2.2.2.2.2.2.2.1.1 rfl ?_
    exact z_iret (pc := 59) rfl rfl ⟨by unfold countV; rw [if_pos hc1_0], rfl⟩
  by_cases hc1_1 : x = 1
  · refine z_tabIn (pc := 1) (off := 59) (tgt := 60) rfl (by rw [hc1_1]; decide) (by rw [hc1_1]; decide) (by rw [hc1_1]; rfl) (by decide) ?_
    refine z_aload_n (pc := 60) (i := 0) (j := 0) rfl rfl rfl ?_
    refine z_getR (pc := 61) (x := s) rfl fl_SW_48 hx.1 rfl hx.2.2.2.2.2.2.2.1 ?_
    refine z_getI (pc := 64) rfl fl_SW_252 hx.2.2.2.2.2.2.2.2.2.2.2.2.2.2.2.1.1 rfl ?_
    exact z_iret (pc := 67) rfl rfl ⟨by unfold countV; rw [if_neg hc1_0, if_pos hc1_1], rfl⟩
  by_cases hc1_2 : x = 2
  · refine z_tabIn (pc := 1) (off := 67) (tgt := 68) rfl (by rw [hc1_2]; decide) (by rw [hc1_2]; decide) (by rw [hc1_2]; rfl) (by decide) ?_
    refine z_aload_n (pc := 68) (i := 0) (j := 0) rfl rfl rfl ?_
    refine z_getR (pc := 69) (x := s) rfl fl_SW_48 hx.1 rfl hx.2.2.2.2.2.2.2.1 ?_
    refine z_getI (pc := 72) rfl fl_SW_171 hx.2.2.2.2.2.2.2.2.2.2.2.2.2.2.2.1.1 rfl ?_
    exact z_iret (pc := 75) rfl rfl ⟨by unfold countV; rw [if_neg hc1_0, if_neg hc1_1, if_pos hc1_2], rfl⟩
  by_cases hc1_3 : x = 3
  · refine z_tabIn (pc := 1) (off := 75) (tgt := 76) rfl (by rw [hc1_3]; decide) (by rw [hc1_3]; decide) (by rw [hc1_3]; rfl) (by decide) ?_
    refine z_aload_n (pc := 76) (i := 0) (j := 0) rfl rfl rfl ?_
    refine z_getR (pc := 77) (x := 21) rfl fl_SW_31 hx.1 rfl hx.2.2.2.2.1 ?_
    refine z_getI (pc := 80) rfl fl_SW_104 hx.2.2.2.2.2.2.2.2.2.2.2.2.1.1 rfl ?_
    exact z_iret (pc := 83) rfl rfl ⟨by unfold countV; rw [if_neg hc1_0, if_neg hc1_1, if_neg hc1_2, if_pos hc1_3], rfl⟩
  by_cases hc1_4 : x = 4
  · refine z_tabIn (pc := 1) (off := 83) (tgt := 84) rfl (by rw [hc1_4]; decide) (by rw [hc1_4]; decide) (by rw [hc1_4]; rfl) (by decide) ?_
    refine z_aload_n (pc := 84) (i := 0) (j := 0) rfl rfl rfl ?_
    refine z_getR (pc := 85) (x := 21) rfl fl_SW_31 hx.1 rfl hx.2.2.2.2.1 ?_
    refine z_getR (pc := 88) (x := 22) rfl fl_SW_94 hx.2.2.2.2.2.2.2.2.2.2.2.2.1.1 rfl hx.2.2.2.2.2.2.2.2.2.2.2.2.1.2.2.2.2.2.2.2.2.2.1 ?_
    refine z_cS (pc := 91) (mc1 := 0) (ms1 := 0) (mc2 := 0) (ms2 := 0) (as := [.ref 22]) (rest := []) ok_SW_pairsIn rfl rfl cl_SW_255 (by omega) (Nat.le_of_ble_eq_true rfl) (Nat.le_of_ble_eq_true rfl) (Nat.le_refl _) (Nat.le_refl _) (c_SW_pairsIn (w := w) (o := 22) (N := 8) hx.2.2.2.2.2.2.2.2.2.2.2.2.1.2.1 (by decide) 1 (by decide)) (fun r1 w1 hp => ?_) rfl rfl
    obtain ⟨rfl, hw1⟩ := hp
    rw [hw1]
    refine ⟨⟨Nat.le_refl _, Or.inl rfl⟩, ?_⟩
    exact z_iret (pc := 94) rfl rfl ⟨by unfold countV; rw [if_neg hc1_0, if_neg hc1_1, if_neg hc1_2, if_neg hc1_3, if_pos hc1_4], rfl⟩
  by_cases hc1_5 : x = 5
  · refine z_tabIn (pc := 1) (off := 94) (tgt := 95) rfl (by rw [hc1_5]; decide) (by rw [hc1_5]; decide) (by rw [hc1_5]; rfl) (by decide) ?_
    refine z_aload_n (pc := 95) (i := 0) (j := 0) rfl rfl rfl ?_
    refine z_getR (pc := 96) (x := 21) rfl fl_SW_31 hx.1 rfl hx.2.2.2.2.1 ?_
    refine z_getR (pc := 99) (x := 24) rfl fl_SW_152 hx.2.2.2.2.2.2.2.2.2.2.2.2.1.1 rfl hx.2.2.2.2.2.2.2.2.2.2.2.2.1.2.2.2.2.2.2.2.2.2.2.2.1 ?_
    refine z_cS (pc := 102) (mc1 := 0) (ms1 := 0) (mc2 := 0) (ms2 := 0) (as := [.ref 24]) (rest := []) ok_SW_sum rfl rfl cl_SW_258 (by omega) (Nat.le_of_ble_eq_true rfl) (Nat.le_of_ble_eq_true rfl) (Nat.le_refl _) (Nat.le_refl _) (c_SW_sum (w := w) (o := 24) (N := 64) hx.2.2.2.2.2.2.2.2.2.2.2.2.1.2.2.2.1 (by decide) 0) (fun r1 w1 hp => ?_) rfl rfl
    obtain ⟨rfl, hw1⟩ := hp
    rw [hw1]
    refine ⟨⟨Nat.le_refl _, Or.inl rfl⟩, ?_⟩
    exact z_iret (pc := 105) rfl rfl ⟨by unfold countV; rw [if_neg hc1_0, if_neg hc1_1, if_neg hc1_2, if_neg hc1_3, if_neg hc1_4, if_pos hc1_5], rfl⟩
  by_cases hc1_6 : x = 6
  · refine z_tabIn (pc := 1) (off := 105) (tgt := 106) rfl (by rw [hc1_6]; decide) (by rw [hc1_6]; decide) (by rw [hc1_6]; rfl) (by decide) ?_
    refine z_aload_n (pc := 106) (i := 0) (j := 0) rfl rfl rfl ?_
    refine z_getR (pc := 107) (x := 21) rfl fl_SW_31 hx.1 rfl hx.2.2.2.2.1 ?_
    refine z_getR (pc := 110) (x := 26) rfl fl_SW_161 hx.2.2.2.2.2.2.2.2.2.2.2.2.1.1 rfl hx.2.2.2.2.2.2.2.2.2.2.2.2.1.2.2.2.2.2.2.2.2.2.2.2.2.2.1 ?_
    refine z_cS (pc := 113) (mc1 := 0) (ms1 := 0) (mc2 := 0) (ms2 := 0) (as := [.ref 26]) (rest := []) ok_SW_sum rfl rfl cl_SW_258 (by omega) (Nat.le_of_ble_eq_true rfl) (Nat.le_of_ble_eq_true rfl) (Nat.le_refl _) (Nat.le_refl _) (c_SW_sum (w := w) (o := 26) (N := 1152) hx.2.2.2.2.2.2.2.2.2.2.2.2.1.2.2.2.2.2.1 (by decide) 0) (fun r1 w1 hp => ?_) rfl rfl
    obtain ⟨rfl, hw1⟩ := hp
    rw [hw1]
    refine ⟨⟨Nat.le_refl _, Or.inl rfl⟩, ?_⟩
    exact z_iret (pc := 116) rfl rfl ⟨by unfold countV; rw [if_neg hc1_0, if_neg hc1_1, if_neg hc1_2, if_neg hc1_3, if_neg hc1_4, if_neg hc1_5, if_pos hc1_6], rfl⟩
  by_cases hc1_7 : x = 7
  · refine z_tabIn (pc := 1) (off := 116) (tgt := 117) rfl (by rw [hc1_7]; decide) (by rw [hc1_7]; decide) (by rw [hc1_7]; rfl) (by decide) ?_
    refine z_aload_n (pc := 117) (i := 0) (j := 0) rfl rfl rfl ?_
    refine z_getR (pc := 118) (x := 21) rfl fl_SW_31 hx.1 rfl hx.2.2.2.2.1 ?_
    refine z_getI (pc := 121) rfl fl_SW_198 hx.2.2.2.2.2.2.2.2.2.2.2.2.1.1 rfl ?_
    exact z_iret (pc := 124) rfl rfl ⟨by unfold countV; rw [if_neg hc1_0, if_neg hc1_1, if_neg hc1_2, if_neg hc1_3, if_neg hc1_4, if_neg hc1_5, if_neg hc1_6, if_pos hc1_7], rfl⟩
  by_cases hc1_8 : x = 8
  · refine z_tabIn (pc := 1) (off := 124) (tgt := 125) rfl (by rw [hc1_8]; decide) (by rw [hc1_8]; decide) (by rw [hc1_8]; rfl) (by decide) ?_
    refine z_aload_n (pc := 125) (i := 0) (j := 0) rfl rfl rfl ?_
    refine z_getR (pc := 126) (x := 1) rfl fl_SW_20 hx.1 rfl hx.2.1 ?_
    refine z_getI (pc := 129) rfl fl_SW_58 hx.2.2.2.2.2.2.2.2.1 rfl ?_
    exact z_iret (pc := 132) rfl rfl ⟨by unfold countV; rw [if_neg hc1_0, if_neg hc1_1, if_neg hc1_2, if_neg hc1_3, if_neg hc1_4, if_neg hc1_5, if_neg hc1_6, if_neg hc1_7, if_pos hc1_8], rfl⟩
  have hn1_0 := lv_neT (a := 0) hc1_0 rfl
  have hn1_1 := lv_neT (a := 1) hc1_1 rfl
  have hn1_2 := lv_neT (a := 2) hc1_2 rfl
  have hn1_3 := lv_neT (a := 3) hc1_3 rfl
  have hn1_4 := lv_neT (a := 4) hc1_4 rfl
  have hn1_5 := lv_neT (a := 5) hc1_5 rfl
  have hn1_6 := lv_neT (a := 6) hc1_6 rfl
  have hn1_7 := lv_neT (a := 7) hc1_7 rfl
  have hn1_8 := lv_neT (a := 8) hc1_8 rfl
  refine z_tabOut (pc := 1) (tgt := 133) rfl (by omega) (by decide) ?_
  refine z_iconst (pc := 133) (v := (-1)) rfl (by decide) ?_
  exact z_iret (pc := 134) rfl rfl ⟨by unfold countV; rw [if_neg hc1_0, if_neg hc1_1, if_neg hc1_2, if_neg hc1_3, if_neg hc1_4, if_neg hc1_5, if_neg hc1_6, if_neg hc1_7, if_neg hc1_8], rfl⟩
def houseV (f : Nat → Nat → Int32) (s : Nat) (b x : Int32) : Int32 :=
  if x = 0 then f (s + 1) b.toNatClampNeg else if x = 1 then f (s + 2) b.toNatClampNeg else if x = 2 then f (s + 3) b.toNatClampNeg else if x = 3 then f (s + 4) b.toNatClampNeg else if x = 4 then (f 21 10 >>> (b &&& 31)) &&& 1 else if x = 5 then (f 21 11 >>> (b &&& 31)) &&& 1 else if x = 6 then f 22 b.toNatClampNeg else if x = 7 then f 25 b.toNatClampNeg else -1
set_option maxRecDepth 100000 in
set_option maxHeartbeats 4000000 in
theorem c_SW_house {w : zW} {s : Nat} (hx : zX w s) {H : Nat} (hH : zI w s 11 = nI H) (hH8 : H ≤ 8) (b x : Int32) (d : Nat) (hd : 1 ≤ d) : zS 0 0 d m_SW_house (fun rv w1 => rv = some (.int (if hOK H b = true then houseV (zI w) s b x else -1)) ∧ w1 = w) 0 [(0, .ref 0), (1, .int b), (2, .int x)] [] w := by
  refine z_aload_n (pc := 0) (i := 0) (j := 0) rfl rfl rfl ?_
  refine z_iload_n (pc := 1) (i := 1) (j := 1) rfl rfl rfl ?_
  refine z_cV (pc := 2) (mc1 := 0) (ms1 := 0) (mc2 := 0) (ms2 := 0) (as := [.int b]) (rest := []) (o := 0) rfl rfl hx.1 ok_SW_isHouse rfl rfl cl_SW_72 (by omega) (Nat.le_of_ble_eq_true rfl) (Nat.le_of_ble_eq_true rfl) (Nat.le_refl _) (Nat.le_refl _) (c_SW_isHouse (w := w) hx hH hH8 b 0) (fun r1 w1 hp => ?_) rfl rfl
  obtain ⟨rfl, hw1⟩ := hp
  rw [hw1]
  refine ⟨⟨Nat.le_refl _, Or.inl rfl⟩, ?_⟩
  refine z_if_ne (pc := 5) (tgt := 10) rfl (by decide) (fun h5 => ?_) (fun h5 => ?_)
  · have hbd : vp_in b 8 := by
      obtain ⟨j, hj, e⟩ := hOK_of hH8 (ite_ne h5)
      rw [e]; exact vp_in_nI (by omega) (by decide)
    refine z_iload_n (pc := 10) (i := 2) (j := 2) rfl rfl rfl ?_
    by_cases hc11_0 : x = 0
    · refine z_tabIn (pc := 11) (off := 45) (tgt := 56) rfl (by rw [hc11_0]; decide) (by rw [hc11_0]; decide) (by rw [hc11_0]; rfl) (by decide) ?_
      refine z_aload_n (pc := 56) (i := 0) (j := 0) rfl rfl rfl ?_
      refine z_getR (pc := 57) (x := s) rfl fl_SW_48 hx.1 rfl hx.2.2.2.2.2.2.2.1 ?_
      refine z_getR (pc := 60) (x := s + 1) rfl fl_SW_76 hx.2.2.2.2.2.2.2.2.2.2.2.2.2.2.2.1.1 rfl hx.2.2.2.2.2.2.2.2.2.2.2.2.2.2.2.1.2.2.2.2.2.2.1 ?_
      refine z_iload_n (pc := 63) (i := 1) (j := 1) rfl rfl rfl ?_
      refine z_iald (pc := 64) rfl hx.2.2.2.2.2.2.2.2.2.2.2.2.2.2.2.1.2.1 hbd ?_
      exact z_iret (pc := 65) rfl rfl ⟨by rw [if_pos (ite_ne h5)]; unfold houseV; rw [if_pos hc11_0], rfl⟩
    by_cases hc11_1 : x = 1
    · refine z_tabIn (pc := 11) (off := 55) (tgt := 66) rfl (by rw [hc11_1]; decide) (by rw [hc11_1]; decide) (by rw [hc11_1]; rfl) (by decide) ?_
      refine z_aload_n (pc := 66) (i := 0) (j := 0) rfl rfl rfl ?_
      refine z_getR (pc := 67) (x := s) rfl fl_SW_48 hx.1 rfl hx.2.2.2.2.2.2.2.1 ?_
      refine z_getR (pc := 70) (x := s + 2) rfl fl_SW_79 hx.2.2.2.2.2.2.2.2.2.2.2.2.2.2.2.1.1 rfl hx.2.2.2.2.2.2.2.2.2.2.2.2.2.2.2.1.2.2.2.2.2.2.2.1 ?_
      refine z_iload_n (pc := 73) (i := 1) (j := 1) rfl rfl rfl ?_
      refine z_iald (pc := 74) rfl hx.2.2.2.2.2.2.2.2.2.2.2.2.2.2.2.1.2.2.1 hbd ?_
      exact z_iret (pc := 75) rfl rfl ⟨by rw [if_pos (ite_ne h5)]; unfold houseV; rw [if_neg hc11_0, if_pos hc11_1], rfl⟩
    by_cases hc11_2 : x = 2
    · refine z_tabIn (pc := 11) (off := 65) (tgt := 76) rfl (by rw [hc11_2]; decide) (by rw [hc11_2]; decide) (by rw [hc11_2]; rfl) (by decide) ?_
      refine z_aload_n (pc := 76) (i := 0) (j := 0) rfl rfl rfl ?_
      refine z_getR (pc := 77) (x := s) rfl fl_SW_48 hx.1 rfl hx.2.2.2.2.2.2.2.1 ?_
      refine z_getR (pc := 80) (x := s + 3) rfl fl_SW_82 hx.2.2.2.2.2.2.2.2.2.2.2.2.2.2.2.1.1 rfl hx.2.2.2.2.2.2.2.2.2.2.2.2.2.2.2.1.2.2.2.2.2.2.2.2.1 ?_
      refine z_iload_n (pc := 83) (i := 1) (j := 1) rfl rfl rfl ?_
      refine z_iald (pc := 84) rfl hx.2.2.2.2.2.2.2.2.2.2.2.2.2.2.2.1.2.2.2.1 hbd ?_
      exact z_iret (pc := 85) rfl rfl ⟨by rw [if_pos (ite_ne h5)]; unfold houseV; rw [if_neg hc11_0, if_neg hc11_1, if_pos hc11_2], rfl⟩
    by_cases hc11_3 : x = 3
    · refine z_tabIn (pc := 11) (off := 75) (tgt := 86) rfl (by rw [hc11_3]; decide) (by rw [hc11_3]; decide) (by rw [hc11_3]; rfl) (by decide) ?_
      refine z_aload_n (pc := 86) (i := 0) (j := 0) rfl rfl rfl ?_
      refine z_getR (pc := 87) (x := s) rfl fl_SW_48 hx.1 rfl hx.2.2.2.2.2.2.2.1 ?_
      refine z_getR (pc := 90) (x := s + 4) rfl fl_SW_85 hx.2.2.2.2.2.2.2.2.2.2.2.2.2.2.2.1.1 rfl hx.2.2.2.2.2.2.2.2.2.2.2.2.2.2.2.1.2.2.2.2.2.2.2.2.2.1 ?_
      refine z_iload_n (pc := 93) (i := 1) (j := 1) rfl rfl rfl ?_
      refine z_iald (pc := 94) rfl hx.2.2.2.2.2.2.2.2.2.2.2.2.2.2.2.1.2.2.2.2.1 hbd ?_
      exact z_iret (pc := 95) rfl rfl ⟨by rw [if_pos (ite_ne h5)]; unfold houseV; rw [if_neg hc11_0, if_neg hc11_1, if_neg hc11_2, if_pos hc11_3], rfl⟩
    by_cases hc11_4 : x = 4
    · refine z_tabIn (pc := 11) (off := 85) (tgt := 96) rfl (by rw [hc11_4]; decide) (by rw [hc11_4]; decide) (by rw [hc11_4]; rfl) (by decide) ?_
      refine z_aload_n (pc := 96) (i := 0) (j := 0) rfl rfl rfl ?_
      refine z_getR (pc := 97) (x := 21) rfl fl_SW_31 hx.1 rfl hx.2.2.2.2.1 ?_
      refine z_getI (pc := 100) rfl fl_SW_88 hx.2.2.2.2.2.2.2.2.2.2.2.2.1.1 rfl ?_
      refine z_iload_n (pc := 103) (i := 1) (j := 1) rfl rfl rfl ?_
      refine z_ishr (pc := 104) rfl ?_
      refine z_iconst (pc := 105) (v := 1) rfl (by decide) ?_
      refine z_iand (pc := 106) rfl ?_
      exact z_iret (pc := 107) rfl rfl ⟨by rw [if_pos (ite_ne h5)]; unfold houseV; rw [if_neg hc11_0, if_neg hc11_1, if_neg hc11_2, if_neg hc11_3, if_pos hc11_4], rfl⟩
    by_cases hc11_5 : x = 5
    · refine z_tabIn (pc := 11) (off := 97) (tgt := 108) rfl (by rw [hc11_5]; decide) (by rw [hc11_5]; decide) (by rw [hc11_5]; rfl) (by decide) ?_
      refine z_aload_n (pc := 108) (i := 0) (j := 0) rfl rfl rfl ?_
      refine z_getR (pc := 109) (x := 21) rfl fl_SW_31 hx.1 rfl hx.2.2.2.2.1 ?_
      refine z_getI (pc := 112) rfl fl_SW_91 hx.2.2.2.2.2.2.2.2.2.2.2.2.1.1 rfl ?_
      refine z_iload_n (pc := 115) (i := 1) (j := 1) rfl rfl rfl ?_
      refine z_ishr (pc := 116) rfl ?_
      refine z_iconst (pc := 117) (v := 1) rfl (by decide) ?_
      refine z_iand (pc := 118) rfl ?_
      exact z_iret (pc := 119) rfl rfl ⟨by rw [if_pos (ite_ne h5)]; unfold houseV; rw [if_neg hc11_0, if_neg hc11_1, if_neg hc11_2, if_neg hc11_3, if_neg hc11_4, if_pos hc11_5], rfl⟩
    by_cases hc11_6 : x = 6
    · refine z_tabIn (pc := 11) (off := 109) (tgt := 120) rfl (by rw [hc11_6]; decide) (by rw [hc11_6]; decide) (by rw [hc11_6]; rfl) (by decide) ?_
      refine z_aload_n (pc := 120) (i := 0) (j := 0) rfl rfl rfl ?_
      refine z_getR (pc := 121) (x := 21) rfl fl_SW_31 hx.1 rfl hx.2.2.2.2.1 ?_
      refine z_getR (pc := 124) (x := 22) rfl fl_SW_94 hx.2.2.2.2.2.2.2.2.2.2.2.2.1.1 rfl hx.2.2.2.2.2.2.2.2.2.2.2.2.1.2.2.2.2.2.2.2.2.2.1 ?_
      refine z_iload_n (pc := 127) (i := 1) (j := 1) rfl rfl rfl ?_
      refine z_iald (pc := 128) rfl hx.2.2.2.2.2.2.2.2.2.2.2.2.1.2.1 hbd ?_
      exact z_iret (pc := 129) rfl rfl ⟨by rw [if_pos (ite_ne h5)]; unfold houseV; rw [if_neg hc11_0, if_neg hc11_1, if_neg hc11_2, if_neg hc11_3, if_neg hc11_4, if_neg hc11_5, if_pos hc11_6], rfl⟩
    by_cases hc11_7 : x = 7
    · refine z_tabIn (pc := 11) (off := 119) (tgt := 130) rfl (by rw [hc11_7]; decide) (by rw [hc11_7]; decide) (by rw [hc11_7]; rfl) (by decide) ?_
      refine z_aload_n (pc := 130) (i := 0) (j := 0) rfl rfl rfl ?_
      refine z_getR (pc := 131) (x := 21) rfl fl_SW_31 hx.1 rfl hx.2.2.2.2.1 ?_
      refine z_getR (pc := 134) (x := 25) rfl fl_SW_97 hx.2.2.2.2.2.2.2.2.2.2.2.2.1.1 rfl hx.2.2.2.2.2.2.2.2.2.2.2.2.1.2.2.2.2.2.2.2.2.2.2.2.2.1 ?_
      refine z_iload_n (pc := 137) (i := 1) (j := 1) rfl rfl rfl ?_
      refine z_iald (pc := 138) rfl hx.2.2.2.2.2.2.2.2.2.2.2.2.1.2.2.2.2.1 hbd ?_
      exact z_iret (pc := 139) rfl rfl ⟨by rw [if_pos (ite_ne h5)]; unfold houseV; rw [if_neg hc11_0, if_neg hc11_1, if_neg hc11_2, if_neg hc11_3, if_neg hc11_4, if_neg hc11_5, if_neg hc11_6, if_pos hc11_7], rfl⟩
    have hn11_0 := lv_neT (a := 0) hc11_0 rfl
    have hn11_1 := lv_neT (a := 1) hc11_1 rfl
    have hn11_2 := lv_neT (a := 2) hc11_2 rfl
    have hn11_3 := lv_neT (a := 3) hc11_3 rfl
    have hn11_4 := lv_neT (a := 4) hc11_4 rfl
    have hn11_5 := lv_neT (a := 5) hc11_5 rfl
    have hn11_6 := lv_neT (a := 6) hc11_6 rfl
    have hn11_7 := lv_neT (a := 7) hc11_7 rfl
    refine z_tabOut (pc := 11) (tgt := 140) rfl (by omega) (by decide) ?_
    refine z_iconst (pc := 140) (v := (-1)) rfl (by decide) ?_
    exact z_iret (pc := 141) rfl rfl ⟨by rw [if_pos (ite_ne h5)]; unfold houseV; rw [if_neg hc11_0, if_neg hc11_1, if_neg hc11_2, if_neg hc11_3, if_neg hc11_4, if_neg hc11_5, if_neg hc11_6, if_neg hc11_7], rfl⟩
  · refine z_iconst (pc := 8) (v := (-1)) rfl (by decide) ?_
    exact z_iret (pc := 9) rfl rfl ⟨by rw [if_neg (ite_eq h5)], rfl⟩
