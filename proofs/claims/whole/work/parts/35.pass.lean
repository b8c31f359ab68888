theorem hasB_t {x : Int32} {i : Nat} (h : ¬ (if (x >>> (nI i &&& 31)) &&& 1 = 0 then (0 : Int32) else 1) = 0) : hasB x i = true := by
  unfold hasB
  by_cases hb : (x >>> (nI i &&& 31)) &&& 1 = 0
  · exact absurd (if_pos hb) h
  · rw [decide_eq_false hb]; rfl
theorem hasB_f {x : Int32} {i : Nat} (h : (if (x >>> (nI i &&& 31)) &&& 1 = 0 then (0 : Int32) else 1) = 0) : ¬ hasB x i = true := by
  unfold hasB
  by_cases hb : (x >>> (nI i &&& 31)) &&& 1 = 0
  · rw [decide_eq_true hb]; exact fun z => by cases z
  · exact absurd (h.symm.trans (if_neg hb)) (by decide)
/-- the plumes that the air holds of the first n houses: at most 13 cells each, all in the field -/
def airOK (f : Nat → Nat → Int32) (a n : Nat) : Prop := ∀ h, h < n → ∃ c : Nat, c ≤ 13 ∧ f (a + 2) h = nI c ∧ ∀ k, k < c → ∃ p, p < 144 ∧ f (a + 3) (13 * h + k) = nI p
def priceV (k : Int32) : Int32 := if k = 1 then 1 else if k = 2 then 3 else 2
def turnV (a b : Int32) : Int32 := if a = -1 then 0 else if a = b then 0 else 1
def pass0 (f : Nat → Nat → Int32) (l a : Nat) (t : Int32) : Nat → Nat → Int32 := zr (if t = 0 then f else zr f (l + 2) (fillF (f (l + 2)) 0 64)) (l + 1) (wedR (f (l + 1)) (f (a + 1)) t 8)
def passA (f : Nat → Nat → Int32) (l h : Nat) : Nat → Nat → Int32 := zr (zr f (l + 2) (ageA (f (l + 1) h) h (f (l + 2), f (l + 3)) 8).1) (l + 3) (ageA (f (l + 1) h) h (f (l + 2), f (l + 3)) 8).2
def passB (f : Nat → Nat → Int32) (l a h : Nat) : Nat → Nat → Int32 := zr f (l + 5) (blkN (f (l + 5)) (f (a + 3)) h (f (a + 2) h).toNatClampNeg)
def passC (f : Nat → Nat → Int32) (l s h : Nat) : Nat → Nat → Int32 := z2 f (l + 4) h (f (l + 4) h + (if hasB (f l 10 &&& (f l 11 ^^^ -1)) h = true then priceV (f (s + 4) h) else f s 9))
def passN (f : Nat → Nat → Int32) (l s a : Nat) : Nat → Nat → Nat → Int32
  | 0 => f
  | i + 1 => passC (passB (passA (passN f l s a i) l i) l a i) l s i
def passM (f : Nat → Nat → Int32) (l s a H : Nat) (way : Int32) : Nat → Nat → Int32 := z2 (z2 (passN (pass0 f l a (turnV (f l 9) way)) l s a H) l 9 way) l 8 (f l 8 + 1)
theorem pass0_o (f : Nat → Nat → Int32) (l a : Nat) (t : Int32) {o : Nat} (h1 : o ≠ l + 1) (h2 : o ≠ l + 2) : pass0 f l a t o = f o := by
  unfold pass0
  rw [zr_o _ _ h1]
  split
  · rfl
  · rw [zr_o _ _ h2]
theorem passA_o (f : Nat → Nat → Int32) (l h : Nat) {o : Nat} (h2 : o ≠ l + 2) (h3 : o ≠ l + 3) : passA f l h o = f o := by unfold passA; rw [zr_o _ _ h3, zr_o _ _ h2]
theorem passB_o (f : Nat → Nat → Int32) (l a h : Nat) {o : Nat} (h5 : o ≠ l + 5) : passB f l a h o = f o := by unfold passB; rw [zr_o _ _ h5]
theorem passC_o (f : Nat → Nat → Int32) (l s h : Nat) {o : Nat} (h4 : o ≠ l + 4) : passC f l s h o = f o := by funext k; exact z2_o _ _ _ _ h4
theorem passN_o (f : Nat → Nat → Int32) (l s a : Nat) {o : Nat} (h2 : o ≠ l + 2) (h3 : o ≠ l + 3) (h4 : o ≠ l + 4) (h5 : o ≠ l + 5) : ∀ i, passN f l s a i o = f o
  | 0 => rfl
  | i + 1 => by
    show passC (passB (passA (passN f l s a i) l i) l a i) l s i o = f o
    rw [passC_o _ _ _ _ h4, passB_o _ _ _ _ h5, passA_o _ _ _ h2 h3]
    exact passN_o f l s a h2 h3 h4 h5 i
theorem passM_o (f : Nat → Nat → Int32) (l s a H : Nat) (way : Int32) {o : Nat} (h0 : o ≠ l) (h1 : o ≠ l + 1) (h2 : o ≠ l + 2) (h3 : o ≠ l + 3) (h4 : o ≠ l + 4) (h5 : o ≠ l + 5) : passM f l s a H way o = f o := by
  unfold passM
  funext k
  rw [z2_o _ _ _ _ h0, z2_o _ _ _ _ h0, passN_o _ _ _ _ h2 h3 h4 h5, pass0_o _ _ _ _ h1 h2]
set_option maxRecDepth 100000 in
set_option maxHeartbeats 4000000 in
theorem l_Life_pass {w : zW} {l s a H : Nat} (hl : zLf w l) (h : zSt w s) (ha : zAir w a) (hd1 : (s + 12 ≤ l ∨ l + 9 ≤ s) ∧ (s + 12 ≤ a ∨ a + 5 ≤ s) ∧ (l + 9 ≤ a ∨ a + 5 ≤ l)) (hH : zI w s 11 = nI H) (hH8 : H ≤ 8) (hair : airOK (zI w) a H) (way : Int32) (d : Nat) (hd : 3 ≤ d) : ∀ (m i : Nat), i ≤ H → H ≤ i + m → zS 0 0 d m_Life_pass (fun rv w1 => rv = none ∧ w1 = zuI w (passM (zI w) l s a H way)) 40 [(0, .ref l), (1, .ref s), (2, .int way), (3, .ref a), (4, .int (turnV (zI w l 9) way)), (5, .int (nI i))] [] (zuI w (passN (pass0 (zI w) l a (turnV (zI w l 9) way)) l s a i)) := by
  have hex : zS 0 0 d m_Life_pass (fun rv w1 => rv = none ∧ w1 = zuI w (passM (zI w) l s a H way)) 40 [(0, .ref l), (1, .ref s), (2, .int way), (3, .ref a), (4, .int (turnV (zI w l 9) way)), (5, .int (nI H))] [] (zuI w (passN (pass0 (zI w) l a (turnV (zI w l 9) way)) l s a H)) := by
    refine z_iload (pc := 40) (i := 5) (j := 5) rfl rfl ?_
    refine z_aload_n (pc := 42) (i := 1) (j := 1) rfl rfl rfl ?_
    refine z_getI (pc := 43) rfl fl_Life_80 h.1 rfl ?_
    refine z_eqi (y := nI H) ((congrFun ((passN_o _ _ _ _ (by omega) (by omega) (by omega) (by omega) _).trans (pass0_o _ _ _ _ (by omega) (by omega))) 11).trans hH) ?_
    refine z_icmp_ge (pc := 46) (tgt := 103) rfl (by decide) (fun h46 => ?_) (fun h46 => ?_)
    · refine z_aload_n (pc := 103) (i := 0) (j := 0) rfl rfl rfl ?_
      refine z_iload_n (pc := 104) (i := 2) (j := 2) rfl rfl rfl ?_
      refine z_putI (pc := 105) rfl fl_Life_49 hl.1 rfl  ?_
      refine z_aload_n (pc := 108) (i := 0) (j := 0) rfl rfl rfl ?_
      refine z_dup (pc := 109) rfl rfl ?_
      refine z_getI (pc := 110) rfl fl_Life_45 hl.1 rfl ?_
      refine z_eqi (y := zI w l 8) ((z2_k _ _ _ (by decide)).trans (congrFun ((passN_o _ _ _ _ (by omega) (by omega) (by omega) (by omega) _).trans (pass0_o _ _ _ _ (by omega) (by omega))) 8)) ?_
      refine z_iconst (pc := 113) (v := 1) rfl (by decide) ?_
      refine z_iadd (pc := 114) rfl ?_
      refine z_putI (pc := 115) rfl fl_Life_45 hl.1 rfl  ?_
      exact z_vret (pc := 118) rfl rfl ⟨rfl, rfl⟩
    · exact absurd (Int32.le_refl _) h46
  intro m
  induction m with
  | zero =>
    intro i hi hm
    obtain rfl : i = H := by omega
    exact hex
  | succ m ih =>
    intro i hi hm
    by_cases hlt : i < H
    · have kk := ih (i + 1) (by omega) (by omega)
      refine z_iload (pc := 40) (i := 5) (j := 5) rfl rfl ?_
      refine z_aload_n (pc := 42) (i := 1) (j := 1) rfl rfl rfl ?_
      refine z_getI (pc := 43) rfl fl_Life_80 h.1 rfl ?_
      refine z_eqi (y := nI H) ((congrFun ((passN_o _ _ _ _ (by omega) (by omega) (by omega) (by omega) _).trans (pass0_o _ _ _ _ (by omega) (by omega))) 11).trans hH) ?_
      refine z_icmp_ge (pc := 46) (tgt := 103) rfl (by decide) (fun h46 => ?_) (fun h46 => ?_)
      · exact absurd h46 (nI_ge (b := H) hlt (by omega))
      · obtain ⟨c, hc0, hc1, hc2⟩ := hair i hlt
        have eA2 : (passA (passN (pass0 (zI w) l a (turnV (zI w l 9) way)) l s a i) l i) (a + 2) i = zI w (a + 2) i := congrFun ((passA_o _ _ _ (by omega) (by omega)).trans ((passN_o _ _ _ _ (by omega) (by omega) (by omega) (by omega) _).trans (pass0_o _ _ _ _ (by omega) (by omega)))) i
        have eA3 : (passA (passN (pass0 (zI w) l a (turnV (zI w l 9) way)) l s a i) l i) (a + 3) = zI w (a + 3) := (passA_o _ _ _ (by omega) (by omega)).trans ((passN_o _ _ _ _ (by omega) (by omega) (by omega) (by omega) _).trans (pass0_o _ _ _ _ (by omega) (by omega)))
        refine z_aload_n (pc := 49) (i := 0) (j := 0) rfl rfl rfl ?_
        refine z_iload (pc := 50) (i := 5) (j := 5) rfl rfl ?_
        refine z_cV (pc := 52) (mc1 := 0) (ms1 := 0) (mc2 := 0) (ms2 := 0) (as := [.int (nI i)]) (rest := []) (o := l) rfl rfl hl.1 ok_Life_ageWeddings rfl rfl cl_Life_85 (by omega) (Nat.le_of_ble_eq_true rfl) (Nat.le_of_ble_eq_true rfl) (Nat.le_refl _) (Nat.le_refl _) (c_Life_ageWeddings (w := zuI w (passN (pass0 (zI w) l a (turnV (zI w l 9) way)) l s a i)) hl (hh := i) (by omega) 2 (by decide)) (fun r1 w1 hp => ?_) rfl rfl
        obtain ⟨rfl, hw1⟩ := hp
        rw [hw1]
        refine ⟨⟨Nat.le_refl _, Or.inl rfl⟩, ?_⟩
        refine z_aload_n (pc := 55) (i := 0) (j := 0) rfl rfl rfl ?_
        refine z_iload (pc := 56) (i := 5) (j := 5) rfl rfl ?_
        refine z_aload_n (pc := 58) (i := 3) (j := 3) rfl rfl rfl ?_
        refine z_cV (pc := 59) (mc1 := 0) (ms1 := 0) (mc2 := 0) (ms2 := 0) (as := [.int (nI i), .ref a]) (rest := []) (o := l) rfl rfl hl.1 ok_Life_blacken rfl rfl cl_Life_89 (by omega) (Nat.le_of_ble_eq_true rfl) (Nat.le_of_ble_eq_true rfl) (Nat.le_refl _) (Nat.le_refl _) (c_Life_blacken (w := zuI w (passA (passN (pass0 (zI w) l a (turnV (zI w l 9) way)) l s a i) l i)) (n := c) hl ha (by omega) (hh := i) (by omega) (eA2.trans hc1) hc0 (fun k hk => by obtain ⟨p, hp, e⟩ := hc2 k hk; exact ⟨p, hp, (congrFun eA3 _).trans e⟩) 0) (fun r1 w1 hp => ?_) rfl rfl
        obtain ⟨rfl, hw1⟩ := hp
        have eB : zr (zI (zuI w (passA (passN (pass0 (zI w) l a (turnV (zI w l 9) way)) l s a i) l i))) (l + 5) (blkN (zI (zuI w (passA (passN (pass0 (zI w) l a (turnV (zI w l 9) way)) l s a i) l i)) (l + 5)) (zI (zuI w (passA (passN (pass0 (zI w) l a (turnV (zI w l 9) way)) l s a i) l i)) (a + 3)) i c) = passB (passA (passN (pass0 (zI w) l a (turnV (zI w l 9) way)) l s a i) l i) l a i := by
          unfold passB
          rw [show (passA (passN (pass0 (zI w) l a (turnV (zI w l 9) way)) l s a i) l i) (a + 2) i = nI c from eA2.trans hc1, nI_clamp (by omega)]
          rfl
        rw [eB] at hw1
        rw [hw1]
        refine ⟨⟨Nat.le_refl _, Or.inl rfl⟩, ?_⟩
        refine z_aload_n (pc := 62) (i := 0) (j := 0) rfl rfl rfl ?_
        refine z_getR (pc := 63) (x := l + 4) rfl fl_Life_21 hl.1 rfl hl.2.2.2.2.2.2.2.2.2.2.2.2.1 ?_
        refine z_iload (pc := 66) (i := 5) (j := 5) rfl rfl ?_
        refine z_dup2 (pc := 68) rfl rfl rfl ?_
        refine z_iald (pc := 69) rfl hl.2.2.2.2.1 (vp_in_nI (by omega) (by decide)) ?_
        refine z_eqi (y := (passB (passA (passN (pass0 (zI w) l a (turnV (zI w l 9) way)) l s a i) l i) l a i) (l + 4) i) (by rw [nI_clamp (by omega)]; rfl) ?_
        refine z_aload_n (pc := 70) (i := 0) (j := 0) rfl rfl rfl ?_
        refine z_cV (pc := 71) (mc1 := 0) (ms1 := 0) (mc2 := 0) (ms2 := 0) (as := []) (rest := [.int ((passB (passA (passN (pass0 (zI w) l a (turnV (zI w l 9) way)) l s a i) l i) l a i) (l + 4) i), .int (nI i), .ref (l + 4)]) (o := l) rfl rfl hl.1 ok_Life_burning rfl rfl cl_Life_93 (by omega) (Nat.le_of_ble_eq_true rfl) (Nat.le_of_ble_eq_true rfl) (Nat.le_refl _) (Nat.le_refl _) (c_Life_burning (w := zuI w (passB (passA (passN (pass0 (zI w) l a (turnV (zI w l 9) way)) l s a i) l i) l a i)) hl 0) (fun r1 w1 hp => ?_) rfl rfl
        obtain ⟨rfl, hw1⟩ := hp
        rw [hw1]
        refine ⟨⟨Nat.le_refl _, Or.inl rfl⟩, ?_⟩
        refine z_iload (pc := 74) (i := 5) (j := 5) rfl rfl ?_
        refine z_cSN (pc := 76) (mc1 := 0) (ms1 := 0) (mc2 := 0) (ms2 := 0) (as := [.int (((passB (passA (passN (pass0 (zI w) l a (turnV (zI w l 9) way)) l s a i) l i) l a i) l 10) &&& (((passB (passA (passN (pass0 (zI w) l a (turnV (zI w l 9) way)) l s a i) l i) l a i) l 11) ^^^ (-1))), .int (nI i)]) (rest := [.int ((passB (passA (passN (pass0 (zI w) l a (turnV (zI w l 9) way)) l s a i) l i) l a i) (l + 4) i), .int (nI i), .ref (l + 4)]) ok_SW_hasBit rfl rfl cl_Life_97 (by omega) (Nat.le_of_ble_eq_true rfl) (Nat.le_of_ble_eq_true rfl) (Nat.le_refl _) (Nat.le_refl _) (c_SW_hasBit (((passB (passA (passN (pass0 (zI w) l a (turnV (zI w l 9) way)) l s a i) l i) l a i) l 10) &&& (((passB (passA (passN (pass0 (zI w) l a (turnV (zI w l 9) way)) l s a i) l i) l a i) l 11) ^^^ (-1))) (nI i) 0 _) (fun r1 w1 hp => ?_) rfl rfl
        obtain ⟨rfl, hw1⟩ := hp
        rw [hw1]
        refine ⟨⟨Nat.le_refl _, Or.inl rfl⟩, ?_⟩
        have j95 : ∀ v : Int32, (v = (if hasB (((passB (passA (passN (pass0 (zI w) l a (turnV (zI w l 9) way)) l s a i) l i) l a i) l 10) &&& (((passB (passA (passN (pass0 (zI w) l a (turnV (zI w l 9) way)) l s a i) l i) l a i) l 11) ^^^ (-1))) i = true then priceV ((passB (passA (passN (pass0 (zI w) l a (turnV (zI w l 9) way)) l s a i) l i) l a i) (s + 4) i) else (passB (passA (passN (pass0 (zI w) l a (turnV (zI w l 9) way)) l s a i) l i) l a i) s 9)) → zS 0 0 d m_Life_pass (fun rv w1 => rv = none ∧ w1 = zuI w (passM (zI w) l s a H way)) 95 [(0, .ref l), (1, .ref s), (2, .int way), (3, .ref a), (4, .int (turnV (zI w l 9) way)), (5, .int (nI i))] [.int v, .int ((passB (passA (passN (pass0 (zI w) l a (turnV (zI w l 9) way)) l s a i) l i) l a i) (l + 4) i), .int (nI i), .ref (l + 4)] (zuI w (passB (passA (passN (pass0 (zI w) l a (turnV (zI w l 9) way)) l s a i) l i) l a i)) := by
          intro v h_j95
          refine z_iadd (pc := 95) rfl ?_
          refine z_iast (pc := 96) rfl hl.2.2.2.2.1 (vp_in_nI (by omega) (by decide)) ?_
          refine z_iinc (pc := 97) (i := 5) (j := 5) (v := nI (i + 1)) (ls' := [(0, .ref l), (1, .ref s), (2, .int way), (3, .ref a), (4, .int (turnV (zI w l 9) way)), (5, .int (nI (i + 1)))]) rfl rfl (nI_1 i) (by decide) rfl ?_
          refine z_goto (pc := 100) (tgt := 40) rfl (by decide) ?_
          rw [nI_clamp (n := i) (by omega), h_j95]
          exact kk
        refine z_if_eq (pc := 79) (tgt := 91) rfl (by decide) (fun h79 => ?_) (fun h79 => ?_)
        · have hz := hasB_f h79
          refine z_aload_n (pc := 91) (i := 1) (j := 1) rfl rfl rfl ?_
          refine z_getI (pc := 92) rfl fl_Life_104 h.1 rfl ?_
          exact j95 _ (by rw [if_neg hz] <;> rfl)
        · have hz := hasB_t h79
          refine z_aload_n (pc := 82) (i := 1) (j := 1) rfl rfl rfl ?_
          refine z_iload (pc := 83) (i := 5) (j := 5) rfl rfl ?_
          refine z_cV (pc := 85) (mc1 := 0) (ms1 := 0) (mc2 := 0) (ms2 := 0) (as := [.int (nI i)]) (rest := [.int ((passB (passA (passN (pass0 (zI w) l a (turnV (zI w l 9) way)) l s a i) l i) l a i) (l + 4) i), .int (nI i), .ref (l + 4)]) (o := s) rfl rfl h.1 ok_Street_price rfl rfl cl_Life_100 (by omega) (Nat.le_of_ble_eq_true rfl) (Nat.le_of_ble_eq_true rfl) (Nat.le_refl _) (Nat.le_refl _) (c_Street_price (w := zuI w (passB (passA (passN (pass0 (zI w) l a (turnV (zI w l 9) way)) l s a i) l i) l a i)) h (i := i) (by omega) 0) (fun r1 w1 hp => ?_) rfl rfl
          obtain ⟨rfl, hw1⟩ := hp
          rw [hw1]
          refine ⟨⟨Nat.le_refl _, Or.inl rfl⟩, ?_⟩
          rw [nI_clamp (n := i) (by omega)]
          refine z_goto (pc := 88) (tgt := 95) rfl (by decide) ?_
          exact j95 _ (by rw [if_pos hz] <;> rfl)
    · obtain rfl : i = H := by omega
      exact hex
set_option maxRecDepth 100000 in
set_option maxHeartbeats 4000000 in
theorem c_Life_pass {w : zW} {l s a H : Nat} (hl : zLf w l) (h : zSt w s) (ha : zAir w a) (hd1 : (s + 12 ≤ l ∨ l + 9 ≤ s) ∧ (s + 12 ≤ a ∨ a + 5 ≤ s) ∧ (l + 9 ≤ a ∨ a + 5 ≤ l)) (hH : zI w s 11 = nI H) (hH8 : H ≤ 8) (hair : airOK (zI w) a H) (way : Int32) (d : Nat) (hd : 3 ≤ d) : zS 0 0 d m_Life_pass (fun rv w1 => rv = none ∧ w1 = zuI w (passM (zI w) l s a H way)) 0 [(0, .ref l), (1, .ref s), (2, .int way), (3, .ref a)] [] w := by
  refine z_aload_n (pc := 0) (i := 0) (j := 0) rfl rfl rfl ?_
  refine z_getI (pc := 1) rfl fl_Life_49 hl.1 rfl ?_
  refine z_iload_n (pc := 4) (i := 2) (j := 2) rfl rfl rfl ?_
  refine z_cSN (pc := 5) (mc1 := 0) (ms1 := 0) (mc2 := 0) (ms2 := 0) (as := [.int (zI w l 9), .int way]) (rest := []) ok_SW_turns rfl rfl cl_Life_67 (by omega) (Nat.le_of_ble_eq_true rfl) (Nat.le_of_ble_eq_true rfl) (Nat.le_refl _) (Nat.le_refl _) (c_SW_turns (zI w l 9) way 0 _) (fun r1 w1 hp => ?_) rfl rfl
  obtain ⟨rfl, hw1⟩ := hp
  rw [hw1]
  refine ⟨⟨Nat.le_refl _, Or.inl rfl⟩, ?_⟩
  refine z_istore (pc := 8) (i := 4) (ls' := [(0, .ref l), (1, .ref s), (2, .int way), (3, .ref a), (4, .int (turnV (zI w l 9) way))]) rfl (by decide) rfl ?_
  refine z_iload (pc := 10) (i := 4) (j := 4) rfl rfl ?_
  refine z_if_eq (pc := 12) (tgt := 23) rfl (by decide) (fun h12 => ?_) (fun h12 => ?_)
  · refine z_aload_n (pc := 23) (i := 0) (j := 0) rfl rfl rfl ?_
    refine z_getR (pc := 24) (x := l + 1) rfl fl_Life_9 hl.1 rfl hl.2.2.2.2.2.2.2.2.2.1 ?_
    refine z_iload (pc := 27) (i := 4) (j := 4) rfl rfl ?_
    refine z_aload_n (pc := 29) (i := 3) (j := 3) rfl rfl rfl ?_
    refine z_getR (pc := 30) (x := a + 1) rfl fl_Life_71 ha.1 rfl ha.2.2.2.2.2.1 ?_
    refine z_cSN (pc := 33) (mc1 := 0) (ms1 := 0) (mc2 := 0) (ms2 := 0) (as := [.ref (l + 1), .int (turnV (zI w l 9) way), .ref (a + 1)]) (rest := []) ok_SW_wed rfl rfl cl_Life_76 (by omega) (Nat.le_of_ble_eq_true rfl) (Nat.le_of_ble_eq_true rfl) (Nat.le_refl _) (Nat.le_refl _) (c_SW_wed (w := w) (o := l + 1) (q := a + 1) hl.2.1 ha.2.1 (by omega) (turnV (zI w l 9) way) 1 (by decide)) (fun r1 w1 hp => ?_) rfl rfl
    obtain ⟨rfl, hw1⟩ := hp
    have eW : zr (zI (w)) (l + 1) (wedR (zI (w) (l + 1)) (zI (w) (a + 1)) (turnV (zI w l 9) way) 8) = pass0 (zI w) l a (turnV (zI w l 9) way) := by
      unfold pass0
      rw [if_pos h12]
    rw [eW] at hw1
    rw [hw1]
    refine ⟨⟨Nat.le_refl _, Or.inl rfl⟩, ?_⟩
    refine z_pop (pc := 36) rfl rfl ?_
    refine z_iconst (pc := 37) (v := 0) rfl (by decide) ?_
    refine z_istore (pc := 38) (i := 5) (ls' := [(0, .ref l), (1, .ref s), (2, .int way), (3, .ref a), (4, .int (turnV (zI w l 9) way)), (5, .int 0)]) rfl (by decide) rfl ?_
    exact l_Life_pass hl h ha hd1 hH hH8 hair way d hd H 0 (by omega) (by omega)
  · refine z_aload_n (pc := 15) (i := 0) (j := 0) rfl rfl rfl ?_
    refine z_getR (pc := 16) (x := l + 2) rfl fl_Life_15 hl.1 rfl hl.2.2.2.2.2.2.2.2.2.2.1 ?_
    refine z_iconst (pc := 19) (v := 0) rfl (by decide) ?_
    refine z_cS (pc := 20) (mc1 := 0) (ms1 := 0) (mc2 := 0) (ms2 := 0) (as := [.ref (l + 2), .int 0]) (rest := []) ok_Arrays_fill rfl rfl cl_Life_39 (by omega) (Nat.le_of_ble_eq_true rfl) (Nat.le_of_ble_eq_true rfl) (Nat.le_refl _) (Nat.le_refl _) (c_Arrays_fill (w := w) (o := l + 2) (N := 64) hl.2.2.1 (by decide) 0 0) (fun r1 w1 hp => ?_) rfl rfl
    obtain ⟨rfl, hw1⟩ := hp
    rw [hw1]
    refine ⟨⟨Nat.le_refl _, Or.inl rfl⟩, ?_⟩
    refine z_aload_n (pc := 23) (i := 0) (j := 0) rfl rfl rfl ?_
    refine z_getR (pc := 24) (x := l + 1) rfl fl_Life_9 hl.1 rfl hl.2.2.2.2.2.2.2.2.2.1 ?_
    refine z_iload (pc := 27) (i := 4) (j := 4) rfl rfl ?_
    refine z_aload_n (pc := 29) (i := 3) (j := 3) rfl rfl rfl ?_
    refine z_getR (pc := 30) (x := a + 1) rfl fl_Life_71 ha.1 rfl ha.2.2.2.2.2.1 ?_
    refine z_cSN (pc := 33) (mc1 := 0) (ms1 := 0) (mc2 := 0) (ms2 := 0) (as := [.ref (l + 1), .int (turnV (zI w l 9) way), .ref (a + 1)]) (rest := []) ok_SW_wed rfl rfl cl_Life_76 (by omega) (Nat.le_of_ble_eq_true rfl) (Nat.le_of_ble_eq_true rfl) (Nat.le_refl _) (Nat.le_refl _) (c_SW_wed (w := zuI w (zr (zI w) (l + 2) (fillF (zI w (l + 2)) 0 64))) (o := l + 1) (q := a + 1) hl.2.1 ha.2.1 (by omega) (turnV (zI w l 9) way) 1 (by decide)) (fun r1 w1 hp => ?_) rfl rfl
    obtain ⟨rfl, hw1⟩ := hp
    have eW : zr (zI (zuI w (zr (zI w) (l + 2) (fillF (zI w (l + 2)) 0 64)))) (l + 1) (wedR (zI (zuI w (zr (zI w) (l + 2) (fillF (zI w (l + 2)) 0 64))) (l + 1)) (zI (zuI w (zr (zI w) (l + 2) (fillF (zI w (l + 2)) 0 64))) (a + 1)) (turnV (zI w l 9) way) 8) = pass0 (zI w) l a (turnV (zI w l 9) way) := by
      unfold pass0
      rw [if_neg h12]
      show zr (zr (zI w) (l + 2) _) (l + 1) (wedR (zr (zI w) (l + 2) _ (l + 1)) (zr (zI w) (l + 2) _ (a + 1)) _ 8) = _
      rw [(zr_o _ _ (show l + 1 ≠ l + 2 by omega)), (zr_o _ _ (show a + 1 ≠ l + 2 by omega))]
    rw [eW] at hw1
    rw [hw1]
    refine ⟨⟨Nat.le_refl _, Or.inl rfl⟩, ?_⟩
    refine z_pop (pc := 36) rfl rfl ?_
    refine z_iconst (pc := 37) (v := 0) rfl (by decide) ?_
    refine z_istore (pc := 38) (i := 5) (ls' := [(0, .ref l), (1, .ref s), (2, .int way), (3, .ref a), (4, .int (turnV (zI w l 9) way)), (5, .int 0)]) rfl (by decide) rfl ?_
    exact l_Life_pass hl h ha hd1 hH hH8 hair way d hd H 0 (by omega) (by omega)
