theorem rise0_c {f g : Nat → Nat → Int32} {a j : Nat} (e : ∀ o, o ≠ j → f o = g o) (hj : j ≠ a + 1 ∧ j ≠ a + 2 ∧ j ≠ a + 4) : ∀ o, o ≠ j → rise0 f a o = rise0 g a o := by
  obtain ⟨j1, j2, j3⟩ := hj
  intro o ho
  unfold rise0
  rw [e _ (Ne.symm j1), e _ (Ne.symm j2), e _ (Ne.symm j3)]
  unfold zr
  rw [e o ho]
theorem riseM_c {f g : Nat → Nat → Int32} {a s C R yv j : Nat} {G : Int32 → Int32 → Int32 → Int32} {hour burn : Int32} (e : ∀ o, o ≠ j → f o = g o) (hj : j ≠ s + 4 ∧ j ≠ s + 1 ∧ j ≠ s + 2 ∧ j ≠ s + 3 ∧ j ≠ a + 1 ∧ j ≠ a + 2 ∧ j ≠ a + 3 ∧ j ≠ a + 4) : ∀ i o, o ≠ j → riseM f a s C R yv G hour burn i o = riseM g a s C R yv G hour burn i o
  | 0, o, ho => rise0_c e (by omega) o ho
  | i + 1, o, ho => by
    rw [riseM_s, riseM_s]
    have ih := riseM_c (f := f) (g := g) (a := a) (s := s) (C := C) (R := R) (yv := yv) (G := G) (hour := hour) (burn := burn) e hj i
    rw [e (s + 4) (by omega), e (s + 3) (by omega)]
    split
    · exact layFin_c ih (by omega) o ho
    · exact ih o ho
/-- what the asks need of the ints: the field, the houses, the two laws -/
def zXi (f : Nat → Nat → Int32) (s C R H : Nat) (F G : Int32 → Int32 → Int32 → Int32) : Prop := f s 7 = nI C ∧ f s 8 = nI R ∧ f s 11 = nI H ∧ C ≤ 12 ∧ R ≤ 12 ∧ H ≤ 8 ∧ zLaw f (s + 6) F ∧ zLaw f (s + 9) G
theorem zXi_c {f g : Nat → Nat → Int32} {s C R H : Nat} {F G : Int32 → Int32 → Int32 → Int32} (h : zXi f s C R H F G) (e0 : g s = f s) (e6 : g (s + 6) = f (s + 6)) (e7 : g (s + 7) = f (s + 7)) (e9 : g (s + 9) = f (s + 9)) (e10 : g (s + 10) = f (s + 10)) : zXi g s C R H F G := by
  obtain ⟨h1, h2, h3, h4, h5, h6, h7, h8⟩ := h
  exact ⟨by rw [e0]; exact h1, by rw [e0]; exact h2, by rw [e0]; exact h3, h4, h5, h6, zLaw_congr h7 e6 e7, zLaw_congr h8 e9 e10⟩
set_option maxRecDepth 100000 in
set_option maxHeartbeats 4000000 in
theorem c_SW_rise {w : zW} {s C R H : Nat} {F G : Int32 → Int32 → Int32 → Int32} (hx : zX w s) (hi : zXi (zI w) s C R H F G) (b u : Int32) (d : Nat) (hd : 4 ≤ d) : zS 0 0 d m_SW_rise (fun rv w1 => ∃ f yv, w1 = zuI w f ∧ yv < 8 ∧ fmod8 (F (zI w 21 8 + b) 0 0) = nI yv ∧ rv = some (.int (nI yv)) ∧ ∀ o, o ≠ s + 8 → o ≠ s + 11 → f o = riseM (zI w) 16 s C R yv G (zI w 21 8 + b) u H o) 0 [(0, .ref 0), (1, .int b), (2, .int u)] [] w := by
  refine z_aload_n (pc := 0) (i := 0) (j := 0) rfl rfl rfl ?_
  refine z_getR (pc := 1) (x := s) rfl fl_SW_48 hx.1 rfl hx.2.2.2.2.2.2.2.1 ?_
  refine z_aload_n (pc := 4) (i := 0) (j := 0) rfl rfl rfl ?_
  refine z_getR (pc := 5) (x := 21) rfl fl_SW_31 hx.1 rfl hx.2.2.2.2.1 ?_
  refine z_getI (pc := 8) rfl fl_SW_104 hx.2.2.2.2.2.2.2.2.2.2.2.2.1.1 rfl ?_
  refine z_iload_n (pc := 11) (i := 1) (j := 1) rfl rfl rfl ?_
  refine z_iadd (pc := 12) rfl ?_
  refine z_cV (pc := 13) (mc1 := 0) (ms1 := 0) (mc2 := 0) (ms2 := 0) (as := [.int ((zI w 21 8) + b)]) (rest := []) (o := s) rfl rfl hx.2.2.2.2.2.2.2.2.2.2.2.2.2.2.2.1.1 ok_Street_windIn rfl rfl cl_SW_107 (by omega) (Nat.le_of_ble_eq_true rfl) (Nat.le_of_ble_eq_true rfl) (Nat.le_refl _) (Nat.le_refl _) (c_Street_windIn (w := w) (hx.2.2.2.2.2.2.2.2.2.2.2.2.2.2.2.1) hi.2.2.2.2.2.2.1 (zI w 21 8 + b) 2 (by decide)) (fun r1 w1 hp => ?_) rfl rfl
  obtain ⟨f1, hw1, rfl, hf1⟩ := hp
  rw [hw1]
  refine ⟨⟨Nat.le_refl _, Or.inl rfl⟩, ?_⟩
  obtain ⟨yv, hy, hyv⟩ := fmod8_n (F (zI w 21 8 + b) 0 0)
  rw [hyv]
  have hss := (hx.2.2.2.2.2.2.2.2.2.2.2.2.2.2.2.2)
  have hi1 : zXi f1 s C R H F G := zXi_c hi (hf1 _ (by omega)) (hf1 _ (by omega)) (hf1 _ (by omega)) (hf1 _ (by omega)) (hf1 _ (by omega))
  refine z_istore_n (pc := 16) (i := 3) (ls' := [(0, .ref 0), (1, .int b), (2, .int u), (3, .int (nI yv))]) rfl rfl (by decide) rfl ?_
  refine z_aload_n (pc := 17) (i := 0) (j := 0) rfl rfl rfl ?_
  refine z_getR (pc := 18) (x := 16) rfl fl_SW_24 hx.1 rfl hx.2.2.2.1 ?_
  refine z_aload_n (pc := 21) (i := 0) (j := 0) rfl rfl rfl ?_
  refine z_getR (pc := 22) (x := s) rfl fl_SW_48 hx.1 rfl hx.2.2.2.2.2.2.2.1 ?_
  refine z_aload_n (pc := 25) (i := 0) (j := 0) rfl rfl rfl ?_
  refine z_getR (pc := 26) (x := 21) rfl fl_SW_31 hx.1 rfl hx.2.2.2.2.1 ?_
  refine z_getI (pc := 29) rfl fl_SW_104 hx.2.2.2.2.2.2.2.2.2.2.2.2.1.1 rfl ?_
  refine z_eqi (y := zI w 21 8) (congrFun (hf1 21 (by omega)) 8) ?_
  refine z_iload_n (pc := 32) (i := 1) (j := 1) rfl rfl rfl ?_
  refine z_iadd (pc := 33) rfl ?_
  refine z_iload_n (pc := 34) (i := 3) (j := 3) rfl rfl rfl ?_
  refine z_iload_n (pc := 35) (i := 2) (j := 2) rfl rfl rfl ?_
  refine z_cV (pc := 36) (mc1 := 0) (ms1 := 0) (mc2 := 0) (ms2 := 0) (as := [.ref s, .int ((zI w 21 8) + b), .int (nI yv), .int u]) (rest := []) (o := 16) rfl rfl hx.2.2.2.2.2.2.2.2.2.2.2.1.1 ok_Smoke_rise rfl rfl cl_SW_136 (by omega) (Nat.le_of_ble_eq_true rfl) (Nat.le_of_ble_eq_true rfl) (Nat.le_refl _) (Nat.le_refl _) (c_Smoke_rise (w := zuI w f1) (a := 16) (s := s) (C := C) (R := R) (H := H) (G := G) (hx.2.2.2.2.2.2.2.2.2.2.2.1) (hx.2.2.2.2.2.2.2.2.2.2.2.2.2.2.2.1) hi1.2.2.2.2.2.2.2 hi1.1 hi1.2.1 hi1.2.2.1 hi1.2.2.2.1 hi1.2.2.2.2.1 hi1.2.2.2.2.2.1 (by omega) (zI w 21 8 + b) u hy 3 (by decide)) (fun r1 w1 hp => ?_) rfl rfl
  obtain ⟨f2, hw2, rfl, hf2⟩ := hp
  rw [hw2]
  refine ⟨⟨Nat.le_refl _, Or.inl rfl⟩, ?_⟩
  refine z_iload_n (pc := 39) (i := 3) (j := 3) rfl rfl rfl ?_
  exact z_iret (pc := 40) rfl rfl ⟨f2, yv, rfl, hy, rfl, rfl, fun o h8 h11 => (hf2 o h11).trans (riseM_c hf1 (by omega) H o h8)⟩
def lenLit (f : Nat → Nat → Int32) (s : Nat) (F G : Int32 → Int32 → Int32 → Int32) (i : Nat) : Int32 := if (f 21 11 >>> (nI i &&& 31)) &&& 1 = 0 then plenK (f (s + 4) i) (G (f 21 8) (f (s + 3) i) (fmod8 (F (f 21 8) 0 0))) else 0
set_option maxRecDepth 100000 in
set_option maxHeartbeats 4000000 in
theorem c_SW_lengthIfLit {w : zW} {s C R H : Nat} {F G : Int32 → Int32 → Int32 → Int32} (hx : zX w s) (hi : zXi (zI w) s C R H F G) {i : Nat} (h8 : i < 8) (d : Nat) (hd : 3 ≤ d) : zS 0 0 d m_SW_lengthIfLit (fun rv w1 => ∃ f, w1 = zuI w f ∧ rv = some (.int (lenLit (zI w) s F G i)) ∧ ∀ o, o ≠ s + 8 → o ≠ s + 11 → f o = zI w o) 0 [(0, .ref 0), (1, .int (nI i))] [] w := by
  refine z_aload_n (pc := 0) (i := 0) (j := 0) rfl rfl rfl ?_
  refine z_getR (pc := 1) (x := 21) rfl fl_SW_31 hx.1 rfl hx.2.2.2.2.1 ?_
  refine z_getI (pc := 4) rfl fl_SW_91 hx.2.2.2.2.2.2.2.2.2.2.2.2.1.1 rfl ?_
  refine z_iload_n (pc := 7) (i := 1) (j := 1) rfl rfl rfl ?_
  refine z_cS (pc := 8) (mc1 := 0) (ms1 := 0) (mc2 := 0) (ms2 := 0) (as := [.int (zI w 21 11), .int (nI i)]) (rest := []) ok_SW_hasBit rfl rfl cl_SW_100 (by omega) (Nat.le_of_ble_eq_true rfl) (Nat.le_of_ble_eq_true rfl) (Nat.le_refl _) (Nat.le_refl _) (c_SW_hasBit (zI w 21 11) (nI i) 0 _) (fun r1 w1 hp => ?_) rfl rfl
  obtain ⟨rfl, hw1⟩ := hp
  rw [hw1]
  refine ⟨⟨Nat.le_refl _, Or.inl rfl⟩, ?_⟩
  refine z_if_eq (pc := 11) (tgt := 18) rfl (by decide) (fun h11 => ?_) (fun h11 => ?_)
  · have hz : (zI w 21 11 >>> (nI i &&& 31)) &&& 1 = 0 := by
      by_cases hb : (zI w 21 11 >>> (nI i &&& 31)) &&& 1 = 0
      · exact hb
      · rw [if_neg hb] at h11; exact absurd h11 (by decide)
    refine z_aload_n (pc := 18) (i := 0) (j := 0) rfl rfl rfl ?_
    refine z_getR (pc := 19) (x := s) rfl fl_SW_48 hx.1 rfl hx.2.2.2.2.2.2.2.1 ?_
    refine z_iload_n (pc := 22) (i := 1) (j := 1) rfl rfl rfl ?_
    refine z_aload_n (pc := 23) (i := 0) (j := 0) rfl rfl rfl ?_
    refine z_getR (pc := 24) (x := 21) rfl fl_SW_31 hx.1 rfl hx.2.2.2.2.1 ?_
    refine z_getI (pc := 27) rfl fl_SW_104 hx.2.2.2.2.2.2.2.2.2.2.2.2.1.1 rfl ?_
    refine z_aload_n (pc := 30) (i := 0) (j := 0) rfl rfl rfl ?_
    refine z_getR (pc := 31) (x := s) rfl fl_SW_48 hx.1 rfl hx.2.2.2.2.2.2.2.1 ?_
    refine z_aload_n (pc := 34) (i := 0) (j := 0) rfl rfl rfl ?_
    refine z_getR (pc := 35) (x := 21) rfl fl_SW_31 hx.1 rfl hx.2.2.2.2.1 ?_
    refine z_getI (pc := 38) rfl fl_SW_104 hx.2.2.2.2.2.2.2.2.2.2.2.2.1.1 rfl ?_
    refine z_cV (pc := 41) (mc1 := 0) (ms1 := 0) (mc2 := 0) (ms2 := 0) (as := [.int (zI w 21 8)]) (rest := [.int (zI w 21 8), .int (nI i), .ref s]) (o := s) rfl rfl hx.2.2.2.2.2.2.2.2.2.2.2.2.2.2.2.1.1 ok_Street_windIn rfl rfl cl_SW_107 (by omega) (Nat.le_of_ble_eq_true rfl) (Nat.le_of_ble_eq_true rfl) (Nat.le_refl _) (Nat.le_refl _) (c_Street_windIn (w := w) (hx.2.2.2.2.2.2.2.2.2.2.2.2.2.2.2.1) hi.2.2.2.2.2.2.1 (zI w 21 8) 2 (by decide)) (fun r1 w1 hp => ?_) rfl rfl
    obtain ⟨f1, hw1, rfl, hf1⟩ := hp
    rw [hw1]
    refine ⟨⟨Nat.le_refl _, Or.inl rfl⟩, ?_⟩
    have hss := (hx.2.2.2.2.2.2.2.2.2.2.2.2.2.2.2.2)
    refine z_cV (pc := 44) (mc1 := 0) (ms1 := 0) (mc2 := 0) (ms2 := 0) (as := [.int (nI i), .int (zI w 21 8), .int (fmod8 (F (zI w 21 8) 0 0))]) (rest := []) (o := s) rfl rfl hx.2.2.2.2.2.2.2.2.2.2.2.2.2.2.2.1.1 ok_Street_plumeLength rfl rfl cl_SW_261 (by omega) (Nat.le_of_ble_eq_true rfl) (Nat.le_of_ble_eq_true rfl) (Nat.le_refl _) (Nat.le_refl _) (c_Street_plumeLength (w := zuI w f1) (hx.2.2.2.2.2.2.2.2.2.2.2.2.2.2.2.1) (zLaw_congr hi.2.2.2.2.2.2.2 (hf1 _ (by omega)) (hf1 _ (by omega))) (i := i) h8 (zI w 21 8) (fmod8 (F (zI w 21 8) 0 0)) 2 (by decide)) (fun r1 w1 hp => ?_) rfl rfl
    obtain ⟨f2, hw2, rfl, hf2⟩ := hp
    rw [hw2]
    refine ⟨⟨Nat.le_refl _, Or.inl rfl⟩, ?_⟩
    rw [show zI (zuI w f1) (s + 4) = zI w (s + 4) from hf1 _ (by omega), show zI (zuI w f1) (s + 3) = zI w (s + 3) from hf1 _ (by omega)]
    exact z_iret (pc := 47) rfl rfl ⟨f2, rfl, by unfold lenLit; rw [if_pos hz], fun o h8 h11 => (hf2 o h11).trans (hf1 o h8)⟩
  · have hz : ¬ (zI w 21 11 >>> (nI i &&& 31)) &&& 1 = 0 := fun hb => h11 (if_pos hb)
    refine z_iconst (pc := 14) (v := 0) rfl (by decide) ?_
    refine z_goto (pc := 15) (tgt := 47) rfl (by decide) ?_
    exact z_iret (pc := 47) rfl rfl ⟨zI w, rfl, by unfold lenLit; rw [if_neg hz], fun _ _ _ => rfl⟩
set_option maxRecDepth 100000 in
set_option maxHeartbeats 4000000 in
theorem c_SW_plume {w : zW} {s C R H : Nat} {F G : Int32 → Int32 → Int32 → Int32} (hx : zX w s) (hi : zXi (zI w) s C R H F G) (b : Int32) (d : Nat) (hd : 4 ≤ d) : zS 0 0 d m_SW_plume (fun rv w1 => ∃ f, w1 = zuI w f ∧ rv = some (.int (if hOK H b = true then lenLit (zI w) s F G b.toNatClampNeg else -1)) ∧ ∀ o, o ≠ s + 8 → o ≠ s + 11 → f o = zI w o) 0 [(0, .ref 0), (1, .int b)] [] w := by
  refine z_aload_n (pc := 0) (i := 0) (j := 0) rfl rfl rfl ?_
  refine z_iload_n (pc := 1) (i := 1) (j := 1) rfl rfl rfl ?_
  refine z_cV (pc := 2) (mc1 := 0) (ms1 := 0) (mc2 := 0) (ms2 := 0) (as := [.int b]) (rest := []) (o := 0) rfl rfl hx.1 ok_SW_isHouse rfl rfl cl_SW_72 (by omega) (Nat.le_of_ble_eq_true rfl) (Nat.le_of_ble_eq_true rfl) (Nat.le_refl _) (Nat.le_refl _) (c_SW_isHouse (w := w) hx hi.2.2.1 hi.2.2.2.2.2.1 b 0) (fun r1 w1 hp => ?_) rfl rfl
  obtain ⟨rfl, hw1⟩ := hp
  rw [hw1]
  refine ⟨⟨Nat.le_refl _, Or.inl rfl⟩, ?_⟩
  refine z_if_eq (pc := 5) (tgt := 16) rfl (by decide) (fun h5 => ?_) (fun h5 => ?_)
  · refine z_iconst (pc := 16) (v := (-1)) rfl (by decide) ?_
    exact z_iret (pc := 17) rfl rfl ⟨zI w, rfl, by rw [if_neg (ite_eq h5)], fun _ _ _ => rfl⟩
  · obtain ⟨j, hj, rfl⟩ := hOK_of hi.2.2.2.2.2.1 (ite_ne h5)
    have hj8 : j < 8 := Nat.lt_of_lt_of_le hj hi.2.2.2.2.2.1
    refine z_aload_n (pc := 8) (i := 0) (j := 0) rfl rfl rfl ?_
    refine z_iload_n (pc := 9) (i := 1) (j := 1) rfl rfl rfl ?_
    refine z_cV (pc := 10) (mc1 := 0) (ms1 := 0) (mc2 := 0) (ms2 := 0) (as := [.int (nI j)]) (rest := []) (o := 0) rfl rfl hx.1 ok_SW_lengthIfLit rfl rfl cl_SW_111 (by omega) (Nat.le_of_ble_eq_true rfl) (Nat.le_of_ble_eq_true rfl) (Nat.le_refl _) (Nat.le_refl _) (c_SW_lengthIfLit (w := w) hx hi hj8 3 (by decide)) (fun r1 w1 hp => ?_) rfl rfl
    obtain ⟨f1, hw1, rfl, hf1⟩ := hp
    rw [hw1]
    refine ⟨⟨Nat.le_refl _, Or.inl rfl⟩, ?_⟩
    refine z_goto (pc := 13) (tgt := 17) rfl (by decide) ?_
    exact z_iret (pc := 17) rfl rfl ⟨f1, rfl, by rw [if_pos (ite_ne h5), nI_clamp (by omega)], hf1⟩
set_option maxRecDepth 100000 in
set_option maxHeartbeats 4000000 in
theorem c_SW_meets {w : zW} {s C R H : Nat} {F G : Int32 → Int32 → Int32 → Int32} (hx : zX w s) (hi : zXi (zI w) s C R H F G) (b : Int32) (d : Nat) (hd : 5 ≤ d) : zS 0 0 d m_SW_meets (fun rv w1 => ∃ f, w1 = zuI w f ∧ ((¬ hOK H b = true ∧ rv = some (.int (-1))) ∨ ∃ yv j, j < H ∧ b = nI j ∧ yv < 8 ∧ fmod8 (F (zI w 21 8 + 0) 0 0) = nI yv ∧ rv = some (.int (riseM (zI w) 16 s C R yv G (zI w 21 8 + 0) (zI w 21 10 &&& (zI w 21 11 ^^^ (-1))) H 17 j))) ∧ ∀ o, o ≠ s + 8 → o ≠ s + 11 → o ≠ 17 → o ≠ 18 → o ≠ 19 → o ≠ 20 → f o = zI w o) 0 [(0, .ref 0), (1, .int b)] [] w := by
  refine z_aload_n (pc := 0) (i := 0) (j := 0) rfl rfl rfl ?_
  refine z_iload_n (pc := 1) (i := 1) (j := 1) rfl rfl rfl ?_
  refine z_cV (pc := 2) (mc1 := 0) (ms1 := 0) (mc2 := 0) (ms2 := 0) (as := [.int b]) (rest := []) (o := 0) rfl rfl hx.1 ok_SW_isHouse rfl rfl cl_SW_72 (by omega) (Nat.le_of_ble_eq_true rfl) (Nat.le_of_ble_eq_true rfl) (Nat.le_refl _) (Nat.le_refl _) (c_SW_isHouse (w := w) hx hi.2.2.1 hi.2.2.2.2.2.1 b 0) (fun r1 w1 hp => ?_) rfl rfl
  obtain ⟨rfl, hw1⟩ := hp
  rw [hw1]
  refine ⟨⟨Nat.le_refl _, Or.inl rfl⟩, ?_⟩
  refine z_if_ne (pc := 5) (tgt := 10) rfl (by decide) (fun h5 => ?_) (fun h5 => ?_)
  · obtain ⟨j, hj, rfl⟩ := hOK_of hi.2.2.2.2.2.1 (ite_ne h5)
    have hj8 : j < 8 := Nat.lt_of_lt_of_le hj hi.2.2.2.2.2.1
    refine z_aload_n (pc := 10) (i := 0) (j := 0) rfl rfl rfl ?_
    refine z_iconst (pc := 11) (v := 0) rfl (by decide) ?_
    refine z_aload_n (pc := 12) (i := 0) (j := 0) rfl rfl rfl ?_
    refine z_getR (pc := 13) (x := 21) rfl fl_SW_31 hx.1 rfl hx.2.2.2.2.1 ?_
    refine z_cV (pc := 16) (mc1 := 0) (ms1 := 0) (mc2 := 0) (ms2 := 0) (as := []) (rest := [.int 0, .ref 0]) (o := 21) rfl rfl hx.2.2.2.2.2.2.2.2.2.2.2.2.1.1 ok_Life_burning rfl rfl cl_SW_126 (by omega) (Nat.le_of_ble_eq_true rfl) (Nat.le_of_ble_eq_true rfl) (Nat.le_refl _) (Nat.le_refl _) (c_Life_burning (w := w) (hx.2.2.2.2.2.2.2.2.2.2.2.2.1) 0) (fun r1 w1 hp => ?_) rfl rfl
    obtain ⟨rfl, hw1⟩ := hp
    rw [hw1]
    refine ⟨⟨Nat.le_refl _, Or.inl rfl⟩, ?_⟩
    refine z_cV (pc := 19) (mc1 := 0) (ms1 := 0) (mc2 := 0) (ms2 := 0) (as := [.int 0, .int (zI w 21 10 &&& (zI w 21 11 ^^^ (-1)))]) (rest := []) (o := 0) rfl rfl hx.1 ok_SW_rise rfl rfl cl_SW_129 (by omega) (Nat.le_of_ble_eq_true rfl) (Nat.le_of_ble_eq_true rfl) (Nat.le_refl _) (Nat.le_refl _) (c_SW_rise (w := w) hx hi 0 (zI w 21 10 &&& (zI w 21 11 ^^^ (-1))) 4 (by decide)) (fun r1 w1 hp => ?_) rfl rfl
    obtain ⟨f1, yv, hw1, hy, hyv, rfl, hf1⟩ := hp
    rw [hw1]
    refine ⟨⟨Nat.le_refl _, Or.inl rfl⟩, ?_⟩
    have hss := (hx.2.2.2.2.2.2.2.2.2.2.2.2.2.2.2.2)
    refine z_pop (pc := 22) rfl rfl ?_
    refine z_aload_n (pc := 23) (i := 0) (j := 0) rfl rfl rfl ?_
    refine z_getR (pc := 24) (x := 16) rfl fl_SW_24 hx.1 rfl hx.2.2.2.1 ?_
    refine z_getR (pc := 27) (x := 17) rfl fl_SW_133 hx.2.2.2.2.2.2.2.2.2.2.2.1.1 rfl hx.2.2.2.2.2.2.2.2.2.2.2.1.2.2.2.2.2.1 ?_
    refine z_iload_n (pc := 30) (i := 1) (j := 1) rfl rfl rfl ?_
    refine z_iald (pc := 31) rfl hx.2.2.2.2.2.2.2.2.2.2.2.1.2.1 (vp_in_nI hj8 (by decide)) ?_
    refine z_eqi (y := riseM (zI w) 16 s C R yv G (zI w 21 8 + 0) (zI w 21 10 &&& (zI w 21 11 ^^^ (-1))) H 17 j) (by rw [nI_clamp (by omega)]; exact congrFun (hf1 17 (by omega) (by omega)) j) ?_
    exact z_iret (pc := 32) rfl rfl ⟨f1, rfl, Or.inr ⟨yv, j, hj, rfl, hy, hyv, rfl⟩, fun o h8 h11 h17 h18 h19 h20 => (hf1 o h8 h11).trans (riseM_o _ _ _ _ _ _ _ _ _ h17 h18 h19 h20 H)⟩
  · refine z_iconst (pc := 8) (v := (-1)) rfl (by decide) ?_
    exact z_iret (pc := 9) rfl rfl ⟨zI w, rfl, Or.inl ⟨ite_eq h5, rfl⟩, fun _ _ _ _ _ _ _ => rfl⟩
