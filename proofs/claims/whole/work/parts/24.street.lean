/-! STREETS: a law L has its steps at L + 1, its stack at L + 2; a street s has its rows at s + 1 .. s + 5, its laws at s + 6, s + 9 -/
def zLw (w : zW) (L : Nat) : Prop := w.1[L]? = some (0, 3) ∧ w.1[L + 1]? = some (10, 1000) ∧ w.1[L + 2]? = some (10, 32) ∧ zR w L 0 = some (L + 1) ∧ zR w L 1 = some (L + 2)
def zSt (w : zW) (s : Nat) : Prop := w.1[s]? = some (5, 12) ∧ w.1[s + 1]? = some (10, 8) ∧ w.1[s + 2]? = some (10, 8) ∧ w.1[s + 3]? = some (10, 8) ∧ w.1[s + 4]? = some (10, 8) ∧ w.1[s + 5]? = some (11, 8) ∧ zR w s 0 = some (s + 1) ∧ zR w s 1 = some (s + 2) ∧ zR w s 2 = some (s + 3) ∧ zR w s 3 = some (s + 4) ∧ zR w s 4 = some (s + 5) ∧ zR w s 5 = some (s + 6) ∧ zR w s 6 = some (s + 9) ∧ zLw w (s + 6) ∧ zLw w (s + 9)
/-- the law at L in the ints f is the function F -/
def zLaw (f : Nat → Nat → Int32) (L : Nat) (F : Int32 → Int32 → Int32 → Int32) : Prop := ∃ n : Nat, n ≤ 1000 ∧ f L 2 = nI n ∧ ∀ (x y z : Int32) (g : Nat → Int32), (lrun x y z (f (L + 1)) (0, g) n).2 0 = F x y z
theorem zLaw_congr {f g : Nat → Nat → Int32} {L : Nat} {F : Int32 → Int32 → Int32 → Int32} (h : zLaw f L F) (h1 : g L = f L) (h2 : g (L + 1) = f (L + 1)) : zLaw g L F := by
  obtain ⟨n, a, b, c⟩ := h
  exact ⟨n, a, by rw [h1]; exact b, by rw [h2]; exact c⟩
set_option maxRecDepth 100000 in
set_option maxHeartbeats 4000000 in
theorem c_Law_val {w : zW} {L : Nat} {F : Int32 → Int32 → Int32 → Int32} (h : zLw w L) (hF : zLaw (zI w) L F) (x y z : Int32) (d : Nat) (hd : 1 ≤ d) : zS 0 0 d m_Law_value (fun rv w1 => ∃ f, w1 = zuI w f ∧ rv = some (.int (F x y z)) ∧ ∀ o, o ≠ L + 2 → f o = zI w o) 0 [(0, .ref L), (1, .int x), (2, .int y), (3, .int z)] [] w := by
  obtain ⟨n, hn, hf, hv⟩ := hF
  refine z_mono ?_ (c_Law_value h.1 h.2.2.2.1 h.2.1 h.2.2.2.2 h.2.2.1 (by omega) (by omega) hf hn x y z d hd)
  rintro r w1 ⟨rfl, rfl⟩
  exact ⟨_, rfl, by rw [hv], fun o ho => if_neg ho⟩
set_option maxRecDepth 100000 in
set_option maxHeartbeats 4000000 in
theorem c_Street_hasCell {w : zW} {s : Nat} (h : zSt w s) (x y : Int32) (d : Nat) : zS 0 0 d m_Street_hasCell (fun rv w1 => rv = some (.int (if x < 0 then 0 else (if zI w s 7 ≤ x then 0 else (if y < 0 then 0 else (if zI w s 8 ≤ y then 0 else 1))))) ∧ w1 = w) 0 [(0, .ref s), (1, .int x), (2, .int y)] [] w := by
  refine z_iload_n (pc := 0) (i := 1) (j := 1) rfl rfl rfl ?_
  refine z_if_lt (pc := 1) (tgt := 28) rfl (by decide) (fun h1 => ?_) (fun h1 => ?_)
  · refine z_iconst (pc := 28) (v := 0) rfl (by decide) ?_
    exact z_zret (pc := 29) rfl rfl (by decide) ⟨by rw [if_pos h1], rfl⟩
  · refine z_iload_n (pc := 4) (i := 1) (j := 1) rfl rfl rfl ?_
    refine z_aload_n (pc := 5) (i := 0) (j := 0) rfl rfl rfl ?_
    refine z_getI (pc := 6) rfl fl_Street_41 h.1 rfl ?_
    refine z_icmp_ge (pc := 9) (tgt := 28) rfl (by decide) (fun h9 => ?_) (fun h9 => ?_)
    · refine z_iconst (pc := 28) (v := 0) rfl (by decide) ?_
      exact z_zret (pc := 29) rfl rfl (by decide) ⟨by rw [if_neg h1, if_pos h9], rfl⟩
    · refine z_iload_n (pc := 12) (i := 2) (j := 2) rfl rfl rfl ?_
      refine z_if_lt (pc := 13) (tgt := 28) rfl (by decide) (fun h13 => ?_) (fun h13 => ?_)
      · refine z_iconst (pc := 28) (v := 0) rfl (by decide) ?_
        exact z_zret (pc := 29) rfl rfl (by decide) ⟨by rw [if_neg h1, if_neg h9, if_pos h13], rfl⟩
      · refine z_iload_n (pc := 16) (i := 2) (j := 2) rfl rfl rfl ?_
        refine z_aload_n (pc := 17) (i := 0) (j := 0) rfl rfl rfl ?_
        refine z_getI (pc := 18) rfl fl_Street_45 h.1 rfl ?_
        refine z_icmp_ge (pc := 21) (tgt := 28) rfl (by decide) (fun h21 => ?_) (fun h21 => ?_)
        · refine z_iconst (pc := 28) (v := 0) rfl (by decide) ?_
          exact z_zret (pc := 29) rfl rfl (by decide) ⟨by rw [if_neg h1, if_neg h9, if_neg h13, if_pos h21], rfl⟩
        · refine z_iconst (pc := 24) (v := 1) rfl (by decide) ?_
          refine z_goto (pc := 25) (tgt := 29) rfl (by decide) ?_
          exact z_zret (pc := 29) rfl rfl (by decide) ⟨by rw [if_neg h1, if_neg h9, if_neg h13, if_neg h21], rfl⟩
set_option maxRecDepth 100000 in
set_option maxHeartbeats 4000000 in
theorem c_Street_firstColumn {w : zW} {s : Nat} (h : zSt w s) {i : Nat} (hh : i < 8) (d : Nat) : zS 0 0 d m_Street_firstColumn (fun rv w1 => rv = some (.int (if zI w (s + 4) (nI i).toNatClampNeg = 3 then ((zI w (s + 1) (nI i).toNatClampNeg) + 1) else (zI w (s + 1) (nI i).toNatClampNeg))) ∧ w1 = w) 0 [(0, .ref s), (1, .int (nI i))] [] w := by
  refine z_aload_n (pc := 0) (i := 0) (j := 0) rfl rfl rfl ?_
  refine z_getR (pc := 1) (x := s + 4) rfl fl_Street_21 h.1 rfl h.2.2.2.2.2.2.2.2.2.1 ?_
  refine z_iload_n (pc := 4) (i := 1) (j := 1) rfl rfl rfl ?_
  refine z_iald (pc := 5) rfl h.2.2.2.2.1 (vp_in_nI hh (by decide)) ?_
  refine z_iconst (pc := 6) (v := 3) rfl (by decide) ?_
  refine z_icmp_ne (pc := 7) (tgt := 21) rfl (by decide) (fun h7 => ?_) (fun h7 => ?_)
  · refine z_aload_n (pc := 21) (i := 0) (j := 0) rfl rfl rfl ?_
    refine z_getR (pc := 22) (x := s + 1) rfl fl_Street_9 h.1 rfl h.2.2.2.2.2.2.1 ?_
    refine z_iload_n (pc := 25) (i := 1) (j := 1) rfl rfl rfl ?_
    refine z_iald (pc := 26) rfl h.2.1 (vp_in_nI hh (by decide)) ?_
    exact z_iret (pc := 27) rfl rfl ⟨by rw [if_neg h7], rfl⟩
  · refine z_aload_n (pc := 10) (i := 0) (j := 0) rfl rfl rfl ?_
    refine z_getR (pc := 11) (x := s + 1) rfl fl_Street_9 h.1 rfl h.2.2.2.2.2.2.1 ?_
    refine z_iload_n (pc := 14) (i := 1) (j := 1) rfl rfl rfl ?_
    refine z_iald (pc := 15) rfl h.2.1 (vp_in_nI hh (by decide)) ?_
    refine z_iconst (pc := 16) (v := 1) rfl (by decide) ?_
    refine z_iadd (pc := 17) rfl ?_
    refine z_goto (pc := 18) (tgt := 27) rfl (by decide) ?_
    exact z_iret (pc := 27) rfl rfl ⟨by rw [if_pos h7], rfl⟩
set_option maxRecDepth 100000 in
set_option maxHeartbeats 4000000 in
theorem c_Street_price {w : zW} {s : Nat} (h : zSt w s) {i : Nat} (hh : i < 8) (d : Nat) : zS 0 0 d m_Street_price (fun rv w1 => rv = some (.int (if zI w (s + 4) (nI i).toNatClampNeg = 1 then 1 else (if zI w (s + 4) (nI i).toNatClampNeg = 2 then 3 else 2))) ∧ w1 = w) 0 [(0, .ref s), (1, .int (nI i))] [] w := by
  refine z_aload_n (pc := 0) (i := 0) (j := 0) rfl rfl rfl ?_
  refine z_getR (pc := 1) (x := s + 4) rfl fl_Street_21 h.1 rfl h.2.2.2.2.2.2.2.2.2.1 ?_
  refine z_iload_n (pc := 4) (i := 1) (j := 1) rfl rfl rfl ?_
  refine z_iald (pc := 5) rfl h.2.2.2.2.1 (vp_in_nI hh (by decide)) ?_
  refine z_iconst (pc := 6) (v := 1) rfl (by decide) ?_
  refine z_icmp_ne (pc := 7) (tgt := 12) rfl (by decide) (fun h7 => ?_) (fun h7 => ?_)
  · refine z_aload_n (pc := 12) (i := 0) (j := 0) rfl rfl rfl ?_
    refine z_getR (pc := 13) (x := s + 4) rfl fl_Street_21 h.1 rfl h.2.2.2.2.2.2.2.2.2.1 ?_
    refine z_iload_n (pc := 16) (i := 1) (j := 1) rfl rfl rfl ?_
    refine z_iald (pc := 17) rfl h.2.2.2.2.1 (vp_in_nI hh (by decide)) ?_
    refine z_iconst (pc := 18) (v := 2) rfl (by decide) ?_
    refine z_icmp_ne (pc := 19) (tgt := 26) rfl (by decide) (fun h19 => ?_) (fun h19 => ?_)
    · refine z_iconst (pc := 26) (v := 2) rfl (by decide) ?_
      exact z_iret (pc := 27) rfl rfl ⟨by rw [if_neg h7, if_neg h19], rfl⟩
    · refine z_iconst (pc := 22) (v := 3) rfl (by decide) ?_
      refine z_goto (pc := 23) (tgt := 27) rfl (by decide) ?_
      exact z_iret (pc := 27) rfl rfl ⟨by rw [if_neg h7, if_pos h19], rfl⟩
  · refine z_iconst (pc := 10) (v := 1) rfl (by decide) ?_
    exact z_iret (pc := 11) rfl rfl ⟨by rw [if_pos h7], rfl⟩
def fmod8 (x : Int32) : Int32 := if 0 ≤ x ^^^ 8 then x - x / 8 * 8 else if x - x / 8 * 8 = 0 then x - x / 8 * 8 else x - x / 8 * 8 + 8
def plen (k v : Int32) : Int32 :=
  if k = 1 then (if (if v < 20 then v else 20) < 0 then 0 else (if v < 20 then v else 20)) / 2
  else v
set_option maxRecDepth 100000 in
set_option maxHeartbeats 4000000 in
theorem c_Street_windIn {w : zW} {s : Nat} (h : zSt w s) {F : Int32 → Int32 → Int32 → Int32} (hF : zLaw (zI w) (s + 6) F) (x : Int32) (d : Nat) (hd : 2 ≤ d) : zS 0 0 d m_Street_windIn (fun rv w1 => ∃ f, w1 = zuI w f ∧ rv = some (.int (fmod8 (F x 0 0))) ∧ ∀ o, o ≠ s + 8 → f o = zI w o) 0 [(0, .ref s), (1, .int x)] [] w := by
  refine z_aload_n (pc := 0) (i := 0) (j := 0) rfl rfl rfl ?_
  refine z_getR (pc := 1) (x := s + 6) rfl fl_Street_31 h.1 rfl h.2.2.2.2.2.2.2.2.2.2.2.1 ?_
  refine z_iload_n (pc := 4) (i := 1) (j := 1) rfl rfl rfl ?_
  refine z_iconst (pc := 5) (v := 0) rfl (by decide) ?_
  refine z_iconst (pc := 6) (v := 0) rfl (by decide) ?_
  refine z_cV (pc := 7) (mc1 := 0) (ms1 := 0) (mc2 := 0) (ms2 := 0) (as := [.int x, .int 0, .int 0]) (rest := []) (o := s + 6) rfl rfl h.2.2.2.2.2.2.2.2.2.2.2.2.2.1.1 ok_Law_value rfl rfl cl_Street_71 (by omega) (Nat.le_of_ble_eq_true rfl) (Nat.le_of_ble_eq_true rfl) (Nat.le_refl _) (Nat.le_refl _) (c_Law_val h.2.2.2.2.2.2.2.2.2.2.2.2.2.1 hF x 0 0 1 (by decide)) (fun r1 w1 hp => ?_) rfl rfl
  obtain ⟨f1, rfl, rfl, hf1⟩ := hp
  refine ⟨⟨Nat.le_refl _, Or.inl rfl⟩, ?_⟩
  refine z_bipush (pc := 10) (v := 8) rfl (by decide) ?_
  refine z_cS (pc := 12) (mc1 := 0) (ms1 := 0) (mc2 := 0) (ms2 := 0) (as := [.int (F x 0 0), .int 8]) (rest := []) ok_Math_floorMod rfl rfl cl_Street_75 (by omega) (Nat.le_of_ble_eq_true rfl) (Nat.le_of_ble_eq_true rfl) (Nat.le_refl _) (Nat.le_refl _) (c_Math_floorMod (F x 0 0) 8 0 (by decide) _) (fun r1 w1 hp => ?_) rfl rfl
  obtain ⟨rfl, hw1⟩ := hp
  rw [hw1]
  refine ⟨⟨Nat.le_refl _, Or.inl rfl⟩, ?_⟩
  exact z_iret (pc := 15) rfl rfl ⟨f1, rfl, rfl, hf1⟩
/-- the length of a plume: the law's value cut to 0 .. 20, by the kind of stuff -/
def pcut (v : Int32) : Int32 := if 0 < (if v < 20 then v else 20) then (if v < 20 then v else 20) else 0
def plenK (k v : Int32) : Int32 := if k = 1 then pcut v / 2 else if k = 2 then pcut v * 2 else if k = 3 then pcut v else if k = 4 then pcut v + 2 else pcut v
set_option maxRecDepth 100000 in
set_option maxHeartbeats 4000000 in
theorem c_Street_plumeLength {w : zW} {s : Nat} (h : zSt w s) {G : Int32 → Int32 → Int32 → Int32} (hG : zLaw (zI w) (s + 9) G) {i : Nat} (hh : i < 8) (x y : Int32) (d : Nat) (hd : 2 ≤ d) : zS 0 0 d m_Street_plumeLength (fun rv w1 => ∃ f, w1 = zuI w f ∧ rv = some (.int (plenK (zI w (s + 4) i) (G x (zI w (s + 3) i) y))) ∧ ∀ o, o ≠ s + 11 → f o = zI w o) 0 [(0, .ref s), (1, .int (nI i)), (2, .int x), (3, .int y)] [] w := by
  refine z_aload_n (pc := 0) (i := 0) (j := 0) rfl rfl rfl ?_
  refine z_getR (pc := 1) (x := s + 9) rfl fl_Street_35 h.1 rfl h.2.2.2.2.2.2.2.2.2.2.2.2.1 ?_
  refine z_iload_n (pc := 4) (i := 2) (j := 2) rfl rfl rfl ?_
  refine z_aload_n (pc := 5) (i := 0) (j := 0) rfl rfl rfl ?_
  refine z_getR (pc := 6) (x := s + 3) rfl fl_Street_18 h.1 rfl h.2.2.2.2.2.2.2.2.1 ?_
  refine z_iload_n (pc := 9) (i := 1) (j := 1) rfl rfl rfl ?_
  refine z_iald (pc := 10) rfl h.2.2.2.1 (vp_in_nI hh (by decide)) ?_
  refine z_eqi (y := zI w (s + 3) i) (by rw [nI_clamp (by omega)]) ?_
  refine z_iload_n (pc := 11) (i := 3) (j := 3) rfl rfl rfl ?_
  refine z_cV (pc := 12) (mc1 := 0) (ms1 := 0) (mc2 := 0) (ms2 := 0) (as := [.int x, .int (zI w (s + 3) i), .int y]) (rest := []) (o := s + 9) rfl rfl h.2.2.2.2.2.2.2.2.2.2.2.2.2.2.1 ok_Law_value rfl rfl cl_Street_71 (by omega) (Nat.le_of_ble_eq_true rfl) (Nat.le_of_ble_eq_true rfl) (Nat.le_refl _) (Nat.le_refl _) (c_Law_val h.2.2.2.2.2.2.2.2.2.2.2.2.2.2 hG x (zI w (s + 3) i) y 1 (by decide)) (fun r1 w1 hp => ?_) rfl rfl
  obtain ⟨f1, rfl, rfl, hf1⟩ := hp
  refine ⟨⟨Nat.le_refl _, Or.inl rfl⟩, ?_⟩
  refine z_topi (fun v h_v => ?_)
  refine z_istore (pc := 15) (i := 4) (ls' := [(0, .ref s), (1, .int (nI i)), (2, .int x), (3, .int y), (4, .int v)]) rfl (by decide) rfl ?_
  refine z_iconst (pc := 17) (v := 0) rfl (by decide) ?_
  refine z_bipush (pc := 18) (v := 20) rfl (by decide) ?_
  refine z_iload (pc := 20) (i := 4) (j := 4) rfl rfl ?_
  refine z_mmin (pc := 22) rfl ml_Street_81 (by omega) (Nat.le_of_ble_eq_true rfl) ?_
  refine z_mmax (pc := 25) rfl ml_Street_84 (by omega) (Nat.le_of_ble_eq_true rfl) ?_
  refine z_topi (fun u h_u => ?_)
  refine z_istore (pc := 28) (i := 5) (ls' := [(0, .ref s), (1, .int (nI i)), (2, .int x), (3, .int y), (4, .int v), (5, .int u)]) rfl (by decide) rfl ?_
  refine z_aload_n (pc := 30) (i := 0) (j := 0) rfl rfl rfl ?_
  refine z_getR (pc := 31) (x := s + 4) rfl fl_Street_21 h.1 rfl h.2.2.2.2.2.2.2.2.2.1 ?_
  refine z_iload_n (pc := 34) (i := 1) (j := 1) rfl rfl rfl ?_
  refine z_iald (pc := 35) rfl h.2.2.2.2.1 (vp_in_nI hh (by decide)) ?_
  refine z_eqi (y := zI w (s + 4) i) (by rw [nI_clamp (by omega)]; exact congrFun (hf1 _ (by omega)) i) ?_
  by_cases hc36_0 : zI w (s + 4) i = 1
  · refine z_tabIn (pc := 36) (off := 32) (tgt := 68) rfl (by rw [hc36_0]; decide) (by rw [hc36_0]; decide) (by rw [hc36_0]; rfl) (by decide) ?_
    refine z_iload (pc := 68) (i := 5) (j := 5) rfl rfl ?_
    refine z_iconst (pc := 70) (v := 2) rfl (by decide) ?_
    refine z_idiv (pc := 71) rfl (by decide) ?_
    exact z_iret (pc := 72) rfl rfl ⟨f1, rfl, (by rw [h_u, h_v]; unfold plenK pcut; simp [*]), hf1⟩
  by_cases hc36_1 : zI w (s + 4) i = 2
  · refine z_tabIn (pc := 36) (off := 37) (tgt := 73) rfl (by rw [hc36_1]; decide) (by rw [hc36_1]; decide) (by rw [hc36_1]; rfl) (by decide) ?_
    refine z_iload (pc := 73) (i := 5) (j := 5) rfl rfl ?_
    refine z_iconst (pc := 75) (v := 2) rfl (by decide) ?_
    refine z_imul (pc := 76) rfl ?_
    exact z_iret (pc := 77) rfl rfl ⟨f1, rfl, (by rw [h_u, h_v]; unfold plenK pcut; simp [*]), hf1⟩
  by_cases hc36_2 : zI w (s + 4) i = 3
  · refine z_tabIn (pc := 36) (off := 47) (tgt := 83) rfl (by rw [hc36_2]; decide) (by rw [hc36_2]; decide) (by rw [hc36_2]; rfl) (by decide) ?_
    refine z_iload (pc := 83) (i := 5) (j := 5) rfl rfl ?_
    exact z_iret (pc := 85) rfl rfl ⟨f1, rfl, (by rw [h_u, h_v]; unfold plenK pcut; simp [*]), hf1⟩
  by_cases hc36_3 : zI w (s + 4) i = 4
  · refine z_tabIn (pc := 36) (off := 42) (tgt := 78) rfl (by rw [hc36_3]; decide) (by rw [hc36_3]; decide) (by rw [hc36_3]; rfl) (by decide) ?_
    refine z_iload (pc := 78) (i := 5) (j := 5) rfl rfl ?_
    refine z_iconst (pc := 80) (v := 2) rfl (by decide) ?_
    refine z_iadd (pc := 81) rfl ?_
    exact z_iret (pc := 82) rfl rfl ⟨f1, rfl, (by rw [h_u, h_v]; unfold plenK pcut; simp [*]), hf1⟩
  have hn36_0 := lv_neT (a := 1) hc36_0 rfl
  have hn36_1 := lv_neT (a := 2) hc36_1 rfl
  have hn36_2 := lv_neT (a := 3) hc36_2 rfl
  have hn36_3 := lv_neT (a := 4) hc36_3 rfl
  refine z_tabOut (pc := 36) (tgt := 83) rfl (by omega) (by decide) ?_
  refine z_iload (pc := 83) (i := 5) (j := 5) rfl rfl ?_
  exact z_iret (pc := 85) rfl rfl ⟨f1, rfl, (by rw [h_u, h_v]; unfold plenK pcut; simp [*]), hf1⟩
