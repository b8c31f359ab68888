/-! THE READER: a house, a statement, all -/
theorem wrg_g {T : Nat → Int32} {n p : Nat} {k : Int32} {q : Nat ⊕ Int32} : wrg T n k q ≠ .inl p := by cases q <;> exact fun h => by cases h
theorem nxt_g {T : Nat → Int32} {n p : Nat} {q : Nat ⊕ Int32} (h : nxt T n q = .inl p) : ∃ p1, q = .inl p1 := by
  cases q with
  | inl p1 => exact ⟨p1, rfl⟩
  | inr k => cases h
theorem numW_g {T : Nat → Int32} {n p : Nat} {a b : Int32} {q : Nat ⊕ Int32} (h : (numW T n a b q).2 = .inl p) : (∃ p1, q = .inl p1) ∧ tkc T n q = 2 ∧ (numW T n a b q).1 = tkn T n q ∧ (numW T n a b q).2 = nxt T n q := by
  unfold numW at h ⊢
  by_cases h1 : tkc T n q = 2
  · rw [if_pos h1] at h ⊢
    by_cases h2 : tkn T n q < a
    · rw [if_pos h2] at h; exact absurd h wrg_g
    · rw [if_neg h2] at h ⊢
      by_cases h3 : tkn T n q ≤ b
      · rw [if_pos h3] at h ⊢; exact ⟨nxt_g h, h1, rfl, rfl⟩
      · rw [if_neg h3] at h; exact absurd h wrg_g
  · rw [if_neg h1] at h; exact absurd h wrg_g
theorem expW_g {T : Nat → Int32} {n p : Nat} {c : Option Nat} {q : Nat ⊕ Int32} (h : expW T n c q = .inl p) : ∃ p1, q = .inl p1 := by
  unfold expW at h
  split at h
  · exact nxt_g h
  · exact absurd h wrg_g
theorem kndS_g {T : Nat → Int32} {n p : Nat} {q : Nat ⊕ Int32} (h : kndS T n q = .inl p) : ∃ p1, q = .inl p1 := by
  unfold kndS at h
  split at h
  · exact absurd h wrg_g
  · exact nxt_g h
theorem newS_g {T : Nat → Int32} {n p H : Nat} {N : Nat → Int64} {q : Nat ⊕ Int32} (h : newS T n N H q = .inl p) : (∃ p1, q = .inl p1) ∧ tkc T n q = 3 := by
  unfold newS at h
  by_cases h1 : tkc T n q = 3
  · rw [if_pos h1] at h
    split at h
    · split at h
      · exact absurd h wrg_g
      · exact ⟨nxt_g h, h1⟩
    · exact absurd h wrg_g
  · rw [if_neg h1] at h; exact absurd h wrg_g
theorem rS_g {w : zW} {T : Nat → Int32} {n : Nat} {q : Nat ⊕ Int32} (h : rS w T n q) (h0 : fltS q = 0) : ∃ p, q = .inl p := by
  cases q with
  | inl p => exact ⟨p, rfl⟩
  | inr k => exact absurd h0 h.2.1
theorem hQ7_g {T : Nat → Int32} {n s p : Nat} {D : rDt} (h : hQ7 T n s D = .inl p) : ∃ p1, (hRw T n s D).2 = .inl p1 := by
  unfold hQ7 at h
  split at h
  · split at h
    · generalize (hRw T n s D).2 = q at h
      cases q <;> cases h
    · exact ⟨_, h⟩
  · exact ⟨_, h⟩
theorem hQe_g {T : Nat → Int32} {n s p : Nat} {D : rDt} (h : hQe T n s D = .inl p) : D.2.1 s 11 < 8 ∧ tkc T n (hQ2 T n s D) = 3 := by
  obtain ⟨p1, h1⟩ := kndS_g h
  obtain ⟨⟨p2, h2⟩, _⟩ := numW_g h1
  obtain ⟨p3, h3⟩ := expW_g h2
  obtain ⟨p4, h4⟩ := hQ7_g h3
  obtain ⟨⟨p5, h5⟩, _⟩ := numW_g h4
  obtain ⟨⟨p6, h6⟩, _⟩ := numW_g h5
  obtain ⟨p7, h7⟩ := expW_g h6
  obtain ⟨⟨p8, h8⟩, h9⟩ := newS_g h7
  obtain ⟨p9, h10⟩ := nxt_g h8
  refine ⟨?_, h9⟩
  by_cases z : D.2.1 s 11 < 8
  · exact z
  · rw [if_neg z] at h10; exact absurd h10 wrg_g
theorem rD_N {w : zW} {s n : Nat} {T : Nat → Int32} {D : rDt} (h : rD w T n s D) (hs : 3 < s) (k : Nat) (x : Int64) : rD (zsL w (s + 5) k x) T n s (D.1, D.2.1, vp_updL D.2.2 k x) := by
  refine ⟨?_, h.2.1, h.2.2.1, h.2.2.2.1, h.2.2.2.2.1, ?_⟩
  · have h1 := h.1
    have e : ∀ j, zL (zsL w (s + 5) k x) 3 j = zL w 3 j := fun j => z2_o (zL w) (o := s + 5) (a := 3) k j x (by omega)
    generalize D.1 = q at h1 ⊢
    cases q with
    | inl p => exact ⟨h1.1, h1.2.1, h1.2.2.1, h1.2.2.2.1, h1.2.2.2.2.1, fun z => (e 7).trans (h1.2.2.2.2.2.1 z), h1.2.2.2.2.2.2⟩
    | inr j => exact h1
  · rw [← h.2.2.2.2.2]
    funext j
    show z2 _ _ _ _ _ _ = _
    unfold z2 vp_updL
    by_cases z : j = k <;> simp [z]
theorem rH_L {s k : Nat} {w : zW} (hs : 3 < s) (x : Int64) : rH s w (zsL w (s + 5) k x) := ⟨rfl, fun _ _ _ => rfl, fun o _ h2 => z2_off (zL w) k x h2, rfl, rfl⟩
theorem rD_house {w : zW} {s n Hn : Nat} {T : Nat → Int32} {QE : Nat ⊕ Int32} {F : Nat → Nat → Int32} {N : Nat → Int64} {g : Int64} {c1 c2 c3 c4 : Int32} (hs3 : 3 < s) (h : rD w T n s (QE, F, N)) : rH s w (zsI (zsI (zsI (zsI (zsI (zsL w (s + 5) Hn g) (s + 1) Hn c1) (s + 2) Hn c2) (s + 3) Hn c3) (s + 4) Hn c4) s 11 (nI (Hn + 1))) ∧ rD (zsI (zsI (zsI (zsI (zsI (zsL w (s + 5) Hn g) (s + 1) Hn c1) (s + 2) Hn c2) (s + 3) Hn c3) (s + 4) Hn c4) s 11 (nI (Hn + 1))) T n s (QE, z2 (z2 (z2 (z2 (z2 F (s + 1) Hn c1) (s + 2) Hn c2) (s + 3) Hn c3) (s + 4) Hn c4) s 11 (nI (Hn + 1)), vp_updL N Hn g) := by
  have k1 := rD_N h hs3 Hn g
  have k2 := rD_I k1 (o := s + 1) (by omega) Hn c1
  have k3 := rD_I k2 (o := s + 2) (by omega) Hn c2
  have k4 := rD_I k3 (o := s + 3) (by omega) Hn c3
  have k5 := rD_I k4 (o := s + 4) (by omega) Hn c4
  have k6 := rD_I k5 (o := s) (by omega) 11 (nI (Hn + 1))
  have r1 := rH_L (s := s) (k := Hn) (w := w) hs3 g
  have r2 := rH_t r1 (rH_I (o := s + 1) (by omega) Hn c1)
  have r3 := rH_t r2 (rH_I (o := s + 2) (by omega) Hn c2)
  have r4 := rH_t r3 (rH_I (o := s + 3) (by omega) Hn c3)
  have r5 := rH_t r4 (rH_I (o := s + 4) (by omega) Hn c4)
  exact ⟨rH_t r5 (rH_I (o := s) (by omega) 11 (nI (Hn + 1))), k6⟩
set_option maxRecDepth 100000 in
set_option maxHeartbeats 4000000 in
theorem l_house101 {w : zW} {s n : Nat} {T : Nat → Int32} (hk : rdK w s n T) (D ED : rDt) {Hn : Nat} (hHn : D.2.1 s 11 = nI Hn) (hH8 : Hn ≤ 8) (g gk : Int64) (Q7 : Nat ⊕ Int32) (c1 c2 : Int32) (hg : ∀ p, kndS T n (numW T n 0 9 (expW T n (some 1000007) Q7)).2 = .inl p → g = gk) (hQ8 : ∀ p, kndS T n (numW T n 0 9 (expW T n (some 1000007) Q7)).2 = .inl p → Hn < 8) (hED : ED = if fltS (kndS T n (numW T n 0 9 (expW T n (some 1000007) Q7)).2) = 0 then (kndS T n (numW T n 0 9 (expW T n (some 1000007) Q7)).2, z2 (z2 (z2 (z2 (z2 D.2.1 (s + 1) Hn c1) (s + 2) Hn c2) (s + 3) Hn (numW T n 0 9 (expW T n (some 1000007) Q7)).1) (s + 4) Hn (kndO (tkw T n (numW T n 0 9 (expW T n (some 1000007) Q7)).2))) s 11 (nI (Hn + 1)), vp_updL D.2.2 Hn gk) else (kndS T n (numW T n 0 9 (expW T n (some 1000007) Q7)).2, D.2)) (pl : Int32) (hD : rD w T n s (Q7, D.2)) (d : Nat) (hd : 6 ≤ d) : zS 0 0 d m_Reader_readHouse (fun rv w1 => rv = none ∧ rH s w w1 ∧ rD w1 T n s ED) 101 [(0, .ref 3), (1, .long g), (3, .int c1), (4, .int pl), (5, .int c2)] [] w := by
  have hs3 := rdK_s hk
  have hH := rH_r s w
  refine z_aload_n (pc := 101) (i := 0) (j := 0) rfl rfl rfl ?_
  refine z_gets (pc := 102) (C0 := "SmokeWeds$Word") (n1 := "HIGH") (d1 := "LSmokeWeds$Word;") (v := .ref 1000007) rfl (by decide +kernel) gl_Reader_162 ?_
  refine z_cV (pc := 105) (mc1 := 0) (ms1 := 0) (mc2 := 0) (ms2 := 0) (as := [.ref 1000007]) (rest := []) (o := 3) rfl rfl hk.1 ok_Reader_expectWord rfl rfl cl_Reader_147 (by omega) (Nat.le_of_ble_eq_true rfl) (Nat.le_of_ble_eq_true rfl) (Nat.le_refl _) (Nat.le_refl _) (c_Reader_expectWord hk _ hD.1 (c := 1000007) (by decide) (by decide) 5 (by decide)) (fun r1 w1 hp => ?_) rfl rfl
  obtain ⟨rfl, hF1, hS1⟩ := hp
  refine ⟨⟨by rw [hF1.1]; exact Nat.le_refl _, Or.inl (by rw [hF1.1])⟩, ?_⟩
  have hk1 := rdK_F hk hF1
  have hD1 : rD w1 T n s (expW T n (some 1000007) Q7, D.2) := rD_F (D := (Q7, D.2)) hD hs3 hF1 hS1
  have hH1 := rH_t hH (rH_F (s := s) hF1)
  refine z_aload_n (pc := 108) (i := 0) (j := 0) rfl rfl rfl ?_
  refine z_iconst (pc := 109) (v := 0) rfl (by decide) ?_
  refine z_bipush (pc := 110) (v := 9) rfl (by decide) ?_
  refine z_cV (pc := 112) (mc1 := 0) (ms1 := 0) (mc2 := 0) (ms2 := 0) (as := [.int 0, .int 9]) (rest := []) (o := 3) rfl rfl hk1.1 ok_Reader_numberWithin rfl rfl cl_Reader_103 (by omega) (Nat.le_of_ble_eq_true rfl) (Nat.le_of_ble_eq_true rfl) (Nat.le_refl _) (Nat.le_refl _) (c_Reader_numberWithin hk1 _ hD1.1 0 9 5 (by decide)) (fun r1 w2 hp => ?_) rfl rfl
  obtain ⟨rfl, hF2, hS2⟩ := hp
  refine ⟨⟨by rw [hF2.1]; exact Nat.le_refl _, Or.inl (by rw [hF2.1])⟩, ?_⟩
  have hk2 := rdK_F hk1 hF2
  have hD2 : rD w2 T n s ((numW T n 0 9 (expW T n (some 1000007) Q7)).2, D.2) := rD_F (D := (expW T n (some 1000007) Q7, D.2)) hD1 hs3 hF2 hS2
  have hH2 := rH_t hH1 (rH_F (s := s) hF2)
  refine z_istore (pc := 115) (i := 6) (ls' := [(0, .ref 3), (1, .long g), (3, .int c1), (4, .int pl), (5, .int c2), (6, .int ((numW T n 0 9 (expW T n (some 1000007) Q7)).1))]) rfl (by decide) rfl ?_
  refine z_aload_n (pc := 117) (i := 0) (j := 0) rfl rfl rfl ?_
  refine z_cV (pc := 118) (mc1 := 0) (ms1 := 0) (mc2 := 0) (ms2 := 0) (as := []) (rest := []) (o := 3) rfl rfl hk2.1 ok_Reader_expectKind rfl rfl cl_Reader_165 (by omega) (Nat.le_of_ble_eq_true rfl) (Nat.le_of_ble_eq_true rfl) (Nat.le_refl _) (Nat.le_refl _) (c_Reader_expectKind hk2 _ hD2.1 5 (by decide)) (fun r1 w3 hp => ?_) rfl rfl
  obtain ⟨rfl, hF3, hS3⟩ := hp
  refine ⟨⟨by rw [hF3.1]; exact Nat.le_refl _, Or.inl (by rw [hF3.1])⟩, ?_⟩
  have hk3 := rdK_F hk2 hF3
  have hD3 : rD w3 T n s (kndS T n (numW T n 0 9 (expW T n (some 1000007) Q7)).2, D.2) := rD_F (D := ((numW T n 0 9 (expW T n (some 1000007) Q7)).2, D.2)) hD2 hs3 hF3 hS3
  have hH3 := rH_t hH2 (rH_F (s := s) hF3)
  refine z_istore (pc := 121) (i := 7) (ls' := [(0, .ref 3), (1, .long g), (3, .int c1), (4, .int pl), (5, .int c2), (6, .int ((numW T n 0 9 (expW T n (some 1000007) Q7)).1)), (7, .int (kndO (tkw T n (numW T n 0 9 (expW T n (some 1000007) Q7)).2)))]) rfl (by decide) rfl ?_
  refine z_aload_n (pc := 123) (i := 0) (j := 0) rfl rfl rfl ?_
  refine z_getI (pc := 124) rfl fl_Reader_39 hk3.1 rfl ?_
  refine z_eqi (y := fltS (kndS T n (numW T n 0 9 (expW T n (some 1000007) Q7)).2)) (rS_f hD3.1) ?_
  refine z_if_ne (pc := 127) (tgt := 145) rfl (by decide) (fun h127 => ?_) (fun h127 => ?_)
  · exact z_vret (pc := 145) rfl rfl ⟨rfl, hH3, by rw [hED, if_neg h127]; exact hD3⟩
  · obtain ⟨pe, hpe⟩ := rS_g hD3.1 h127
    have hlt : Hn < 8 := hQ8 pe hpe
    refine z_aload_n (pc := 130) (i := 0) (j := 0) rfl rfl rfl ?_
    refine z_getR (pc := 131) (x := s) rfl fl_Reader_21 hk3.1 rfl hk3.2.2.1 ?_
    refine z_lload_n (pc := 134) (i := 1) (j := 1) rfl rfl rfl ?_
    refine z_iload_n (pc := 135) (i := 3) (j := 2) rfl rfl rfl ?_
    refine z_iload (pc := 136) (i := 5) (j := 4) rfl rfl ?_
    refine z_iload (pc := 138) (i := 6) (j := 5) rfl rfl ?_
    refine z_iload (pc := 140) (i := 7) (j := 6) rfl rfl ?_
    refine z_cV (pc := 142) (mc1 := 0) (ms1 := 0) (mc2 := 0) (ms2 := 0) (as := [.long g, .int c1, .int c2, .int ((numW T n 0 9 (expW T n (some 1000007) Q7)).1), .int (kndO (tkw T n (numW T n 0 9 (expW T n (some 1000007) Q7)).2))]) (rest := []) (o := s) rfl rfl hk3.2.2.2.2.2.2.1.1 ok_Street_addHouse rfl rfl cl_Reader_169 (by omega) (Nat.le_of_ble_eq_true rfl) (Nat.le_of_ble_eq_true rfl) (Nat.le_refl _) (Nat.le_refl _) (c_Street_addHouse hk3.2.2.2.2.2.2.1 (H := Hn) ((congrFun (hD3.2.1 s (by omega) (by omega) (by omega)) 11).trans hHn) hlt g c1 c2 (numW T n 0 9 (expW T n (some 1000007) Q7)).1 (kndO (tkw T n (numW T n 0 9 (expW T n (some 1000007) Q7)).2)) 0) (fun r1 w9 hp => ?_) rfl rfl
    obtain ⟨rfl, hw9⟩ := hp
    have hl9 : w9.1.length = w3.1.length := by rw [hw9]; rfl
    refine ⟨⟨Nat.le_of_eq hl9.symm, Or.inl hl9⟩, ?_⟩
    have k := rD_house (g := g) (Hn := Hn) (c1 := c1) (c2 := c2) (c3 := (numW T n 0 9 (expW T n (some 1000007) Q7)).1) (c4 := kndO (tkw T n (numW T n 0 9 (expW T n (some 1000007) Q7)).2)) (QE := kndS T n (numW T n 0 9 (expW T n (some 1000007) Q7)).2) (F := D.2.1) (N := D.2.2) hs3 hD3
    rw [← hw9] at k
    rw [hg pe hpe] at k
    exact z_vret (pc := 145) rfl rfl ⟨rfl, rH_t hH3 k.1, by rw [hED, if_pos h127]; exact k.2⟩
theorem dHouse_e {T : Nat → Int32} {n s Hn : Nat} {D : rDt} (eN : hNo s D = Hn) : dHouse T n s D = if fltS (kndS T n (numW T n 0 9 (expW T n (some 1000007) (hQ7 T n s D))).2) = 0 then (kndS T n (numW T n 0 9 (expW T n (some 1000007) (hQ7 T n s D))).2, z2 (z2 (z2 (z2 (z2 D.2.1 (s + 1) Hn (hCl T n s D).1) (s + 2) Hn (hRw T n s D).1) (s + 3) Hn (numW T n 0 9 (expW T n (some 1000007) (hQ7 T n s D))).1) (s + 4) Hn (kndO (tkw T n (numW T n 0 9 (expW T n (some 1000007) (hQ7 T n s D))).2))) s 11 (nI (Hn + 1)), vp_updL D.2.2 Hn (keyS T n (hQ2 T n s D))) else (kndS T n (numW T n 0 9 (expW T n (some 1000007) (hQ7 T n s D))).2, D.2) := by
  unfold dHouse hF5 hQe hKd hHi
  rw [eN]
set_option maxRecDepth 100000 in
set_option maxHeartbeats 4000000 in
theorem l_house17 {w : zW} {s n : Nat} {T : Nat → Int32} (hk : rdK w s n T) (D : rDt) {Hn : Nat} (hHn : D.2.1 s 11 = nI Hn) (hH8 : Hn ≤ 8) (q1 : Nat ⊕ Int32) (hq1 : q1 = if D.2.1 s 11 < 8 then D.1 else wrg T n 5 D.1) (hD : rD w T n s (q1, D.2)) (d : Nat) (hd : 6 ≤ d) : zS 0 0 d m_Reader_readHouse (fun rv w1 => rv = none ∧ rH s w w1 ∧ rD w1 T n s (dHouse T n s D)) 17 [(0, .ref 3)] [] w := by
  subst hq1
  have eN : hNo s D = Hn := by unfold hNo; rw [hHn]; exact nI_clamp (by omega)
  have hlt8 : ∀ p, hQe T n s D = .inl p → Hn < 8 := fun p hp => by
    have z := (hQe_g hp).1
    rw [hHn] at z
    exact (nI_ltI (b := 8) (by omega) (by decide)).mp z
  have hs3 := rdK_s hk
  have hH := rH_r s w
  refine z_aload_n (pc := 17) (i := 0) (j := 0) rfl rfl rfl ?_
  refine z_cV (pc := 18) (mc1 := 0) (ms1 := 0) (mc2 := 0) (ms2 := 0) (as := []) (rest := []) (o := 3) rfl rfl hk.1 ok_Reader_next rfl rfl cl_Reader_58 (by omega) (Nat.le_of_ble_eq_true rfl) (Nat.le_of_ble_eq_true rfl) (Nat.le_refl _) (Nat.le_refl _) (c_Reader_next hk _ hD.1 4 (by decide)) (fun r1 w1 hp => ?_) rfl rfl
  obtain ⟨rfl, hF1, hS1⟩ := hp
  refine ⟨⟨by rw [hF1.1]; exact Nat.le_refl _, Or.inl (by rw [hF1.1])⟩, ?_⟩
  have hk1 := rdK_F hk hF1
  have hD1 : rD w1 T n s (hQ2 T n s D, D.2) := rD_F (D := ((if D.2.1 s 11 < 8 then D.1 else wrg T n 5 D.1), D.2)) hD hs3 hF1 hS1
  have hH1 := rH_t hH (rH_F (s := s) hF1)
  refine z_aload_n (pc := 21) (i := 0) (j := 0) rfl rfl rfl ?_
  refine z_getL (pc := 22) rfl fl_Reader_137 hk1.1 rfl ?_
  refine z_topl (fun g h_g => ?_)
  refine z_lstore_n (pc := 25) (i := 1) (ls' := [(0, .ref 3), (1, .long g)]) rfl rfl (by decide) rfl ?_
  refine z_aload_n (pc := 26) (i := 0) (j := 0) rfl rfl rfl ?_
  refine z_cV (pc := 27) (mc1 := 0) (ms1 := 0) (mc2 := 0) (ms2 := 0) (as := []) (rest := []) (o := 3) rfl rfl hk1.1 ok_Reader_expectNewName rfl rfl cl_Reader_141 (by omega) (Nat.le_of_ble_eq_true rfl) (Nat.le_of_ble_eq_true rfl) (Nat.le_refl _) (Nat.le_refl _) (c_Reader_expectNewName hk1 _ hD1.1 (H := Hn) ((congrFun (hD1.2.1 s (by omega) (by omega) (by omega)) 11).trans hHn) hH8 5 (by decide)) (fun r1 w2 hp => ?_) rfl rfl
  obtain ⟨rfl, hF2, hS2⟩ := hp
  refine ⟨⟨by rw [hF2.1]; exact Nat.le_refl _, Or.inl (by rw [hF2.1])⟩, ?_⟩
  have hk2 := rdK_F hk1 hF2
  rw [hD1.2.2.2.2.2, ← eN] at hS2
  have hD2 : rD w2 T n s (newS T n D.2.2 (hNo s D) (hQ2 T n s D), D.2) := rD_F (D := (hQ2 T n s D, D.2)) hD1 hs3 hF2 hS2
  have hH2 := rH_t hH1 (rH_F (s := s) hF2)
  refine z_aload_n (pc := 30) (i := 0) (j := 0) rfl rfl rfl ?_
  refine z_gets (pc := 31) (C0 := "SmokeWeds$Word") (n1 := "AT") (d1 := "LSmokeWeds$Word;") (v := .ref 1000006) rfl (by decide +kernel) gl_Reader_144 ?_
  refine z_cV (pc := 34) (mc1 := 0) (ms1 := 0) (mc2 := 0) (ms2 := 0) (as := [.ref 1000006]) (rest := []) (o := 3) rfl rfl hk2.1 ok_Reader_expectWord rfl rfl cl_Reader_147 (by omega) (Nat.le_of_ble_eq_true rfl) (Nat.le_of_ble_eq_true rfl) (Nat.le_refl _) (Nat.le_refl _) (c_Reader_expectWord hk2 _ hD2.1 (c := 1000006) (by decide) (by decide) 5 (by decide)) (fun r1 w3 hp => ?_) rfl rfl
  obtain ⟨rfl, hF3, hS3⟩ := hp
  refine ⟨⟨by rw [hF3.1]; exact Nat.le_refl _, Or.inl (by rw [hF3.1])⟩, ?_⟩
  have hk3 := rdK_F hk2 hF3
  have hD3 : rD w3 T n s (hQ4 T n s D, D.2) := rD_F (D := (newS T n D.2.2 (hNo s D) (hQ2 T n s D), D.2)) hD2 hs3 hF3 hS3
  have hH3 := rH_t hH2 (rH_F (s := s) hF3)
  refine z_aload_n (pc := 37) (i := 0) (j := 0) rfl rfl rfl ?_
  refine z_iconst (pc := 38) (v := 0) rfl (by decide) ?_
  refine z_aload_n (pc := 39) (i := 0) (j := 0) rfl rfl rfl ?_
  refine z_getR (pc := 40) (x := s) rfl fl_Reader_21 hk3.1 rfl hk3.2.2.1 ?_
  refine z_getI (pc := 43) rfl fl_Reader_131 hk3.2.2.2.2.2.2.1.1 rfl ?_
  refine z_eqi (y := D.2.1 s 7) (congrFun (hD3.2.1 s (by omega) (by omega) (by omega)) 7) ?_
  refine z_iconst (pc := 46) (v := 1) rfl (by decide) ?_
  refine z_isub (pc := 47) rfl ?_
  refine z_cV (pc := 48) (mc1 := 0) (ms1 := 0) (mc2 := 0) (ms2 := 0) (as := [.int 0, .int ((D.2.1 s 7) - 1)]) (rest := []) (o := 3) rfl rfl hk3.1 ok_Reader_numberWithin rfl rfl cl_Reader_103 (by omega) (Nat.le_of_ble_eq_true rfl) (Nat.le_of_ble_eq_true rfl) (Nat.le_refl _) (Nat.le_refl _) (c_Reader_numberWithin hk3 _ hD3.1 0 (D.2.1 s 7 - 1) 5 (by decide)) (fun r1 w4 hp => ?_) rfl rfl
  obtain ⟨rfl, hF4, hS4⟩ := hp
  refine ⟨⟨by rw [hF4.1]; exact Nat.le_refl _, Or.inl (by rw [hF4.1])⟩, ?_⟩
  have hk4 := rdK_F hk3 hF4
  have hD4 : rD w4 T n s ((hCl T n s D).2, D.2) := rD_F (D := (hQ4 T n s D, D.2)) hD3 hs3 hF4 hS4
  have hH4 := rH_t hH3 (rH_F (s := s) hF4)
  refine z_istore_n (pc := 51) (i := 3) (ls' := [(0, .ref 3), (1, .long g), (3, .int ((hCl T n s D).1))]) rfl rfl (by decide) rfl ?_
  refine z_aload_n (pc := 52) (i := 0) (j := 0) rfl rfl rfl ?_
  refine z_getI (pc := 53) rfl fl_Reader_151 hk4.1 rfl ?_
  refine z_topi (fun pl h_pl => ?_)
  refine z_istore (pc := 56) (i := 4) (ls' := [(0, .ref 3), (1, .long g), (3, .int ((hCl T n s D).1)), (4, .int pl)]) rfl (by decide) rfl ?_
  refine z_aload_n (pc := 58) (i := 0) (j := 0) rfl rfl rfl ?_
  refine z_iconst (pc := 59) (v := 0) rfl (by decide) ?_
  refine z_aload_n (pc := 60) (i := 0) (j := 0) rfl rfl rfl ?_
  refine z_getR (pc := 61) (x := s) rfl fl_Reader_21 hk4.1 rfl hk4.2.2.1 ?_
  refine z_getI (pc := 64) rfl fl_Reader_134 hk4.2.2.2.2.2.2.1.1 rfl ?_
  refine z_eqi (y := D.2.1 s 8) (congrFun (hD4.2.1 s (by omega) (by omega) (by omega)) 8) ?_
  refine z_iconst (pc := 67) (v := 1) rfl (by decide) ?_
  refine z_isub (pc := 68) rfl ?_
  refine z_cV (pc := 69) (mc1 := 0) (ms1 := 0) (mc2 := 0) (ms2 := 0) (as := [.int 0, .int ((D.2.1 s 8) - 1)]) (rest := []) (o := 3) rfl rfl hk4.1 ok_Reader_numberWithin rfl rfl cl_Reader_103 (by omega) (Nat.le_of_ble_eq_true rfl) (Nat.le_of_ble_eq_true rfl) (Nat.le_refl _) (Nat.le_refl _) (c_Reader_numberWithin hk4 _ hD4.1 0 (D.2.1 s 8 - 1) 5 (by decide)) (fun r1 w5 hp => ?_) rfl rfl
  obtain ⟨rfl, hF5, hS5⟩ := hp
  refine ⟨⟨by rw [hF5.1]; exact Nat.le_refl _, Or.inl (by rw [hF5.1])⟩, ?_⟩
  have hk5 := rdK_F hk4 hF5
  have hD5 : rD w5 T n s ((hRw T n s D).2, D.2) := rD_F (D := ((hCl T n s D).2, D.2)) hD4 hs3 hF5 hS5
  have hH5 := rH_t hH4 (rH_F (s := s) hF5)
  refine z_istore (pc := 72) (i := 5) (ls' := [(0, .ref 3), (1, .long g), (3, .int ((hCl T n s D).1)), (4, .int pl), (5, .int ((hRw T n s D).1))]) rfl (by decide) rfl ?_
  refine z_aload_n (pc := 74) (i := 0) (j := 0) rfl rfl rfl ?_
  refine z_getI (pc := 75) rfl fl_Reader_39 hk5.1 rfl ?_
  refine z_eqi (y := fltS ((hRw T n s D).2)) (rS_f hD5.1) ?_
  refine z_if_ne (pc := 78) (tgt := 101) rfl (by decide) (fun h78 => ?_) (fun h78 => ?_)
  · have e7 : hQ7 T n s D = (hRw T n s D).2 := by unfold hQ7; rw [if_neg h78]
    have hD9 : rD w5 T n s (hQ7 T n s D, D.2) := by rw [e7]; exact hD5
    refine z_mono (fun r w9 h9 => ?_) (l_house101 hk5 D (dHouse T n s D) hHn hH8 g (keyS T n (hQ2 T n s D)) (hQ7 T n s D) _ _ (fun p hp => by rw [h_g]; exact rS_k hD1.1 (hQe_g hp).2) (fun p hp => hlt8 p hp) (dHouse_e eN) _ hD9 d hd)
    exact ⟨h9.1, rH_t hH5 h9.2.1, h9.2.2⟩
  · refine z_aload_n (pc := 81) (i := 0) (j := 0) rfl rfl rfl ?_
    refine z_getR (pc := 82) (x := s) rfl fl_Reader_21 hk5.1 rfl hk5.2.2.1 ?_
    refine z_iload_n (pc := 85) (i := 3) (j := 2) rfl rfl rfl ?_
    refine z_iload (pc := 86) (i := 5) (j := 4) rfl rfl ?_
    refine z_cV (pc := 88) (mc1 := 0) (ms1 := 0) (mc2 := 0) (ms2 := 0) (as := [.int ((hCl T n s D).1), .int ((hRw T n s D).1)]) (rest := []) (o := s) rfl rfl hk5.2.2.2.2.2.2.1.1 ok_Street_hasHouseAt rfl rfl cl_Reader_154 (by omega) (Nat.le_of_ble_eq_true rfl) (Nat.le_of_ble_eq_true rfl) (Nat.le_refl _) (Nat.le_refl _) (c_Street_hasHouseAt hk5.2.2.2.2.2.2.1 (H := Hn) ((congrFun (hD5.2.1 s (by omega) (by omega) (by omega)) 11).trans hHn) hH8 (hCl T n s D).1 (hRw T n s D).1 0) (fun r1 w1 hp => ?_) rfl rfl
    obtain ⟨rfl, hw1⟩ := hp
    rw [hw1]
    refine ⟨⟨Nat.le_refl _, Or.inl rfl⟩, ?_⟩
    rw [hD5.2.1 (s + 1) (by omega) (by omega) (by omega), hD5.2.1 (s + 2) (by omega) (by omega) (by omega)]
    refine z_if_eq (pc := 91) (tgt := 101) rfl (by decide) (fun h91 => ?_) (fun h91 => ?_)
    · have e7 : hQ7 T n s D = (hRw T n s D).2 := by unfold hQ7; rw [if_pos h78, eN, if_neg (fun e => absurd (by rw [if_pos e] at h91; exact h91) (by decide))]
      have hD9 : rD w5 T n s (hQ7 T n s D, D.2) := by rw [e7]; exact hD5
      refine z_mono (fun r w9 h9 => ?_) (l_house101 hk5 D (dHouse T n s D) hHn hH8 g (keyS T n (hQ2 T n s D)) (hQ7 T n s D) _ _ (fun p hp => by rw [h_g]; exact rS_k hD1.1 (hQe_g hp).2) (fun p hp => hlt8 p hp) (dHouse_e eN) _ hD9 d hd)
      exact ⟨h9.1, rH_t hH5 h9.2.1, h9.2.2⟩
    · obtain ⟨p5, hp5⟩ := rS_g hD5.1 h78
      obtain ⟨⟨p4, hp4⟩, _⟩ := numW_g hp5
      have hD4q := hD4.1
      rw [hp4] at hD4q
      have hpl : pl = nI (plS T n (hCl T n s D).2) := by rw [h_pl, hp4]; exact hD4q.2.2.1
      have hple : plS T n (hCl T n s D).2 ≤ 1000 := by rw [hp4]; exact Nat.le_trans (tBeg_le hD4q.2.2.2.2.2.2.2) hk.2.2.2.2.2.2.2.2.2.1
      have e7 : hQ7 T n s D = wrgA (nI (plS T n (hCl T n s D).2)) 3 (hRw T n s D).2 := by unfold hQ7; rw [if_pos h78, eN, if_pos (Decidable.byContradiction (fun e => h91 (if_neg e)))]
      rw [hpl]
      refine z_aload_n (pc := 94) (i := 0) (j := 0) rfl rfl rfl ?_
      refine z_iload (pc := 95) (i := 4) (j := 3) rfl rfl ?_
      refine z_iconst (pc := 97) (v := 3) rfl (by decide) ?_
      refine z_cV (pc := 98) (mc1 := 0) (ms1 := 0) (mc2 := 0) (ms2 := 0) (as := [.int (nI (plS T n (hCl T n s D).2)), .int 3]) (rest := []) (o := 3) rfl rfl hk5.1 ok_Reader_wrongAt rfl rfl cl_Reader_158 (by omega) (Nat.le_of_ble_eq_true rfl) (Nat.le_of_ble_eq_true rfl) (Nat.le_refl _) (Nat.le_refl _) (c_Reader_wrongAt hk5 _ hD5.1 (k := 3) (a := plS T n (hCl T n s D).2) (by decide) (by decide) hple 0) (fun r1 w6 hp => ?_) rfl rfl
      obtain ⟨rfl, hF6, hS6⟩ := hp
      refine ⟨⟨by rw [hF6.1]; exact Nat.le_refl _, Or.inl (by rw [hF6.1])⟩, ?_⟩
      have hk6 := rdK_F hk5 hF6
      have hS6b : rS w6 T n (hQ7 T n s D) := by rw [e7]; exact hS6
      have hD6 : rD w6 T n s (hQ7 T n s D, D.2) := rD_F (D := ((hRw T n s D).2, D.2)) hD5 hs3 hF6 hS6b
      have hH6 := rH_t hH5 (rH_F (s := s) hF6)
      have hD9 := hD6
      refine z_mono (fun r w9 h9 => ?_) (l_house101 hk6 D (dHouse T n s D) hHn hH8 g (keyS T n (hQ2 T n s D)) (hQ7 T n s D) _ _ (fun p hp => by rw [h_g]; exact rS_k hD1.1 (hQe_g hp).2) (fun p hp => hlt8 p hp) (dHouse_e eN) _ hD9 d hd)
      exact ⟨h9.1, rH_t hH6 h9.2.1, h9.2.2⟩
set_option maxRecDepth 100000 in
set_option maxHeartbeats 4000000 in
theorem c_Reader_readHouse {w : zW} {s n : Nat} {T : Nat → Int32} (hk : rdK w s n T) (D : rDt) (hD : rD w T n s D) {Hn : Nat} (hHn : D.2.1 s 11 = nI Hn) (hH8 : Hn ≤ 8) (d : Nat) (hd : 6 ≤ d) : zS 0 0 d m_Reader_readHouse (fun rv w1 => rv = none ∧ rH s w w1 ∧ rD w1 T n s (dHouse T n s D)) 0 [(0, .ref 3)] [] w := by
  have hs3 := rdK_s hk
  have hH := rH_r s w
  refine z_aload_n (pc := 0) (i := 0) (j := 0) rfl rfl rfl ?_
  refine z_getR (pc := 1) (x := s) rfl fl_Reader_21 hk.1 rfl hk.2.2.1 ?_
  refine z_getI (pc := 4) rfl fl_Reader_128 hk.2.2.2.2.2.2.1.1 rfl ?_
  refine z_eqi (y := D.2.1 s 11) (congrFun (hD.2.1 s (by omega) (by omega) (by omega)) 11) ?_
  refine z_bipush (pc := 7) (v := 8) rfl (by decide) ?_
  refine z_icmp_lt (pc := 9) (tgt := 17) rfl (by decide) (fun h9 => ?_) (fun h9 => ?_)
  · refine z_mono (fun r w9 h9 => ?_) (l_house17 hk D hHn hH8 _ (by rw [if_pos h9]) hD d hd)
    exact ⟨h9.1, rH_t hH h9.2.1, h9.2.2⟩
  · refine z_aload_n (pc := 12) (i := 0) (j := 0) rfl rfl rfl ?_
    refine z_iconst (pc := 13) (v := 5) rfl (by decide) ?_
    refine z_cV (pc := 14) (mc1 := 0) (ms1 := 0) (mc2 := 0) (ms2 := 0) (as := [.int 5]) (rest := []) (o := 3) rfl rfl hk.1 ok_Reader_wrong rfl rfl cl_Reader_122 (by omega) (Nat.le_of_ble_eq_true rfl) (Nat.le_of_ble_eq_true rfl) (Nat.le_refl _) (Nat.le_refl _) (c_Reader_wrong5 hk _ hD.1 1 (by decide)) (fun r1 w1 hp => ?_) rfl rfl
    obtain ⟨rfl, hF1, hS1⟩ := hp
    refine ⟨⟨by rw [hF1.1]; exact Nat.le_refl _, Or.inl (by rw [hF1.1])⟩, ?_⟩
    have hk1 := rdK_F hk hF1
    have hD1 : rD w1 T n s (wrg T n 5 D.1, D.2) := rD_F (D := (D)) hD hs3 hF1 hS1
    have hH1 := rH_t hH (rH_F (s := s) hF1)
    refine z_mono (fun r w9 h9 => ?_) (l_house17 hk1 D hHn hH8 _ (by rw [if_neg h9]) hD1 d hd)
    exact ⟨h9.1, rH_t hH1 h9.2.1, h9.2.2⟩
