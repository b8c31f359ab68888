/-! THE OBJECT'S HOURS -/
theorem hourC_st {s C R H : Nat} {F G : Int32 → Int32 → Int32 → Int32} {f g : Nat → Nat → Int32} (hss : s = 4 ∨ s = 32) (h : hourC s C R H F G f g) : ∀ o, (o = s ∨ o = s + 1 ∨ o = s + 2 ∨ o = s + 3 ∨ o = s + 4 ∨ o = s + 6 ∨ o = s + 7 ∨ o = s + 9 ∨ o = s + 10) → g o = f o := fun o ho => h.1 o (by omega) (by omega) (by omega)
def hrS (s C R H : Nat) (F G : Int32 → Int32 → Int32 → Int32) (f : Nat → Nat → Int32) : Prop := zXi f s C R H F G ∧ stIn f s C R H
theorem hrS_n {s C R H : Nat} {F G : Int32 → Int32 → Int32 → Int32} {f g : Nat → Nat → Int32} (hss : s = 4 ∨ s = 32) (h : hourC s C R H F G f g) (k : hrS s C R H F G f) : hrS s C R H F G g := by
  have e := hourC_st hss h
  exact ⟨zXi_c k.1 (e s (by omega)) (e _ (by omega)) (e _ (by omega)) (e _ (by omega)) (e _ (by omega)), stIn_c k.2 (e _ (by omega)) (e _ (by omega))⟩
set_option maxRecDepth 100000 in
set_option maxHeartbeats 4000000 in
theorem l_SW_hours {w : zW} {s C R H : Nat} {F G : Int32 → Int32 → Int32 → Int32} (hx : zX w s) {n : Nat} (hn : n ≤ 1000) {J : Nat → (Nat → Nat → Int32) → Prop} (hst : ∀ t f g, J t f → hourC s C R H F G f g → J (t + 1) g) (d : Nat) (hd : 4 ≤ d) : ∀ (m t : Nat) (f : Nat → Nat → Int32), t + m = n → hrS s C R H F G f → J t f → zS 0 0 d m_SW_hours (fun rv w1 => ∃ f, w1 = zuI w f ∧ J n f ∧ hrS s C R H F G f ∧ rv = some (.int (f 21 8))) 16 [(0, .ref 0), (1, .int (nI n)), (2, .int (nI t))] [] (zuI w f) := by
  have hss := (hx.2.2.2.2.2.2.2.2.2.2.2.2.2.2.2.2)
  intro m
  induction m with
  | zero =>
    intro t f htm hS hJ
    obtain rfl : t = n := by omega
    refine z_iload_n (pc := 16) (i := 2) (j := 2) rfl rfl rfl ?_
    refine z_iload_n (pc := 17) (i := 1) (j := 1) rfl rfl rfl ?_
    refine z_icmp_ge (pc := 18) (tgt := 84) rfl (by decide) (fun h18 => ?_) (fun h18 => absurd (Int32.le_refl _) h18)
    refine z_aload_n (pc := 84) (i := 0) (j := 0) rfl rfl rfl ?_
    refine z_getR (pc := 85) (x := 21) rfl fl_SW_31 hx.1 rfl hx.2.2.2.2.1 ?_
    refine z_getI (pc := 88) rfl fl_SW_104 (hx.2.2.2.2.2.2.2.2.2.2.2.2.1).1 rfl ?_
    exact z_iret (pc := 91) rfl rfl ⟨f, rfl, hJ, hS, rfl⟩
  | succ m ih =>
    intro t f htm hS hJ
    · skip
      refine z_iload_n (pc := 16) (i := 2) (j := 2) rfl rfl rfl ?_
      refine z_iload_n (pc := 17) (i := 1) (j := 1) rfl rfl rfl ?_
      refine z_icmp_ge (pc := 18) (tgt := 84) rfl (by decide) (fun h18 => ?_) (fun h18 => ?_)
      · exact absurd h18 (nI_ge (b := n) (by omega) (by omega))
      · refine z_aload_n (pc := 21) (i := 0) (j := 0) rfl rfl rfl ?_
        refine z_getR (pc := 22) (x := s) rfl fl_SW_48 hx.1 rfl hx.2.2.2.2.2.2.2.1 ?_
        refine z_aload_n (pc := 25) (i := 0) (j := 0) rfl rfl rfl ?_
        refine z_getR (pc := 26) (x := 21) rfl fl_SW_31 hx.1 rfl hx.2.2.2.2.1 ?_
        refine z_getI (pc := 29) rfl fl_SW_104 hx.2.2.2.2.2.2.2.2.2.2.2.2.1.1 rfl ?_
        refine z_eqi (y := f 21 8) rfl ?_
        refine z_cV (pc := 32) (mc1 := 0) (ms1 := 0) (mc2 := 0) (ms2 := 0) (as := [.int (f 21 8)]) (rest := []) (o := s) rfl rfl hx.2.2.2.2.2.2.2.2.2.2.2.2.2.2.2.1.1 ok_Street_windIn rfl rfl cl_SW_107 (by omega) (Nat.le_of_ble_eq_true rfl) (Nat.le_of_ble_eq_true rfl) (Nat.le_refl _) (Nat.le_refl _) (c_Street_windIn (w := zuI w f) (hx.2.2.2.2.2.2.2.2.2.2.2.2.2.2.2.1) hS.1.2.2.2.2.2.2.1 (f 21 8) 2 (by decide)) (fun r1 w1 hp => ?_) rfl rfl
        obtain ⟨f1, hw1, rfl, hf1⟩ := hp
        rw [hw1, (cyv_n F (f 21 8)).1]
        refine ⟨⟨Nat.le_refl _, Or.inl rfl⟩, ?_⟩
        have e21 : f1 21 = f 21 := hf1 21 (by omega)
        have hi1 : zXi f1 s C R H F G := zXi_c hS.1 (hf1 _ (by omega)) (hf1 _ (by omega)) (hf1 _ (by omega)) (hf1 _ (by omega)) (hf1 _ (by omega))
        refine z_istore_n (pc := 35) (i := 3) (ls' := [(0, .ref 0), (1, .int (nI n)), (2, .int (nI t)), (3, .int (nI (cyv F (f 21 8))))]) rfl rfl (by decide) rfl ?_
        refine z_aload_n (pc := 36) (i := 0) (j := 0) rfl rfl rfl ?_
        refine z_getR (pc := 37) (x := 16) rfl fl_SW_24 hx.1 rfl hx.2.2.2.1 ?_
        refine z_aload_n (pc := 40) (i := 0) (j := 0) rfl rfl rfl ?_
        refine z_getR (pc := 41) (x := s) rfl fl_SW_48 hx.1 rfl hx.2.2.2.2.2.2.2.1 ?_
        refine z_aload_n (pc := 44) (i := 0) (j := 0) rfl rfl rfl ?_
        refine z_getR (pc := 45) (x := 21) rfl fl_SW_31 hx.1 rfl hx.2.2.2.2.1 ?_
        refine z_getI (pc := 48) rfl fl_SW_104 hx.2.2.2.2.2.2.2.2.2.2.2.2.1.1 rfl ?_
        refine z_eqi (y := f 21 8) (congrFun e21 8) ?_
        refine z_iload_n (pc := 51) (i := 3) (j := 3) rfl rfl rfl ?_
        refine z_aload_n (pc := 52) (i := 0) (j := 0) rfl rfl rfl ?_
        refine z_getR (pc := 53) (x := 21) rfl fl_SW_31 hx.1 rfl hx.2.2.2.2.1 ?_
        refine z_cV (pc := 56) (mc1 := 0) (ms1 := 0) (mc2 := 0) (ms2 := 0) (as := []) (rest := [.int (nI (cyv F (f 21 8))), .int (f 21 8), .ref s, .ref 16]) (o := 21) rfl rfl hx.2.2.2.2.2.2.2.2.2.2.2.2.1.1 ok_Life_burning rfl rfl cl_SW_126 (by omega) (Nat.le_of_ble_eq_true rfl) (Nat.le_of_ble_eq_true rfl) (Nat.le_refl _) (Nat.le_refl _) (c_Life_burning (w := zuI w f1) (hx.2.2.2.2.2.2.2.2.2.2.2.2.1) 0) (fun r1 w1 hp => ?_) rfl rfl
        obtain ⟨rfl, hw1b⟩ := hp
        rw [hw1b, show zI (zuI w f1) 21 10 &&& (zI (zuI w f1) 21 11 ^^^ (-1)) = hourB f from by show f1 21 10 &&& (f1 21 11 ^^^ (-1)) = _; rw [e21]; rfl]
        refine ⟨⟨Nat.le_refl _, Or.inl rfl⟩, ?_⟩
        refine z_cV (pc := 59) (mc1 := 0) (ms1 := 0) (mc2 := 0) (ms2 := 0) (as := [.ref s, .int (f 21 8), .int (nI (cyv F (f 21 8))), .int (hourB f)]) (rest := []) (o := 16) rfl rfl hx.2.2.2.2.2.2.2.2.2.2.2.1.1 ok_Smoke_rise rfl rfl cl_SW_136 (by omega) (Nat.le_of_ble_eq_true rfl) (Nat.le_of_ble_eq_true rfl) (Nat.le_refl _) (Nat.le_refl _) (c_Smoke_rise (w := zuI w f1) (a := 16) (s := s) (C := C) (R := R) (H := H) (G := G) (hx.2.2.2.2.2.2.2.2.2.2.2.1) (hx.2.2.2.2.2.2.2.2.2.2.2.2.2.2.2.1) hi1.2.2.2.2.2.2.2 hi1.1 hi1.2.1 hi1.2.2.1 hi1.2.2.2.1 hi1.2.2.2.2.1 hi1.2.2.2.2.2.1 (by omega) (f 21 8) (hourB f) (cyv_n F (f 21 8)).2 3 (by decide)) (fun r1 w1 hp => ?_) rfl rfl
        obtain ⟨f2, hw2, rfl, hf2⟩ := hp
        rw [hw2]
        refine ⟨⟨Nat.le_refl _, Or.inl rfl⟩, ?_⟩
        have ho := hour_of (F := F) hss hi1.2.2.2.1 hi1.2.2.2.2.1 hi1.2.2.2.2.2.1 hS.2 hf1 hf2
        have h11 : f2 s 11 = nI H := by rw [hf2 s (by omega), riseM_o _ _ _ _ _ _ _ _ _ (by omega) (by omega) (by omega) (by omega)]; exact hi1.2.2.1
        refine z_aload_n (pc := 62) (i := 0) (j := 0) rfl rfl rfl ?_
        refine z_getR (pc := 63) (x := 21) rfl fl_SW_31 hx.1 rfl hx.2.2.2.2.1 ?_
        refine z_aload_n (pc := 66) (i := 0) (j := 0) rfl rfl rfl ?_
        refine z_getR (pc := 67) (x := s) rfl fl_SW_48 hx.1 rfl hx.2.2.2.2.2.2.2.1 ?_
        refine z_iload_n (pc := 70) (i := 3) (j := 3) rfl rfl rfl ?_
        refine z_aload_n (pc := 71) (i := 0) (j := 0) rfl rfl rfl ?_
        refine z_getR (pc := 72) (x := 16) rfl fl_SW_24 hx.1 rfl hx.2.2.2.1 ?_
        refine z_cV (pc := 75) (mc1 := 0) (ms1 := 0) (mc2 := 0) (ms2 := 0) (as := [.ref s, .int (nI (cyv F (f 21 8))), .ref 16]) (rest := []) (o := 21) rfl rfl hx.2.2.2.2.2.2.2.2.2.2.2.2.1.1 ok_Life_pass rfl rfl cl_SW_139 (by omega) (Nat.le_of_ble_eq_true rfl) (Nat.le_of_ble_eq_true rfl) (Nat.le_refl _) (Nat.le_refl _) (c_Life_pass (w := zuI w f2) (l := 21) (s := s) (a := 16) (H := H) (hx.2.2.2.2.2.2.2.2.2.2.2.2.1) (hx.2.2.2.2.2.2.2.2.2.2.2.2.2.2.2.1) (hx.2.2.2.2.2.2.2.2.2.2.2.1) (by omega) h11 hi1.2.2.2.2.2.1 ho.1 (nI (cyv F (f 21 8))) 3 (by decide)) (fun r1 w1 hp => ?_) rfl rfl
        obtain ⟨rfl, hw3⟩ := hp
        rw [hw3]
        refine ⟨⟨Nat.le_refl _, Or.inl rfl⟩, ?_⟩
        refine z_iinc (pc := 78) (i := 2) (j := 2) (v := nI (t + 1)) (ls' := [(0, .ref 0), (1, .int (nI n)), (2, .int (nI (t + 1))), (3, .int (nI (cyv F (f 21 8))))]) rfl rfl (nI_1 t) (by decide) rfl ?_
        refine z_goto (pc := 81) (tgt := 16) rfl (by decide) ?_
        have hS2 := hrS_n hss ho.2 hS
        have hJ2 := hst t f _ hJ ho.2
        refine z_drop ?_ (ih (t + 1) _ (by omega) hS2 hJ2)
        simp
set_option maxRecDepth 100000 in
set_option maxHeartbeats 4000000 in
theorem c_SW_hours {w : zW} {s C R H : Nat} {F G : Int32 → Int32 → Int32 → Int32} (hx : zX w s) (hi : zXi (zI w) s C R H F G) (hs : stIn (zI w) s C R H) {J : Nat → (Nat → Nat → Int32) → Prop} (hJ : J 0 (zI w)) (hst : ∀ t f g, J t f → hourC s C R H F G f g → J (t + 1) g) (b : Int32) (d : Nat) (hd : 4 ≤ d) : zS 0 0 d m_SW_hours (fun rv w1 => ∃ f, w1 = zuI w f ∧ (((b < 1 ∨ ¬ b ≤ 1000) ∧ f = zI w ∧ rv = some (.int (-1))) ∨ (¬ b < 1 ∧ b ≤ 1000 ∧ J b.toNatClampNeg f ∧ hrS s C R H F G f ∧ rv = some (.int (f 21 8))))) 0 [(0, .ref 0), (1, .int b)] [] w := by
  refine z_iload_n (pc := 0) (i := 1) (j := 1) rfl rfl rfl ?_
  refine z_iconst (pc := 1) (v := 1) rfl (by decide) ?_
  refine z_icmp_lt (pc := 2) (tgt := 12) rfl (by decide) (fun h2 => ?_) (fun h2 => ?_)
  · refine z_iconst (pc := 12) (v := (-1)) rfl (by decide) ?_
    exact z_iret (pc := 13) rfl rfl ⟨zI w, rfl, Or.inl ⟨Or.inl h2, rfl, rfl⟩⟩
  · refine z_iload_n (pc := 5) (i := 1) (j := 1) rfl rfl rfl ?_
    refine z_sipush (pc := 6) (v := 1000) rfl (by decide) ?_
    refine z_icmp_le (pc := 9) (tgt := 14) rfl (by decide) (fun h9 => ?_) (fun h9 => ?_)
    · have h2b := h2
      have h9b := h9
      obtain ⟨n, hn, rfl⟩ := nI_of2 (x := b) (M := 1000) (n := 1000) rfl (fun z => h2 (Int32.lt_trans z (by decide))) h9
      refine z_iconst (pc := 14) (v := 0) rfl (by decide) ?_
      refine z_istore_n (pc := 15) (i := 2) (ls' := [(0, .ref 0), (1, .int (nI n)), (2, .int 0)]) rfl rfl (by decide) rfl ?_
      refine z_mono (fun r w9 h9 => ?_) (l_SW_hours hx hn hst d hd n 0 (zI w) (by omega) ⟨hi, hs⟩ hJ)
      obtain ⟨f9, a1, a2, a3, a4⟩ := h9
      refine ⟨f9, a1, Or.inr ⟨h2b, h9b, by rw [nI_clamp (by omega)]; exact a2, a3, a4⟩⟩
    · refine z_iconst (pc := 12) (v := (-1)) rfl (by decide) ?_
      exact z_iret (pc := 13) rfl rfl ⟨zI w, rfl, Or.inl ⟨Or.inr h9, rfl, rfl⟩⟩
