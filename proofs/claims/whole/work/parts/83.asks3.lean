/-! THE OBJECT'S ASKS THAT MAKE SMOKE: what they leave, and whom they find to meet -/
def cFr (s : Nat) (w : zW) (f : Nat → Nat → Int32) : Prop := ∀ o, o ≠ s + 8 → o ≠ s + 11 → o ≠ 17 → o ≠ 18 → o ≠ 19 → o ≠ 20 → f o = zI w o
def cset (f : Nat → Nat → Int32) (s C R yv : Nat) (G : Int32 → Int32 → Int32 → Int32) (hour burn : Int32) (H j : Nat) : Int32 := if j < H then mset (vst f s) C R yv G hour burn H j else 0
def cyv (F : Int32 → Int32 → Int32 → Int32) (x : Int32) : Nat := (fmod8 (F x 0 0)).toNatClampNeg
theorem cyv_n (F : Int32 → Int32 → Int32 → Int32) (x : Int32) : fmod8 (F x 0 0) = nI (cyv F x) ∧ cyv F x < 8 := by
  obtain ⟨k, h1, h2⟩ := fmod8_n (F x 0 0)
  unfold cyv
  rw [h2, nI_clamp (by omega)]
  exact ⟨rfl, h1⟩
theorem cset_c {f g : Nat → Nat → Int32} {s : Nat} (e1 : g (s + 1) = f (s + 1)) (e2 : g (s + 2) = f (s + 2)) (e3 : g (s + 3) = f (s + 3)) (e4 : g (s + 4) = f (s + 4)) (C R yv : Nat) (G : Int32 → Int32 → Int32 → Int32) (hour burn : Int32) (H j : Nat) : cset g s C R yv G hour burn H j = cset f s C R yv G hour burn H j := by
  unfold cset
  rw [mset_c (f := vst f s) (g := vst g s) e1 e2 e3 e4]
theorem rise_cset {f : Nat → Nat → Int32} {a s C R H yv : Nat} {G : Int32 → Int32 → Int32 → Int32} {hour burn : Int32} (hC : C ≤ 12) (hR : R ≤ 12) (hH : H ≤ 8) (hy : yv < 8) (hsa : s + 12 ≤ a ∨ a + 5 ≤ s) (hs : stIn f s C R H) {j : Nat} (hj : j < 8) : riseM f a s C R yv G hour burn H (a + 1) j = cset f s C R yv G hour burn H j := by
  unfold cset
  by_cases h : j < H
  · rw [if_pos h]; exact rise_met hC hR hH hy hsa hs h
  · rw [if_neg h]; exact rise_0 hC hR hH hy hsa hs (by omega) hj
theorem stIn_c {f g : Nat → Nat → Int32} {s C R H : Nat} (h : stIn f s C R H) (e1 : g (s + 1) = f (s + 1)) (e2 : g (s + 2) = f (s + 2)) : stIn g s C R H := fun k hk => by
  rw [e1, e2]; exact h k hk
theorem cFr_r (s : Nat) (w : zW) : cFr s w (zI w) := fun _ _ _ _ _ _ _ => rfl
theorem zXi_F {w : zW} {f : Nat → Nat → Int32} {s C R H : Nat} {F G : Int32 → Int32 → Int32 → Int32} (hss : s = 4 ∨ s = 32) (h : zXi (zI w) s C R H F G) (hf : cFr s w f) : zXi f s C R H F G := zXi_c h (hf _ (by omega) (by omega) (by omega) (by omega) (by omega) (by omega)) (hf _ (by omega) (by omega) (by omega) (by omega) (by omega) (by omega)) (hf _ (by omega) (by omega) (by omega) (by omega) (by omega) (by omega)) (hf _ (by omega) (by omega) (by omega) (by omega) (by omega) (by omega)) (hf _ (by omega) (by omega) (by omega) (by omega) (by omega) (by omega))
theorem st_F {w : zW} {f : Nat → Nat → Int32} {s : Nat} (hss : s = 4 ∨ s = 32) (hf : cFr s w f) : f (s + 1) = zI w (s + 1) ∧ f (s + 2) = zI w (s + 2) ∧ f (s + 3) = zI w (s + 3) ∧ f (s + 4) = zI w (s + 4) := ⟨hf _ (by omega) (by omega) (by omega) (by omega) (by omega) (by omega), hf _ (by omega) (by omega) (by omega) (by omega) (by omega) (by omega), hf _ (by omega) (by omega) (by omega) (by omega) (by omega) (by omega), hf _ (by omega) (by omega) (by omega) (by omega) (by omega) (by omega)⟩
theorem c_airF {w : zW} {s C R H : Nat} {F G : Int32 → Int32 → Int32 → Int32} (hx : zX w s) (hi : zXi (zI w) s C R H F G) (hs : stIn (zI w) s C R H) {f : Nat → Nat → Int32} (hf : cFr s w f) (hour u : Int32) {yv : Nat} (hy : yv < 8) (d : Nat) (hd : 3 ≤ d) : zS 0 0 d m_Smoke_rise (fun rv w1 => ∃ f1, w1 = zuI w f1 ∧ rv = none ∧ cFr s w f1 ∧ ∀ j, j < 8 → f1 17 j = cset (zI w) s C R yv G hour u H j) 0 [(0, .ref 16), (1, .ref s), (2, .int hour), (3, .int (nI yv)), (4, .int u)] [] (zuI w f) := by
  have hss := (hx.2.2.2.2.2.2.2.2.2.2.2.2.2.2.2.2)
  have hi1 := zXi_F hss hi hf
  obtain ⟨e1, e2, e3, e4⟩ := st_F hss hf
  refine z_mono ?_ (c_Smoke_rise (w := zuI w f) (a := 16) (s := s) (C := C) (R := R) (H := H) (G := G) (hx.2.2.2.2.2.2.2.2.2.2.2.1) (hx.2.2.2.2.2.2.2.2.2.2.2.2.2.2.2.1) hi1.2.2.2.2.2.2.2 hi1.1 hi1.2.1 hi1.2.2.1 hi1.2.2.2.1 hi1.2.2.2.2.1 hi1.2.2.2.2.2.1 (by omega) hour u hy d hd)
  rintro r w1 ⟨f1, h1, h2, h3⟩
  refine ⟨f1, h1, h2, fun o a1 a2 a3 a4 a5 a6 => ?_, fun j hj => ?_⟩
  · rw [h3 o a2, riseM_o _ _ _ _ _ _ _ _ _ a3 a4 a5 a6]
    exact hf o a1 a2 a3 a4 a5 a6
  · rw [h3 17 (by omega)]
    show riseM f 16 s C R yv G hour u H (16 + 1) j = _
    rw [rise_cset (f := f) hi.2.2.2.1 hi.2.2.2.2.1 hi.2.2.2.2.2.1 hy (by omega) (stIn_c hs e1 e2) hj]
    exact cset_c e1 e2 e3 e4 C R yv G hour u H j
theorem c_riseF {w : zW} {s C R H : Nat} {F G : Int32 → Int32 → Int32 → Int32} (hx : zX w s) (hi : zXi (zI w) s C R H F G) (hs : stIn (zI w) s C R H) {f : Nat → Nat → Int32} (hf : cFr s w f) (b u : Int32) (d : Nat) (hd : 4 ≤ d) : zS 0 0 d m_SW_rise (fun rv w1 => ∃ f1, w1 = zuI w f1 ∧ rv = some (.int (nI (cyv F (zI w 21 8 + b)))) ∧ cFr s w f1 ∧ ∀ j, j < 8 → f1 17 j = cset (zI w) s C R (cyv F (zI w 21 8 + b)) G (zI w 21 8 + b) u H j) 0 [(0, .ref 0), (1, .int b), (2, .int u)] [] (zuI w f) := by
  have hss := (hx.2.2.2.2.2.2.2.2.2.2.2.2.2.2.2.2)
  have hi1 := zXi_F hss hi hf
  obtain ⟨e1, e2, e3, e4⟩ := st_F hss hf
  have e21 : f 21 = zI w 21 := hf 21 (by omega) (by omega) (by omega) (by omega) (by omega) (by omega)
  refine z_mono ?_ (c_SW_rise (w := zuI w f) hx hi1 b u d hd)
  rintro r w1 ⟨f1, yv, h1, hy, h2, h3, h4⟩
  obtain ⟨n1, n2⟩ := cyv_n F (zI w 21 8 + b)
  have e8 : zI (zuI w f) 21 8 = zI w 21 8 := congrFun e21 8
  rw [e8] at h2 h4
  have ey : yv = cyv F (zI w 21 8 + b) := (nI_eq (by omega) (by omega)).mp (h2.symm.trans n1)
  subst ey
  refine ⟨f1, h1, h3, fun o a1 a2 a3 a4 a5 a6 => ?_, fun j hj => ?_⟩
  · rw [h4 o a1 a2, riseM_o _ _ _ _ _ _ _ _ _ a3 a4 a5 a6]
    exact hf o a1 a2 a3 a4 a5 a6
  · rw [h4 17 (by omega) (by omega)]
    show riseM f 16 s C R _ G _ u H (16 + 1) j = _
    rw [rise_cset (f := f) hi.2.2.2.1 hi.2.2.2.2.1 hi.2.2.2.2.2.1 hy (by omega) (stIn_c hs e1 e2) hj]
    exact cset_c e1 e2 e3 e4 C R _ G _ u H j
def onlyC (m : Nat → Int32) (i j : Nat) : Int32 := if m i = bitI j then (if m j = bitI i then (if rsum (fun k => bitc (m k)) 8 / 2 = 1 then 1 else 0) else 0) else 0
set_option maxRecDepth 100000 in
set_option maxHeartbeats 4000000 in
theorem c_Smoke_onlyMet {w : zW} {a : Nat} (ha : zAir w a) {i j : Nat} (hi8 : i < 8) (hj8 : j < 8) (d : Nat) (hd : 2 ≤ d) : zS 0 0 d m_Smoke_onlyMet (fun rv w1 => rv = some (.int (onlyC (zI w (a + 1)) i j)) ∧ w1 = w) 0 [(0, .ref a), (1, .int (nI i)), (2, .int (nI j))] [] w := by
  refine z_aload_n (pc := 0) (i := 0) (j := 0) rfl rfl rfl ?_
  refine z_getR (pc := 1) (x := a + 1) rfl fl_Smoke_9 ha.1 rfl ha.2.2.2.2.2.1 ?_
  refine z_iload_n (pc := 4) (i := 1) (j := 1) rfl rfl rfl ?_
  refine z_iald (pc := 5) rfl ha.2.1 (vp_in_nI (n := i) (N := 8) hi8 (by decide)) ?_
  refine z_eqi (y := zI w (a + 1) i) (by rw [nI_clamp (by omega)]) ?_
  refine z_iconst (pc := 6) (v := 1) rfl (by decide) ?_
  refine z_iload_n (pc := 7) (i := 2) (j := 2) rfl rfl rfl ?_
  refine z_ishl (pc := 8) rfl ?_
  refine z_icmp_ne (pc := 9) (tgt := 39) rfl (by decide) (fun h9 => ?_) (fun h9 => ?_)
  · refine z_iconst (pc := 39) (v := 0) rfl (by decide) ?_
    exact z_zret (pc := 40) rfl rfl (by decide) ⟨by unfold onlyC bitI; rw [if_neg h9], rfl⟩
  · refine z_aload_n (pc := 12) (i := 0) (j := 0) rfl rfl rfl ?_
    refine z_getR (pc := 13) (x := a + 1) rfl fl_Smoke_9 ha.1 rfl ha.2.2.2.2.2.1 ?_
    refine z_iload_n (pc := 16) (i := 2) (j := 2) rfl rfl rfl ?_
    refine z_iald (pc := 17) rfl ha.2.1 (vp_in_nI (n := j) (N := 8) hj8 (by decide)) ?_
    refine z_eqi (y := zI w (a + 1) j) (by rw [nI_clamp (by omega)]) ?_
    refine z_iconst (pc := 18) (v := 1) rfl (by decide) ?_
    refine z_iload_n (pc := 19) (i := 1) (j := 1) rfl rfl rfl ?_
    refine z_ishl (pc := 20) rfl ?_
    refine z_icmp_ne (pc := 21) (tgt := 39) rfl (by decide) (fun h21 => ?_) (fun h21 => ?_)
    · refine z_iconst (pc := 39) (v := 0) rfl (by decide) ?_
      exact z_zret (pc := 40) rfl rfl (by decide) ⟨by unfold onlyC bitI; rw [if_pos h9, if_neg h21], rfl⟩
    · refine z_aload_n (pc := 24) (i := 0) (j := 0) rfl rfl rfl ?_
      refine z_getR (pc := 25) (x := a + 1) rfl fl_Smoke_9 ha.1 rfl ha.2.2.2.2.2.1 ?_
      refine z_cSN (pc := 28) (mc1 := 0) (ms1 := 0) (mc2 := 0) (ms2 := 0) (as := [.ref (a + 1)]) (rest := []) ok_SW_pairsIn rfl rfl cl_Smoke_68 (by omega) (Nat.le_of_ble_eq_true rfl) (Nat.le_of_ble_eq_true rfl) (Nat.le_refl _) (Nat.le_refl _) (c_SW_pairsIn (w := w) (o := a + 1) (N := 8) ha.2.1 (by decide) 1 (by decide)) (fun r1 w1 hp => ?_) rfl rfl
      obtain ⟨rfl, hw1⟩ := hp
      rw [hw1]
      refine ⟨⟨Nat.le_refl _, Or.inl rfl⟩, ?_⟩
      refine z_iconst (pc := 31) (v := 1) rfl (by decide) ?_
      refine z_icmp_ne (pc := 32) (tgt := 39) rfl (by decide) (fun h32 => ?_) (fun h32 => ?_)
      · refine z_iconst (pc := 39) (v := 0) rfl (by decide) ?_
        exact z_zret (pc := 40) rfl rfl (by decide) ⟨by unfold onlyC bitI; rw [if_pos h9, if_pos h21, if_neg h32], rfl⟩
      · refine z_iconst (pc := 35) (v := 1) rfl (by decide) ?_
        refine z_goto (pc := 36) (tgt := 40) rfl (by decide) ?_
        exact z_zret (pc := 40) rfl rfl (by decide) ⟨by unfold onlyC bitI; rw [if_pos h9, if_pos h21, if_pos h32], rfl⟩
