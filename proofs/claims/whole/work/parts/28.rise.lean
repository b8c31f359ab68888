theorem pcut_n (v : Int32) : ∃ c : Nat, c ≤ 20 ∧ pcut v = nI c := by
  unfold pcut
  by_cases h : 0 < (if v < 20 then v else 20)
  · rw [if_pos h]
    refine nI_of2 (M := 20) rfl (fun z => absurd (Int32.lt_trans h z) (by decide)) ?_
    by_cases h2 : v < 20
    · rw [if_pos h2]; exact Int32.le_of_lt h2
    · rw [if_neg h2]; exact Int32.le_refl _
  · rw [if_neg h]; exact ⟨0, by omega, rfl⟩
theorem plenK_n (k v : Int32) : ∃ n : Nat, n ≤ 42 ∧ plenK k v = nI n := by
  obtain ⟨c, hc, e⟩ := pcut_n v
  unfold plenK
  rw [e]
  by_cases h1 : k = 1
  · rw [if_pos h1]; exact ⟨c / 2, by omega, pk_div (d := 2) (by omega) (by omega) (by omega)⟩
  · rw [if_neg h1]
    by_cases h2 : k = 2
    · rw [if_pos h2]; exact ⟨c * 2, by omega, pk_mul c 2⟩
    · rw [if_neg h2]
      by_cases h3 : k = 3
      · rw [if_pos h3]; exact ⟨c, by omega, rfl⟩
      · rw [if_neg h3]
        by_cases h4 : k = 4
        · rw [if_pos h4]; exact ⟨c + 2, by omega, nI_add c 2⟩
        · rw [if_neg h4]; exact ⟨c, by omega, rfl⟩
def plN (k v : Int32) : Nat := (plenK k v).toNatClampNeg
theorem plN_eq (k v : Int32) : plenK k v = nI (plN k v) ∧ plN k v ≤ 42 := by
  obtain ⟨n, hn, e⟩ := plenK_n k v
  unfold plN
  rw [e, nI_clamp (by omega)]
  exact ⟨rfl, hn⟩
/-- the ints behind the smoke of the first i houses -/
def rise0 (f : Nat → Nat → Int32) (a : Nat) : Nat → Nat → Int32 := zr (zr (zr f (a + 1) (fillF (f (a + 1)) 0 8)) (a + 2) (fillF (f (a + 2)) 0 8)) (a + 4) (fillF (f (a + 4)) 0 144)
def hasB (x : Int32) (i : Nat) : Bool := !decide ((x >>> (nI i &&& 31)) &&& 1 = 0)
def riseM (f : Nat → Nat → Int32) (a s C R yv : Nat) (G : Int32 → Int32 → Int32 → Int32) (hour burn : Int32) : Nat → Nat → Nat → Int32
  | 0 => rise0 f a
  | i + 1 => if hasB burn i = true then layFin (riseM f a s C R yv G hour burn i) a s C R i yv (plN (f (s + 4) i) (G hour (f (s + 3) i) (nI yv))) else riseM f a s C R yv G hour burn i
theorem riseM_s (f : Nat → Nat → Int32) (a s C R yv : Nat) (G : Int32 → Int32 → Int32 → Int32) (hour burn : Int32) (i : Nat) : riseM f a s C R yv G hour burn (i + 1) = if hasB burn i = true then layFin (riseM f a s C R yv G hour burn i) a s C R i yv (plN (f (s + 4) i) (G hour (f (s + 3) i) (nI yv))) else riseM f a s C R yv G hour burn i := rfl
theorem rise0_o (f : Nat → Nat → Int32) (a : Nat) {o : Nat} (h1 : o ≠ a + 1) (h2 : o ≠ a + 2) (h4 : o ≠ a + 4) : rise0 f a o = f o := by
  unfold rise0; rw [zr_o _ _ h4, zr_o _ _ h2, zr_o _ _ h1]
theorem layFin_o (f : Nat → Nat → Int32) (a s C R h yv len : Nat) {o : Nat} (h1 : o ≠ a + 1) (h2 : o ≠ a + 2) (h3 : o ≠ a + 3) (h4 : o ≠ a + 4) : layFin f a s C R h yv len o = f o := by
  unfold layFin; rw [zr_o _ _ h1, layF_1 _ _ _ _ h2 h3 h4]
theorem riseM_o (f : Nat → Nat → Int32) (a s C R yv : Nat) (G : Int32 → Int32 → Int32 → Int32) (hour burn : Int32) {o : Nat} (h1 : o ≠ a + 1) (h2 : o ≠ a + 2) (h3 : o ≠ a + 3) (h4 : o ≠ a + 4) : ∀ i, riseM f a s C R yv G hour burn i o = f o
  | 0 => rise0_o f a h1 h2 h4
  | i + 1 => by
    rw [riseM_s]
    split
    · rw [layFin_o _ _ _ _ _ _ _ _ h1 h2 h3 h4]; exact riseM_o f a s C R yv G hour burn h1 h2 h3 h4 i
    · exact riseM_o f a s C R yv G hour burn h1 h2 h3 h4 i
/-- the count of laid cells of a house that was not reached is 0 -/
theorem riseM_laid (f : Nat → Nat → Int32) (a s C R yv : Nat) (G : Int32 → Int32 → Int32 → Int32) (hour burn : Int32) : ∀ i k, i ≤ k → k < 8 → riseM f a s C R yv G hour burn i (a + 2) k = 0
  | 0, k, _, h8 => by
    show rise0 f a (a + 2) k = 0
    unfold rise0; rw [zr_o _ _ (by omega), zr_h]; simp [fillF, h8]
  | i + 1, k, hi, h8 => by
    rw [riseM_s]
    split
    · unfold layFin; rw [zr_o _ _ (by omega), layF_2]
      unfold upd
      rw [if_neg (by omega)]
      exact riseM_laid f a s C R yv G hour burn i k (by omega) h8
    · exact riseM_laid f a s C R yv G hour burn i k (by omega) h8
theorem layFin_c {f g : Nat → Nat → Int32} {a s j C R h yv len : Nat} (e : ∀ o, o ≠ j → f o = g o) (hj : j ≠ s + 4 ∧ j ≠ s + 1 ∧ j ≠ s + 2 ∧ j ≠ a + 1 ∧ j ≠ a + 2 ∧ j ≠ a + 3 ∧ j ≠ a + 4) : ∀ o, o ≠ j → layFin f a s C R h yv len o = layFin g a s C R h yv len o := by
  obtain ⟨j1, j2, j3, j4, j5, j6, j7⟩ := hj
  have e0 : lay0 f a s h = lay0 g a s h := by
    unfold lay0
    rw [e _ (Ne.symm j1), e _ (Ne.symm j2), e _ (Ne.symm j3), e _ (Ne.symm j7), e _ (Ne.symm j6)]
  have e1 : layE f a s C R h yv len = layE g a s C R h yv len := by unfold layE; rw [e0]
  intro o ho
  unfold layFin layF
  rw [e1, e _ (Ne.symm j4), e _ (Ne.symm j5)]
  unfold zr
  rw [e o ho]
set_option maxRecDepth 100000 in
set_option maxHeartbeats 4000000 in
theorem l_Smoke_rise {w : zW} {a s C R H : Nat} (ha : zAir w a) (h : zSt w s) {G : Int32 → Int32 → Int32 → Int32} (hG : zLaw (zI w) (s + 9) G) (hC : zI w s 7 = nI C) (hR : zI w s 8 = nI R) (hH : zI w s 11 = nI H) (hC12 : C ≤ 12) (hR12 : R ≤ 12) (hH8 : H ≤ 8) (hsa : s + 12 ≤ a ∨ a + 5 ≤ s) (hour burn : Int32) {yv : Nat} (hy : yv < 8) (d : Nat) (hd : 3 ≤ d) : ∀ (m i : Nat) (f : Nat → Nat → Int32), i ≤ H → H ≤ i + m → (∀ o, o ≠ s + 11 → f o = riseM (zI w) a s C R yv G hour burn i o) → zS 0 0 d m_Smoke_rise (fun rv w1 => ∃ f, w1 = zuI w f ∧ rv = none ∧ ∀ o, o ≠ s + 11 → f o = riseM (zI w) a s C R yv G hour burn H o) 27 [(0, .ref a), (1, .ref s), (2, .int hour), (3, .int (nI yv)), (4, .int burn), (5, .int (nI i))] [] (zuI w f) := by
  have hex : ∀ f : Nat → Nat → Int32, (∀ o, o ≠ s + 11 → f o = riseM (zI w) a s C R yv G hour burn H o) → zS 0 0 d m_Smoke_rise (fun rv w1 => ∃ f, w1 = zuI w f ∧ rv = none ∧ ∀ o, o ≠ s + 11 → f o = riseM (zI w) a s C R yv G hour burn H o) 27 [(0, .ref a), (1, .ref s), (2, .int hour), (3, .int (nI yv)), (4, .int burn), (5, .int (nI H))] [] (zuI w f) := by
    intro f hf
    refine z_iload (pc := 27) (i := 5) (j := 5) rfl rfl ?_
    refine z_aload_n (pc := 29) (i := 1) (j := 1) rfl rfl rfl ?_
    refine z_getI (pc := 30) rfl fl_Smoke_30 h.1 rfl ?_
    refine z_eqi (y := nI H) ((congrFun ((hf s (by omega)).trans (riseM_o _ _ _ _ _ _ _ _ _ (by omega) (by omega) (by omega) (by omega) _)) 11).trans hH) ?_
    refine z_icmp_ge (pc := 33) (tgt := 68) rfl (by decide) (fun h33 => ?_) (fun h33 => ?_)
    · exact z_vret (pc := 68) rfl rfl ⟨f, rfl, rfl, hf⟩
    · exact absurd (Int32.le_refl _) h33
  intro m
  induction m with
  | zero =>
    intro i f hi hm hf
    obtain rfl : i = H := by omega
    exact hex f hf
  | succ m ih =>
    intro i f hi hm hf
    by_cases hlt : i < H
    · skip
      refine z_iload (pc := 27) (i := 5) (j := 5) rfl rfl ?_
      refine z_aload_n (pc := 29) (i := 1) (j := 1) rfl rfl rfl ?_
      refine z_getI (pc := 30) rfl fl_Smoke_30 h.1 rfl ?_
      refine z_eqi (y := nI H) ((congrFun ((hf s (by omega)).trans (riseM_o _ _ _ _ _ _ _ _ _ (by omega) (by omega) (by omega) (by omega) _)) 11).trans hH) ?_
      refine z_icmp_ge (pc := 33) (tgt := 68) rfl (by decide) (fun h33 => ?_) (fun h33 => ?_)
      · exact absurd h33 (nI_ge (b := H) hlt (by omega))
      · refine z_iload (pc := 36) (i := 4) (j := 4) rfl rfl ?_
        refine z_iload (pc := 38) (i := 5) (j := 5) rfl rfl ?_
        refine z_cSN (pc := 40) (mc1 := 0) (ms1 := 0) (mc2 := 0) (ms2 := 0) (as := [.int burn, .int (nI i)]) (rest := []) ok_SW_hasBit rfl rfl cl_Smoke_36 (by omega) (Nat.le_of_ble_eq_true rfl) (Nat.le_of_ble_eq_true rfl) (Nat.le_refl _) (Nat.le_refl _) (c_SW_hasBit burn (nI i) 0 _) (fun r1 w1 hp => ?_) rfl rfl
        obtain ⟨rfl, hw1⟩ := hp
        rw [hw1]
        refine ⟨⟨Nat.le_refl _, Or.inl rfl⟩, ?_⟩
        refine z_if_eq (pc := 43) (tgt := 62) rfl (by decide) (fun h43 => ?_) (fun h43 => ?_)
        · refine z_iinc (pc := 62) (i := 5) (j := 5) (v := nI (i + 1)) (ls' := [(0, .ref a), (1, .ref s), (2, .int hour), (3, .int (nI yv)), (4, .int burn), (5, .int (nI (i + 1)))]) rfl rfl (nI_1 i) (by decide) rfl ?_
          refine z_goto (pc := 65) (tgt := 27) rfl (by decide) ?_
          have hb : ¬ hasB burn i = true := by
            unfold hasB
            by_cases hb : (burn >>> (nI i &&& 31)) &&& 1 = 0
            · simp [hb]
            · exact absurd (h43.symm.trans (if_neg hb)) (by decide)
          refine ih (i + 1) f (by omega) (by omega) (fun o ho => (hf o ho).trans ?_)
          rw [riseM_s, if_neg hb]
        · have hb : hasB burn i = true := by
            unfold hasB
            by_cases hb : (burn >>> (nI i &&& 31)) &&& 1 = 0
            · exact absurd (if_pos hb) h43
            · simp [hb]
          have e4 : f (s + 4) = zI w (s + 4) := (hf _ (by omega)).trans (riseM_o _ _ _ _ _ _ _ _ _ (by omega) (by omega) (by omega) (by omega) _)
          have e3 : f (s + 3) = zI w (s + 3) := (hf _ (by omega)).trans (riseM_o _ _ _ _ _ _ _ _ _ (by omega) (by omega) (by omega) (by omega) _)
          have hGf : zLaw (zI (zuI w f)) (s + 9) G := zLaw_congr hG ((hf _ (by omega)).trans (riseM_o _ _ _ _ _ _ _ _ _ (by omega) (by omega) (by omega) (by omega) _)) ((hf _ (by omega)).trans (riseM_o _ _ _ _ _ _ _ _ _ (by omega) (by omega) (by omega) (by omega) _))
          refine z_aload_n (pc := 46) (i := 0) (j := 0) rfl rfl rfl ?_
          refine z_aload_n (pc := 47) (i := 1) (j := 1) rfl rfl rfl ?_
          refine z_iload (pc := 48) (i := 5) (j := 5) rfl rfl ?_
          refine z_aload_n (pc := 50) (i := 1) (j := 1) rfl rfl rfl ?_
          refine z_iload (pc := 51) (i := 5) (j := 5) rfl rfl ?_
          refine z_iload_n (pc := 53) (i := 2) (j := 2) rfl rfl rfl ?_
          refine z_iload_n (pc := 54) (i := 3) (j := 3) rfl rfl rfl ?_
          refine z_cV (pc := 55) (mc1 := 0) (ms1 := 0) (mc2 := 0) (ms2 := 0) (as := [.int (nI i), .int hour, .int (nI yv)]) (rest := [.int (nI i), .ref s, .ref a]) (o := s) rfl rfl h.1 ok_Street_plumeLength rfl rfl cl_Smoke_40 (by omega) (Nat.le_of_ble_eq_true rfl) (Nat.le_of_ble_eq_true rfl) (Nat.le_refl _) (Nat.le_refl _) (c_Street_plumeLength (w := zuI w f) (G := G) h hGf (i := i) (by omega) hour (nI yv) 2 (by decide)) (fun r1 w1 hp => ?_) rfl rfl
          obtain ⟨f1, hw1, rfl, hf1⟩ := hp
          rw [hw1]
          refine ⟨⟨Nat.le_refl _, Or.inl rfl⟩, ?_⟩
          rw [show zI (zuI w f) (s + 4) i = zI w (s + 4) i from congrFun e4 i, show zI (zuI w f) (s + 3) i = zI w (s + 3) i from congrFun e3 i, (plN_eq _ _).1]
          generalize hpl : plN (zI w (s + 4) i) (G hour (zI w (s + 3) i) (nI yv)) = pl
          have hpl42 : pl ≤ 42 := by rw [← hpl]; exact (plN_eq _ _).2
          have k0 : ∀ o, o ≠ s + 11 → f1 o = riseM (zI w) a s C R yv G hour burn i o := fun o ho => (hf1 o ho).trans (hf o ho)
          have k1 : ∀ o, o ≠ s + 11 → o ≠ a + 1 → o ≠ a + 2 → o ≠ a + 3 → o ≠ a + 4 → f1 o = zI w o := fun o ho h1 h2 h3 h4 => (k0 o ho).trans (riseM_o _ _ _ _ _ _ _ _ _ h1 h2 h3 h4 _)
          refine z_iload_n (pc := 58) (i := 3) (j := 3) rfl rfl rfl ?_
          refine z_cV (pc := 59) (mc1 := 0) (ms1 := 0) (mc2 := 0) (ms2 := 0) (as := [.ref s, .int (nI i), .int (nI pl), .int (nI yv)]) (rest := []) (o := a) rfl rfl ha.1 ok_Smoke_lay rfl rfl cl_Smoke_44 (by omega) (Nat.le_of_ble_eq_true rfl) (Nat.le_of_ble_eq_true rfl) (Nat.le_refl _) (Nat.le_refl _) (c_Smoke_lay (w := zuI w f1) (s := s) (C := C) (R := R) ha h ((congrFun (k1 s (by omega) (by omega) (by omega) (by omega) (by omega)) 7).trans hC) ((congrFun (k1 s (by omega) (by omega) (by omega) (by omega) (by omega)) 8).trans hR) hC12 hR12 hsa (hh := i) (by omega) ((congrFun (k0 (a + 2) (by omega)) i).trans (riseM_laid _ _ _ _ _ _ _ _ _ i i (Nat.le_refl _) (by omega))) hy pl (by omega) 2 (by decide)) (fun r1 w1 hp => ?_) rfl rfl
          obtain ⟨rfl, hw2⟩ := hp
          rw [hw2]
          refine ⟨⟨Nat.le_refl _, Or.inl rfl⟩, ?_⟩
          refine z_iinc (pc := 62) (i := 5) (j := 5) (v := nI (i + 1)) (ls' := [(0, .ref a), (1, .ref s), (2, .int hour), (3, .int (nI yv)), (4, .int burn), (5, .int (nI (i + 1)))]) rfl rfl (nI_1 i) (by decide) rfl ?_
          refine z_goto (pc := 65) (tgt := 27) rfl (by decide) ?_
          refine ih (i + 1) (layFin f1 a s C R i yv pl) (by omega) (by omega) (fun o ho => (layFin_c k0 (by omega) o ho).trans ?_)
          rw [riseM_s, if_pos hb, ← hpl]
    · obtain rfl : i = H := by omega
      exact hex f hf
set_option maxRecDepth 100000 in
set_option maxHeartbeats 4000000 in
theorem c_Smoke_rise {w : zW} {a s C R H : Nat} (ha : zAir w a) (h : zSt w s) {G : Int32 → Int32 → Int32 → Int32} (hG : zLaw (zI w) (s + 9) G) (hC : zI w s 7 = nI C) (hR : zI w s 8 = nI R) (hH : zI w s 11 = nI H) (hC12 : C ≤ 12) (hR12 : R ≤ 12) (hH8 : H ≤ 8) (hsa : s + 12 ≤ a ∨ a + 5 ≤ s) (hour burn : Int32) {yv : Nat} (hy : yv < 8) (d : Nat) (hd : 3 ≤ d) : zS 0 0 d m_Smoke_rise (fun rv w1 => ∃ f, w1 = zuI w f ∧ rv = none ∧ ∀ o, o ≠ s + 11 → f o = riseM (zI w) a s C R yv G hour burn H o) 0 [(0, .ref a), (1, .ref s), (2, .int hour), (3, .int (nI yv)), (4, .int burn)] [] w := by
  refine z_aload_n (pc := 0) (i := 0) (j := 0) rfl rfl rfl ?_
  refine z_getR (pc := 1) (x := a + 1) rfl fl_Smoke_9 ha.1 rfl ha.2.2.2.2.2.1 ?_
  refine z_iconst (pc := 4) (v := 0) rfl (by decide) ?_
  refine z_cS (pc := 5) (mc1 := 0) (ms1 := 0) (mc2 := 0) (ms2 := 0) (as := [.ref (a + 1), .int 0]) (rest := []) ok_Arrays_fill rfl rfl cl_Smoke_24 (by omega) (Nat.le_of_ble_eq_true rfl) (Nat.le_of_ble_eq_true rfl) (Nat.le_refl _) (Nat.le_refl _) (c_Arrays_fill (w := w) (o := a + 1) (N := 8) ha.2.1 (by decide) 0 0) (fun r1 w1 hp => ?_) rfl rfl
  obtain ⟨rfl, hw1⟩ := hp
  rw [hw1]
  refine ⟨⟨Nat.le_refl _, Or.inl rfl⟩, ?_⟩
  refine z_aload_n (pc := 8) (i := 0) (j := 0) rfl rfl rfl ?_
  refine z_getR (pc := 9) (x := a + 2) rfl fl_Smoke_15 ha.1 rfl ha.2.2.2.2.2.2.1 ?_
  refine z_iconst (pc := 12) (v := 0) rfl (by decide) ?_
  refine z_cS (pc := 13) (mc1 := 0) (ms1 := 0) (mc2 := 0) (ms2 := 0) (as := [.ref (a + 2), .int 0]) (rest := []) ok_Arrays_fill rfl rfl cl_Smoke_24 (by omega) (Nat.le_of_ble_eq_true rfl) (Nat.le_of_ble_eq_true rfl) (Nat.le_refl _) (Nat.le_refl _) (c_Arrays_fill (w := zuI w (zr (zI w) (a + 1) (fillF (zI w (a + 1)) 0 8))) (o := a + 2) (N := 8) ha.2.2.1 (by decide) 0 0) (fun r1 w1 hp => ?_) rfl rfl
  obtain ⟨rfl, hw1⟩ := hp
  rw [hw1]
  refine ⟨⟨Nat.le_refl _, Or.inl rfl⟩, ?_⟩
  refine z_aload_n (pc := 16) (i := 0) (j := 0) rfl rfl rfl ?_
  refine z_getR (pc := 17) (x := a + 4) rfl fl_Smoke_21 ha.1 rfl ha.2.2.2.2.2.2.2.2 ?_
  refine z_iconst (pc := 20) (v := 0) rfl (by decide) ?_
  refine z_cS (pc := 21) (mc1 := 0) (ms1 := 0) (mc2 := 0) (ms2 := 0) (as := [.ref (a + 4), .int 0]) (rest := []) ok_Arrays_fill rfl rfl cl_Smoke_24 (by omega) (Nat.le_of_ble_eq_true rfl) (Nat.le_of_ble_eq_true rfl) (Nat.le_refl _) (Nat.le_refl _) (c_Arrays_fill (w := zuI w (zr (zr (zI w) (a + 1) (fillF (zI w (a + 1)) 0 8)) (a + 2) (fillF ((zr (zI w) (a + 1) (fillF (zI w (a + 1)) 0 8)) (a + 2)) 0 8))) (o := a + 4) (N := 144) ha.2.2.2.2.1 (by decide) 0 0) (fun r1 w1 hp => ?_) rfl rfl
  obtain ⟨rfl, hw1⟩ := hp
  rw [hw1]
  refine ⟨⟨Nat.le_refl _, Or.inl rfl⟩, ?_⟩
  refine z_iconst (pc := 24) (v := 0) rfl (by decide) ?_
  refine z_istore (pc := 25) (i := 5) (ls' := [(0, .ref a), (1, .ref s), (2, .int hour), (3, .int (nI yv)), (4, .int burn), (5, .int 0)]) rfl (by decide) rfl ?_
  refine l_Smoke_rise ha h hG hC hR hH hC12 hR12 hH8 hsa hour burn hy d hd H 0 (zr (zr (zr (zI w) (a + 1) (fillF (zI w (a + 1)) 0 8)) (a + 2) (fillF ((zr (zI w) (a + 1) (fillF (zI w (a + 1)) 0 8)) (a + 2)) 0 8)) (a + 4) (fillF ((zr (zr (zI w) (a + 1) (fillF (zI w (a + 1)) 0 8)) (a + 2) (fillF ((zr (zI w) (a + 1) (fillF (zI w (a + 1)) 0 8)) (a + 2)) 0 8)) (a + 4)) 0 144)) (by omega) (by omega) (fun o _ => ?_)
  refine congrFun ?_ o
  show _ = rise0 (zI w) a
  unfold rise0
  rw [zr_o (zr _ _ _) _ (show a + 4 ≠ a + 2 by omega), zr_o _ _ (show a + 4 ≠ a + 1 by omega), zr_o _ _ (show a + 2 ≠ a + 1 by omega)]
