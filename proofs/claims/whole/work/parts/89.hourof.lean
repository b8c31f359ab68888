/-! AN HOUR OF THE OBJECT -/
theorem ccov_c {f g : Nat → Nat → Int32} {s : Nat} (e1 : g (s + 1) = f (s + 1)) (e2 : g (s + 2) = f (s + 2)) (e3 : g (s + 3) = f (s + 3)) (e4 : g (s + 4) = f (s + 4)) (C R yv : Nat) (G : Int32 → Int32 → Int32 → Int32) (hour burn : Int32) (h p : Nat) : ccov g s C R yv G hour burn h p = ccov f s C R yv G hour burn h p := by
  unfold ccov cH cLen pX
  rw [e1, e2, e3, e4]
def hourT (f : Nat → Nat → Int32) (F : Int32 → Int32 → Int32 → Int32) : Int32 := turnV (f 21 9) (nI (cyv F (f 21 8)))
def hourB (f : Nat → Nat → Int32) : Int32 := f 21 10 &&& (f 21 11 ^^^ (-1))
def hourC (s C R H : Nat) (F G : Int32 → Int32 → Int32 → Int32) (f g : Nat → Nat → Int32) : Prop :=
  (∀ o, o ≠ s + 8 → o ≠ s + 11 → (o < 17 ∨ 26 < o) → g o = f o) ∧ (∀ k, k ≠ 8 → k ≠ 9 → g 21 k = f 21 k) ∧ g 21 8 = f 21 8 + 1 ∧ g 21 9 = nI (cyv F (f 21 8)) ∧
  (∀ k, k < 8 → g 22 k = (if hourT f F = 0 then f 22 k else 0) ||| cset f s C R (cyv F (f 21 8)) G (f 21 8) (hourB f) H k) ∧
  (∀ z, z < 64 → g 23 z = (if hourT f F = 0 then f 23 z else 0) + (if agN (g 22) H z = true then 1 else 0)) ∧
  (∀ z, z < 64 → g 24 z = f 24 z + (if agN (g 22) H z = true ∧ ((if hourT f F = 0 then f 23 z else 0) + 1) - ((if hourT f F = 0 then f 23 z else 0) + 1) / 3 * 3 = 0 then 1 else 0)) ∧
  (∀ z, g 25 z = f 25 z + (if z < H then (if hasB (hourB f) z = true then priceV (f (s + 4) z) else f s 9) else 0)) ∧
  (∀ z, g 26 z = f 26 z + (if z / 144 < H ∧ ccov f s C R (cyv F (f 21 8)) G (f 21 8) (hourB f) (z / 144) (z % 144) = true then 1 else 0))
set_option maxRecDepth 100000 in
set_option maxHeartbeats 400000 in
theorem hour_of {s C R H : Nat} {F G : Int32 → Int32 → Int32 → Int32} {f f1 f2 : Nat → Nat → Int32} (hss : s = 4 ∨ s = 32) (hC : C ≤ 12) (hR : R ≤ 12) (hH : H ≤ 8) (hs : stIn f s C R H) (h1 : ∀ o, o ≠ s + 8 → f1 o = f o) (h2 : ∀ o, o ≠ s + 11 → f2 o = riseM f1 16 s C R (cyv F (f 21 8)) G (f 21 8) (hourB f) H o) : airOK f2 16 H ∧ hourC s C R H F G f (passM f2 21 s 16 H (nI (cyv F (f 21 8)))) := by
  have hy := (cyv_n F (f 21 8)).2
  generalize hyv : cyv F (f 21 8) = yv at *
  have e1 := h1 (s + 1) (by omega)
  have e2 := h1 (s + 2) (by omega)
  have e3 := h1 (s + 3) (by omega)
  have e4 := h1 (s + 4) (by omega)
  have hs1 := stIn_c (g := f1) hs e1 e2
  have ra := rise_air (a := 16) (G := G) (hour := f 21 8) (burn := hourB f) hC hR hH hy (show s + 12 ≤ 16 ∨ 16 + 5 ≤ s by omega) hs1 H (Nat.le_refl _)
  have k18 : f2 18 = riseM f1 16 s C R yv G (f 21 8) (hourB f) H 18 := h2 18 (by omega)
  have k19 : f2 19 = riseM f1 16 s C R yv G (f 21 8) (hourB f) H 19 := h2 19 (by omega)
  have k17 : ∀ j, j < 8 → f2 17 j = cset f s C R yv G (f 21 8) (hourB f) H j := fun j hj => by
    rw [h2 17 (by omega)]
    show riseM f1 16 s C R yv G (f 21 8) (hourB f) H (16 + 1) j = _
    rw [rise_cset hC hR hH hy (by omega) hs1 hj]
    exact cset_c e1 e2 e3 e4 C R yv G _ _ H j
  have ko : ∀ o, o ≠ s + 8 → o ≠ s + 11 → (o < 17 ∨ 20 < o) → f2 o = f o := fun o a1 a2 a3 => by
    rw [h2 o a2, riseM_o _ _ _ _ _ _ _ _ _ (by omega) (by omega) (by omega) (by omega)]
    exact h1 o a1
  have q21 := ko 21 (by omega) (by omega) (by omega)
  have ai : airOK f2 16 H := fun h hh => by
    obtain ⟨n, n1, n2, n3, _⟩ := ra h hh
    exact ⟨n, n1, by show f2 18 h = _; rw [k18]; exact n2, fun k hk => by
      obtain ⟨p, p1, p2⟩ := n3 k hk
      exact ⟨p, p1, by show f2 19 _ = _; rw [k19]; exact p2⟩⟩
  refine ⟨ai, ?_⟩
  have eT : turnV (f2 21 9) (nI yv) = hourT f F := by unfold hourT; rw [q21, hyv]
  have hP : ∀ o, o ≠ 22 → o ≠ 23 → pass0 f2 21 16 (hourT f F) o = f2 o := fun o a1 a2 => pass0_o f2 21 16 _ a1 a2
  have P22 : pass0 f2 21 16 (hourT f F) 22 = wedR (f2 22) (f2 17) (hourT f F) 8 := by unfold pass0; exact zr_h _ _ _
  have P23 : ∀ z, z < 64 → pass0 f2 21 16 (hourT f F) 23 z = if hourT f F = 0 then f 23 z else 0 := fun z hz => by
    unfold pass0
    rw [zr_o _ _ (by decide)]
    by_cases t0 : hourT f F = 0
    · rw [if_pos t0, if_pos t0]; exact congrFun (ko 23 (by omega) (by omega) (by omega)) z
    · rw [if_neg t0, if_neg t0]
      show zr f2 23 (fillF (f2 23) 0 64) 23 z = 0
      rw [zr_h]
      unfold fillF
      rw [if_pos hz]
  have hb : ∀ h, h < H → ∀ (g : Nat → Int32) (z : Nat), blkN g (pass0 f2 21 16 (hourT f F) 19) h (pass0 f2 21 16 (hourT f F) 18 h).toNatClampNeg z = g z + (if 144 * h ≤ z ∧ ccov f s C R yv G (f 21 8) (hourB f) h (z - 144 * h) = true then 1 else 0) := fun h hh g z => by
    obtain ⟨n, n1, n2, _, n4⟩ := ra h hh
    rw [hP 19 (by decide) (by decide), hP 18 (by decide) (by decide), k18, k19]
    have n2 : riseM f1 16 s C R yv G (f 21 8) (hourB f) H 18 h = nI n := n2
    rw [n2, nI_clamp (by omega)]
    have n4 := n4 g z
    rw [ccov_c e1 e2 e3 e4] at n4
    exact n4
  have hcv : ∀ h p, ccov f s C R yv G (f 21 8) (hourB f) h p = true → p < 144 := fun h p e => by
    unfold ccov at e
    rw [Bool.and_eq_true] at e
    exact cov_lt hC hR e.2
  have pe := pN_e (P0 := pass0 f2 21 16 (hourT f F)) (l := 21) (s := s) (a := 16) (H := H) (by omega) hcv hb hH H (Nat.le_refl _)
  have po : ∀ o, (o < 23 ∨ 26 < o) → passN (pass0 f2 21 16 (hourT f F)) 21 s 16 H o = pass0 f2 21 16 (hourT f F) o := fun o ho => pN_o (by omega) (by omega) H
  have g1 : ∀ o, o ≠ 21 → passM f2 21 s 16 H (nI yv) o = passN (pass0 f2 21 16 (hourT f F)) 21 s 16 H o := fun o ho => by
    unfold passM
    rw [eT, z2_off _ _ _ ho, z2_off _ _ _ ho]
  have g22 : passM f2 21 s 16 H (nI yv) 22 = pass0 f2 21 16 (hourT f F) 22 := (g1 22 (by decide)).trans (po 22 (by decide))
  have eB : pass0 f2 21 16 (hourT f F) 21 10 &&& (pass0 f2 21 16 (hourT f F) 21 11 ^^^ -1) = hourB f := by rw [hP 21 (by decide) (by decide), q21]; rfl
  refine ⟨fun o a1 a2 a3 => ?_, fun k a1 a2 => ?_, ?_, ?_, fun k hk => ?_, fun z hz => ?_, fun z hz => ?_, fun z => ?_, fun z => ?_⟩
  · rw [g1 o (by omega), po o (by omega), hP o (by omega) (by omega)]
    exact ko o a1 a2 (by omega)
  · show z2 (z2 _ 21 9 _) 21 8 _ 21 k = _
    rw [z2_k _ _ _ a1, z2_k _ _ _ a2, eT, po 21 (by decide), hP 21 (by decide) (by decide), q21]
  · show z2 _ 21 8 (f2 21 8 + 1) 21 8 = _
    rw [z2_hit, q21]
  · show z2 (z2 _ 21 9 (nI yv)) 21 8 _ 21 9 = _
    rw [z2_k _ _ _ (by decide), z2_hit, hyv]
  · rw [g22, P22]
    unfold wedR
    rw [if_pos hk, k17 k hk, ko 22 (by omega) (by omega) (by omega), hyv]
  · rw [g1 23 (by decide), g22]
    have := (pe z).1
    rw [P23 z hz] at this
    exact this
  · rw [g1 24 (by decide), g22]
    have := (pe z).2.1
    rw [P23 z hz, show pass0 f2 21 16 (hourT f F) (21 + 3) = f 24 from (hP 24 (by decide) (by decide)).trans (ko 24 (by omega) (by omega) (by omega))] at this
    exact this
  · rw [g1 25 (by decide)]
    have := (pe z).2.2.1
    rw [eB, show pass0 f2 21 16 (hourT f F) (21 + 4) = f 25 from (hP 25 (by decide) (by decide)).trans (ko 25 (by omega) (by omega) (by omega)), hP (s + 4) (by omega) (by omega), hP s (by omega) (by omega), ko (s + 4) (by omega) (by omega) (by omega), ko s (by omega) (by omega) (by omega)] at this
    exact this
  · rw [g1 26 (by decide)]
    have := (pe z).2.2.2
    rw [show pass0 f2 21 16 (hourT f F) (21 + 5) = f 26 from (hP 26 (by decide) (by decide)).trans (ko 26 (by omega) (by omega) (by omega))] at this
    rw [hyv]
    exact this
