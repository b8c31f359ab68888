/-! the model's met set, of the object's street -/
def vst (f : Nat → Nat → Int32) (s : Nat) : Nat → Nat → Int32 := fun o => if o = 48 then f (s + 1) else if o = 49 then f (s + 2) else if o = 50 then f (s + 3) else if o = 51 then f (s + 4) else f o
theorem pX_m (f : Nat → Nat → Int32) (s h : Nat) : mX (vst f s) h = pX f s h := by
  unfold mX pX
  show f (s + 1) h + (if f (s + 4) h = 3 then 1 else 0) = _
  by_cases z : f (s + 4) h = 3
  · rw [if_pos z, if_pos z]
  · rw [if_neg z, if_neg z, Int32.add_zero]
theorem cl_16 {C R : Nat} (hC : C ≤ 12) {x y : Int32} {p : Nat} (h : cellP C R x y = some p) : cell16 C R x y = some (16 * (p / 12) + p % 12) := by
  obtain ⟨a1, a2, a3, a4, a5⟩ := cellP_at h
  unfold cell16
  rw [if_pos ⟨a1, a2, a3, a4⟩]
  refine congrArg some ?_
  omega
theorem cl_12 {C R : Nat} (hC : C ≤ 12) {x y : Int32} {c : Nat} (h : cell16 C R x y = some c) : cellP C R x y = some (12 * (c / 16) + c % 16) := by
  unfold cell16 at h
  split at h
  · next z =>
    unfold cellP
    rw [if_pos z]
    have := Option.some.inj h
    refine congrArg some ?_
    omega
  · cases h
theorem mcov_c {f : Nat → Nat → Int32} {s C R yv : Nat} {G : Int32 → Int32 → Int32 → Int32} {hour burn : Int32} (hC : C ≤ 12) {h p : Nat} (hh : h < 32) (e : ccov f s C R yv G hour burn h p = true) : mcov (vst f s) C R yv G hour burn h (16 * (p / 12) + p % 12) = true := by
  unfold ccov at e
  rw [Bool.and_eq_true, covB_iff] at e
  obtain ⟨hb, i, h1, h2⟩ := e
  unfold mcov
  rw [covB_iff]
  refine ⟨i, ?_, ?_⟩
  · unfold mlen
    rw [if_pos ((sh_1 hh burn).mpr (by rw [← hasB_tb hh]; exact hb))]
    exact h1
  · unfold mcell
    rw [pX_m]
    exact cl_16 hC h2
theorem ccov_m {f : Nat → Nat → Int32} {s C R yv : Nat} {G : Int32 → Int32 → Int32 → Int32} {hour burn : Int32} (hC : C ≤ 12) {h c : Nat} (hh : h < 32) (e : mcov (vst f s) C R yv G hour burn h c = true) : ccov f s C R yv G hour burn h (12 * (c / 16) + c % 16) = true := by
  unfold mcov at e
  rw [covB_iff] at e
  obtain ⟨i, h1, h2⟩ := e
  unfold mlen at h1
  by_cases z : (burn >>> (nI h &&& 31)) &&& 1 = 1
  · rw [if_pos z] at h1
    unfold ccov
    rw [Bool.and_eq_true, covB_iff]
    refine ⟨by rw [hasB_tb hh]; exact (sh_1 hh burn).mp z, i, h1, ?_⟩
    unfold mcell at h2
    rw [pX_m] at h2
    exact cl_12 hC h2
  · rw [if_neg z] at h1; omega
theorem rise_met {f : Nat → Nat → Int32} {a s C R H yv : Nat} {G : Int32 → Int32 → Int32 → Int32} {hour burn : Int32} (hC : C ≤ 12) (hR : R ≤ 12) (hH : H ≤ 8) (hy : yv < 8) (hsa : s + 12 ≤ a ∨ a + 5 ≤ s) (hs : stIn f s C R H) {j : Nat} (hj : j < H) : riseM f a s C R yv G hour burn H (a + 1) j = mset (vst f s) C R yv G hour burn H j := by
  have I2 := (rise_bits (G := G) (hour := hour) (burn := burn) hC hR hH hy hsa hs H (Nat.le_refl _)).2
  refine tb_ext fun b hb => bool_iff ?_
  rw [I2 j b (by omega) hb, mset_tb (vst f s) C R yv G hour burn hH hj hb]
  constructor
  · rintro ⟨_, h2, h3, p, h4, h5, h6⟩
    exact ⟨fun e => h3 e.symm, h2, 16 * (p / 12) + p % 12, by omega, mcov_c hC (by omega) h5, mcov_c hC (by omega) h6⟩
  · rintro ⟨h1, h2, c, h3, h4, h5⟩
    have e4 := ccov_m hC (by omega) h4
    refine ⟨hj, h2, fun e => h1 e.symm, 12 * (c / 16) + c % 16, ?_, e4, ccov_m hC (by omega) h5⟩
    unfold ccov at e4
    rw [Bool.and_eq_true] at e4
    exact cov_lt hC hR e4.2
theorem rise_0 {f : Nat → Nat → Int32} {a s C R H yv : Nat} {G : Int32 → Int32 → Int32 → Int32} {hour burn : Int32} (hC : C ≤ 12) (hR : R ≤ 12) (hH : H ≤ 8) (hy : yv < 8) (hsa : s + 12 ≤ a ∨ a + 5 ≤ s) (hs : stIn f s C R H) {j : Nat} (hj : H ≤ j) (hj8 : j < 8) : riseM f a s C R yv G hour burn H (a + 1) j = 0 := by
  have I2 := (rise_bits (G := G) (hour := hour) (burn := burn) hC hR hH hy hsa hs H (Nat.le_refl _)).2
  refine tb_ext fun b hb => bool_iff ?_
  rw [I2 j b hj8 hb, tb_0]
  constructor
  · rintro ⟨h1, _⟩; omega
  · intro h; cases h
