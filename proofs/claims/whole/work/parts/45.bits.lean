/-! BITS of a set of houses -/
def tb (x : Int32) (i : Nat) : Bool := x.toBitVec.getLsbD i
theorem tb_ext {x y : Int32} (h : ∀ i, i < 32 → tb x i = tb y i) : x = y := by
  apply Int32.toBitVec_inj.mp
  apply BitVec.eq_of_getLsbD_eq
  intro i hi
  exact h i hi
theorem tb_or (x y : Int32) (i : Nat) : tb (x ||| y) i = (tb x i || tb y i) := by
  unfold tb; rw [Int32.toBitVec_or, BitVec.getLsbD_or]
theorem tb_and (x y : Int32) (i : Nat) : tb (x &&& y) i = (tb x i && tb y i) := by
  unfold tb; rw [Int32.toBitVec_and, BitVec.getLsbD_and]
theorem tb_xor (x y : Int32) (i : Nat) : tb (x ^^^ y) i = (tb x i ^^ tb y i) := by
  unfold tb; rw [Int32.toBitVec_xor, BitVec.getLsbD_xor]
theorem tb_m1 {i : Nat} (h : i < 32) : tb (-1) i = true := by
  have : ∀ i, i < 32 → tb (-1) i = true := by decide
  exact this i h
theorem tb_not (x : Int32) {i : Nat} (h : i < 32) : tb (x ^^^ (-1)) i = !tb x i := by rw [tb_xor, tb_m1 h]; cases tb x i <;> rfl
theorem tb_0 (i : Nat) : tb 0 i = false := by unfold tb; exact BitVec.getLsbD_zero
theorem tb_bitI {h i : Nat} (hh : h < 32) (hi : i < 32) : tb (bitI h) i = decide (i = h) := by
  have : ∀ h, h < 32 → ∀ i, i < 32 → tb (bitI h) i = decide (i = h) := by decide +kernel
  exact this h hh i hi
theorem bv_sh (x : BitVec 32) (i : Nat) (h : i < 32) : (BitVec.sshiftRight x i &&& 1#32) = if x.getLsbD i = true then 1#32 else 0#32 := by
  apply BitVec.eq_of_getLsbD_eq
  intro j hj
  rw [BitVec.getLsbD_and, BitVec.getLsbD_sshiftRight]
  by_cases h0 : j = 0
  · subst h0
    have : ¬ (32 ≤ 0) := by omega
    rw [if_pos (show i + 0 < 32 by omega), Nat.add_zero]
    by_cases hb : x.getLsbD i = true
    · rw [if_pos hb, hb]; rfl
    · rw [if_neg hb, Bool.eq_false_iff.mpr hb]; rfl
  · have e1 : (1#32).getLsbD j = false := by
      rw [BitVec.getLsbD_one]; simp [h0]
    rw [e1, Bool.and_false]
    split
    · exact e1.symm
    · exact BitVec.getLsbD_zero.symm
theorem sh_and {i : Nat} (h : i < 32) (x : Int32) : (x >>> (nI i &&& 31)) &&& 1 = if tb x i = true then 1 else 0 := by
  apply Int32.toBitVec_inj.mp
  rw [Int32.toBitVec_and, Int32.toBitVec_shiftRight]
  have e : ((nI i &&& 31).toBitVec.smod 32).toNat = i := by
    have : ∀ i, i < 32 → ((nI i &&& 31).toBitVec.smod 32).toNat = i := by decide
    exact this i h
  rw [BitVec.sshiftRight', e]
  refine (bv_sh x.toBitVec i h).trans ?_
  unfold tb
  split <;> rfl
theorem hasB_tb {i : Nat} (h : i < 32) (x : Int32) : hasB x i = tb x i := by
  unfold hasB
  rw [sh_and h]
  cases tb x i <;> rfl
theorem mbit_tb {i : Nat} (h : i < 32) (x : Int32) : mbit x i = if tb x i = true then 1 else 0 := by
  unfold mbit
  rw [sh_and h]
  cases tb x i <;> rfl
theorem sh_1 {i : Nat} (h : i < 32) (x : Int32) : (x >>> (nI i &&& 31)) &&& 1 = 1 ↔ tb x i = true := by
  rw [sh_and h]
  cases tb x i <;> simp
theorem sh_0 {i : Nat} (h : i < 32) (x : Int32) : (x >>> (nI i &&& 31)) &&& 1 = 0 ↔ tb x i = false := by
  rw [sh_and h]
  cases tb x i <;> simp
/-- a set of the first eight -/
def set8 (x : Int32) : Prop := ∀ i, 8 ≤ i → i < 32 → tb x i = false
theorem set8_0 : set8 0 := fun i _ _ => tb_0 i
theorem set8_or {x y : Int32} (hx : set8 x) (hy : set8 y) : set8 (x ||| y) := fun i h1 h2 => by rw [tb_or, hx i h1 h2, hy i h1 h2]; rfl
theorem set8_and {x : Int32} (hx : set8 x) (y : Int32) : set8 (x &&& y) := fun i h1 h2 => by rw [tb_and, hx i h1 h2]; rfl
theorem set8_bit {h : Nat} (h8 : h < 8) : set8 (bitI h) := fun i h1 h2 => by rw [tb_bitI (by omega) h2]; exact decide_eq_false (by omega)
theorem set8_xor {x y : Int32} (hx : set8 x) (hy : set8 y) : set8 (x ^^^ y) := fun i h1 h2 => by rw [tb_xor, hx i h1 h2, hy i h1 h2]; rfl
theorem set8_ext {x y : Int32} (hx : set8 x) (hy : set8 y) (h : ∀ i, i < 8 → tb x i = tb y i) : x = y := tb_ext fun i hi => by
  by_cases h8 : i < 8
  · exact h i h8
  · rw [hx i (by omega) hi, hy i (by omega) hi]
theorem set8_n {x : Int32} (hx : set8 x) : ∃ n : Nat, n < 256 ∧ x = nI n := by
  have e : x = x &&& 255 := by
    apply tb_ext
    intro i hi
    rw [tb_and]
    by_cases h8 : i < 8
    · have : ∀ i, i < 8 → tb 255 i = true := by decide
      rw [this i h8, Bool.and_true]
    · rw [hx i (by omega) hi, Bool.false_and]
  refine ⟨x.toBitVec.toNat % 256, Nat.mod_lt _ (by decide), ?_⟩
  refine e.trans ?_
  apply Int32.toBitVec_inj.mp
  rw [Int32.toBitVec_and]
  apply BitVec.eq_of_toNat_eq
  rw [BitVec.toNat_and]
  show _ &&& 255 = _
  rw [show (255 : Nat) = 2 ^ 8 - 1 from rfl, Nat.and_two_pow_sub_one_eq_mod]
  show _ = (BitVec.ofNat 32 _).toNat
  rw [BitVec.toNat_ofNat, Nat.mod_eq_of_lt (a := _ % 256) (Nat.lt_of_lt_of_le (Nat.mod_lt _ (by decide)) (by decide))]
theorem tb_n {n i : Nat} (hn : n < 2 ^ 31) (hi : i < 32) : tb (nI n) i = n.testBit i := by
  show (BitVec.ofNat 32 n).getLsbD i = _
  rw [BitVec.getLsbD_ofNat]
  simp [hi]
theorem set8_of {n : Nat} (h : n < 256) : set8 (nI n) := fun i h1 h2 => by
  rw [tb_n (by omega) h2]
  exact Nat.testBit_lt_two_pow (Nat.lt_of_lt_of_le h (Nat.pow_le_pow_right (n := 2) (by decide) h1))
def pop8 (p : Nat → Bool) : Nat := fb_ct p 8
theorem bitc_n : ∀ n, n < 256 → bitc (nI n) = nI (fb_ct (fun i => n.testBit i) 8) := by decide +kernel
theorem bits_n : ∀ n, n < 256 → rsum (fun k => (nI n >>> (nI k &&& 31)) &&& 1) 8 = nI (fb_ct (fun i => n.testBit i) 8) := by decide +kernel
theorem bitc_8 {x : Int32} (hx : set8 x) : bitc x = nI (fb_ct (tb x) 8) := by
  obtain ⟨n, hn, rfl⟩ := set8_n hx
  rw [bitc_n n hn]
  exact congrArg nI (fb_ct_cong (fun k hk => (tb_n (by omega) (by omega)).symm))
theorem bits_8 {x : Int32} (hx : set8 x) : rsum (fun k => (x >>> (nI k &&& 31)) &&& 1) 8 = nI (fb_ct (tb x) 8) := by
  obtain ⟨n, hn, rfl⟩ := set8_n hx
  rw [bits_n n hn]
  exact congrArg nI (fb_ct_cong (fun k hk => (tb_n (by omega) (by omega)).symm))
theorem set8_pos {x : Int32} (hx : set8 x) : 0 ≤ x := by
  obtain ⟨n, hn, rfl⟩ := set8_n hx
  exact nI_pos' (by omega)
/-- a set of eight is more than 0 where it has a house -/
theorem set8_gt {x : Int32} (hx : set8 x) {i : Nat} (hi : i < 8) (h : tb x i = true) : 0 < x := by
  refine fa_le_ne (set8_pos hx) (fun e => ?_)
  rw [← e, tb_0] at h
  cases h
