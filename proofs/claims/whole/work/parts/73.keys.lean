/-! (of the kit: shifts of lN) -/
theorem wb_tb (n : Nat) : (lN n).toBitVec = BitVec.ofNat 64 n := rfl
theorem wb_inj {a b : Int64} (h : a.toBitVec = b.toBitVec) : a = b := Int64.toBitVec_inj.mp h
theorem wb_c : ∀ k, k < 64 → ((nI k).toInt64 &&& 63) = lN k := by decide +kernel
theorem wb_sm : ∀ k, k < 64 → (BitVec.ofNat 64 k).smod 64 = BitVec.ofNat 64 k := by decide +kernel
theorem wb_shl (n : Nat) {k : Nat} (hk : k < 64) : lN n <<< ((nI k).toInt64 &&& 63) = lN (n * 2 ^ k) := by
  rw [wb_c k hk]
  apply wb_inj
  rw [Int64.toBitVec_shiftLeft, wb_tb, wb_tb, wb_tb, wb_sm k hk]
  apply BitVec.eq_of_toNat_eq
  rw [BitVec.shiftLeft_eq', BitVec.toNat_shiftLeft, BitVec.toNat_ofNat, BitVec.toNat_ofNat, BitVec.toNat_ofNat, Nat.mod_eq_of_lt (show k < 2 ^ 64 by omega), Nat.shiftLeft_eq, Nat.mul_mod, Nat.mod_mod, ← Nat.mul_mod]
theorem u_tn {n : Nat} (h : n < 2 ^ 64) : (UInt64.ofNat n).toNat = n := Nat.mod_eq_of_lt h
theorem g_or {k p a b : Nat} (hp : 2 ^ k = p) (ha : a < p) (h : b * p + a < 2 ^ 64) : lN (b * p) ||| lN a = lN (b * p + a) := by
  subst hp
  have h1 : b * 2 ^ k ||| a = b * 2 ^ k + a := by rw [← Nat.shiftLeft_eq, Nat.shiftLeft_add_eq_or_of_lt ha]
  have h3 : UInt64.ofNat (b * 2 ^ k) ||| UInt64.ofNat a = UInt64.ofNat (b * 2 ^ k + a) := UInt64.toNat_inj.mp (by rw [UInt64.toNat_or, u_tn (by omega), u_tn (by omega), u_tn h, h1])
  have h2 := congrArg UInt64.toInt64 h3
  exact h2
/-! KEYS OF WORDS: of eight bits a letter, or of twenty-seven a letter: the same words -/
def hrn (B : Nat) (g : Nat → Nat) : Nat → Nat
  | 0 => 0
  | k + 1 => hrn B g k * B + g k
theorem hrn_inj {B : Nat} {g h : Nat → Nat} : ∀ k m, (∀ i, i < k → 1 ≤ g i ∧ g i < B) → (∀ i, i < m → 1 ≤ h i ∧ h i < B) → hrn B g k = hrn B h m → k = m ∧ ∀ i, i < k → g i = h i
  | 0, 0, _, _, _ => ⟨rfl, fun i hi => absurd hi (Nat.not_lt_zero i)⟩
  | 0, m + 1, _, hh, e => by
    have e : 0 = hrn B h m * B + h m := e
    have := (hh m (Nat.lt_succ_self m)).1
    omega
  | k + 1, 0, hg, _, e => by
    have e : hrn B g k * B + g k = 0 := e
    have := (hg k (Nat.lt_succ_self k)).1
    omega
  | k + 1, m + 1, hg, hh, e => by
    have e : hrn B g k * B + g k = hrn B h m * B + h m := e
    have a := hg k (Nat.lt_succ_self k)
    have b := hh m (Nat.lt_succ_self m)
    have e1 : g k = h m := by
      have z := congrArg (· % B) e
      simpa [Nat.add_mod, Nat.mul_mod_left, Nat.mod_eq_of_lt a.2, Nat.mod_eq_of_lt b.2] using z
    have e2 : hrn B g k = hrn B h m := by
      have z : hrn B g k * B = hrn B h m * B := by omega
      exact Nat.eq_of_mul_eq_mul_right (by omega) z
    obtain ⟨h1, h2⟩ := hrn_inj k m (fun i hi => hg i (by omega)) (fun i hi => hh i (by omega)) e2
    subst h1
    refine ⟨rfl, fun i hi => ?_⟩
    by_cases z : i = k
    · subst z; exact e1
    · exact h2 i (by omega)
theorem hrn_lt {g : Nat → Nat} : ∀ k, (∀ i, i < k → g i ≤ 127) → 2 * hrn 256 g k + 1 ≤ 256 ^ k
  | 0, _ => Nat.le_refl _
  | k + 1, h => by
    have a := hrn_lt k (fun i hi => h i (by omega))
    have b := h k (Nat.lt_succ_self k)
    show 2 * (hrn 256 g k * 256 + g k) + 1 ≤ 256 ^ (k + 1)
    rw [Nat.pow_succ]
    omega
theorem hrn_lt8 {g : Nat → Nat} {k : Nat} (hk : k ≤ 8) (h : ∀ i, i < k → g i ≤ 127) : hrn 256 g k < 2 ^ 63 := by
  have a := hrn_lt k h
  have b : 256 ^ k ≤ 256 ^ 8 := Nat.pow_le_pow_right (by decide) hk
  have c : (256 : Nat) ^ 8 = 2 * 2 ^ 63 := by decide
  omega
theorem hrn27_lt {g : Nat → Nat} : ∀ k, (∀ i, i < k → g i < 27) → hrn 27 g k + 1 ≤ 27 ^ k
  | 0, _ => Nat.le_refl _
  | k + 1, h => by
    have a := hrn27_lt k (fun i hi => h i (by omega))
    have b := h k (Nat.lt_succ_self k)
    show hrn 27 g k * 27 + g k + 1 ≤ 27 ^ (k + 1)
    rw [Nat.pow_succ]
    omega
theorem hrn27_lt8 {g : Nat → Nat} {k : Nat} (hk : k ≤ 8) (h : ∀ i, i < k → g i < 27) : hrn 27 g k < 2 ^ 63 := by
  have a := hrn27_lt k h
  have b : 27 ^ k ≤ 27 ^ 8 := Nat.pow_le_pow_right (by decide) hk
  have c : (27 : Nat) ^ 8 < 2 ^ 63 := by decide
  omega
theorem isLt_n {c : Int32} (h : isLt c = true) : 97 ≤ c.toNatClampNeg ∧ c.toNatClampNeg ≤ 122 ∧ c = nI c.toNatClampNeg := by
  unfold isLt at h
  simp only [Bool.and_eq_true, Bool.not_eq_true', decide_eq_false_iff_not] at h
  have e1 : ¬ c.toInt < 97 := fun q => h.1 (Int32.lt_iff_toInt_lt.mpr q)
  have e2 : ¬ 122 < c.toInt := fun q => h.2 (Int32.lt_iff_toInt_lt.mpr q)
  have e3 : c = nI c.toInt.toNat := Int32.toInt.inj (by rw [nI_toInt (by omega)]; omega)
  have e4 : c.toNatClampNeg = c.toInt.toNat := rfl
  rw [e4]
  exact ⟨by omega, by omega, e3⟩
def ltr (T : Nat → Int32) (a k : Nat) : Prop := ∀ i, i < k → isLt (T (a + i)) = true
def gC (T : Nat → Int32) (a : Nat) : Nat → Nat := fun i => (T (a + i)).toNatClampNeg
def gM (T : Nat → Int32) (a : Nat) : Nat → Nat := fun i => (T (a + i)).toNatClampNeg - 96
theorem keyC_n {T : Nat → Int32} {a : Nat} : ∀ k, k ≤ 8 → ltr T a k → keyC T a k = lN (hrn 256 (gC T a) k)
  | 0, _, _ => rfl
  | k + 1, hk, h => by
    have ih := keyC_n (T := T) (a := a) k (by omega) (fun i hi => h i (by omega))
    obtain ⟨h1, h2, h3⟩ := isLt_n (h k (Nat.lt_succ_self k))
    show (keyC T a k <<< ((8 : Int32).toInt64 &&& 63)) ||| (T (a + k)).toInt64 = lN (hrn 256 (gC T a) k * 256 + gC T a k)
    rw [ih, h3, nI_l (by omega)]
    have hb := hrn_lt8 (g := gC T a) hk (fun i hi => by have := (isLt_n (h i hi)).2.1; show (T (a + i)).toNatClampNeg ≤ 127; omega)
    have hb : hrn 256 (gC T a) k * 256 + gC T a k < 2 ^ 63 := hb
    have e := wb_shl (hrn 256 (gC T a) k) (k := 8) (by decide)
    rw [show (8 : Int32) = nI 8 from rfl, e]
    exact g_or (k := 8) (p := 256) rfl (by omega) (by have : gC T a k = (T (a + k)).toNatClampNeg := rfl; omega)
theorem keyM_n {T : Nat → Int32} {a : Nat} : ∀ k, k ≤ 8 → ltr T a k → keyM T a k = lN (hrn 27 (gM T a) k)
  | 0, _, _ => rfl
  | k + 1, hk, h => by
    have ih := keyM_n (T := T) (a := a) k (by omega) (fun i hi => h i (by omega))
    obtain ⟨h1, h2, h3⟩ := isLt_n (h k (Nat.lt_succ_self k))
    show keyM T a k * 27 + (T (a + k)).toInt64 - 96 = lN (hrn 27 (gM T a) k * 27 + gM T a k)
    rw [ih, h3, nI_l (by omega), show (27 : Int64) = lN 27 from rfl, show (96 : Int64) = lN 96 from rfl, lN_mul, lN_add, lN_sub (by omega)]
    refine congrArg lN ?_
    have : gM T a k = (T (a + k)).toNatClampNeg - 96 := rfl
    omega
theorem key_iff {T W : Nat → Int32} {a b k m : Nat} (hk : k ≤ 8) (hm : m ≤ 8) (h1 : ltr T a k) (h2 : ltr W b m) : keyC T a k = keyC W b m ↔ keyM T a k = keyM W b m := by
  have r1 : ∀ (S : Nat → Int32) (c j : Nat), ltr S c j → ∀ i, i < j → 1 ≤ gC S c i ∧ gC S c i < 256 ∧ gC S c i ≤ 127 ∧ 97 ≤ gC S c i ∧ gC S c i ≤ 122 := fun S c j h i hi => by
    obtain ⟨z1, z2, _⟩ := isLt_n (h i hi)
    have : gC S c i = (S (c + i)).toNatClampNeg := rfl
    omega
  have r2 : ∀ (S : Nat → Int32) (c j : Nat), ltr S c j → ∀ i, i < j → 1 ≤ gM S c i ∧ gM S c i < 27 ∧ gM S c i + 96 = gC S c i := fun S c j h i hi => by
    obtain ⟨z1, z2, _⟩ := isLt_n (h i hi)
    have : gC S c i = (S (c + i)).toNatClampNeg := rfl
    have : gM S c i = (S (c + i)).toNatClampNeg - 96 := rfl
    omega
  rw [keyC_n k hk h1, keyC_n m hm h2, keyM_n k hk h1, keyM_n m hm h2, pk_lEQ (hrn_lt8 hk (fun i hi => (r1 T a k h1 i hi).2.2.1)) (hrn_lt8 hm (fun i hi => (r1 W b m h2 i hi).2.2.1)), pk_lEQ (hrn27_lt8 hk (fun i hi => (r2 T a k h1 i hi).2.1)) (hrn27_lt8 hm (fun i hi => (r2 W b m h2 i hi).2.1))]
  have cg : ∀ (B : Nat) (g h : Nat → Nat) (j : Nat), (∀ i, i < j → g i = h i) → hrn B g j = hrn B h j := fun B g h j => by
    induction j with
    | zero => intro _; rfl
    | succ j ih => intro e; show hrn B g j * B + g j = hrn B h j * B + h j; rw [ih (fun i hi => e i (by omega)), e j (Nat.lt_succ_self j)]
  constructor
  · intro e
    obtain ⟨e1, e2⟩ := hrn_inj k m (fun i hi => ⟨(r1 T a k h1 i hi).1, (r1 T a k h1 i hi).2.1⟩) (fun i hi => ⟨(r1 W b m h2 i hi).1, (r1 W b m h2 i hi).2.1⟩) e
    subst e1
    exact cg 27 _ _ k (fun i hi => by have := e2 i hi; have := (r2 T a k h1 i hi).2.2; have := (r2 W b k h2 i hi).2.2; omega)
  · intro e
    obtain ⟨e1, e2⟩ := hrn_inj k m (fun i hi => ⟨(r2 T a k h1 i hi).1, (r2 T a k h1 i hi).2.1⟩) (fun i hi => ⟨(r2 W b m h2 i hi).1, (r2 W b m h2 i hi).2.1⟩) e
    subst e1
    exact cg 256 _ _ k (fun i hi => by have := e2 i hi; have := (r2 T a k h1 i hi).2.2; have := (r2 W b k h2 i hi).2.2; omega)

def zwL : List (List Int32) := [[102, 105, 101, 108, 100], [119, 105, 110, 100], [112, 108, 117, 109, 101], [99, 111, 108, 100], [116, 117, 114, 110, 115], [104, 111, 117, 115, 101], [97, 116], [104, 105, 103, 104], [100, 114, 121], [119, 101, 116], [112, 101, 97, 116], [108, 101, 97, 110], [111, 105, 108], [110, 111, 116], [97, 110, 100], [111, 114], [104, 111, 117, 114], [100, 97, 121], [119, 97, 121]]
def zkM : List Int64 := [3369766, 459652, 8754917, 70312, 11055682, 4562600, 47, 164222, 3427, 16922, 318620, 239882, 11190, 10631, 1111, 423, 168984, 2968, 16819]
theorem words_ok : ∀ i : Fin 19, keyC (fun j => (zwL.getD i []).getD j 0) 0 (zwL.getD i []).length = zkK.getD i 0 ∧ keyM (fun j => (zwL.getD i []).getD j 0) 0 (zwL.getD i []).length = zkM.getD i 0 ∧ (zwL.getD i []).length ≤ 8 ∧ ∀ j : Fin 8, (j : Nat) < (zwL.getD i []).length → isLt ((zwL.getD i []).getD (0 + j) 0) = true := by decide +kernel
theorem word_iff {T : Nat → Int32} {a k i : Nat} (hi : i < 19) (hk : k ≤ 8) (h : ltr T a k) : keyC T a k = zkK.getD i 0 ↔ keyM T a k = zkM.getD i 0 := by
  obtain ⟨h1, h2, h3, h4⟩ := words_ok ⟨i, hi⟩
  have h5 : ltr (fun j => (zwL.getD i []).getD j 0) 0 (zwL.getD i []).length := fun j hj => h4 ⟨j, by have : (zwL.getD i []).length ≤ 8 := h3; omega⟩ hj
  have e := key_iff hk h3 h h5
  have h1 : keyC (fun j => (zwL.getD i []).getD j 0) 0 (zwL.getD i []).length = zkK.getD i 0 := h1
  have h2 : keyM (fun j => (zwL.getD i []).getD j 0) 0 (zwL.getD i []).length = zkM.getD i 0 := h2
  rw [← h1, ← h2]
  exact e
theorem wOf_all : ∀ i : Fin 19, wOf (zkK.getD i 0) = some (1000000 + (i : Nat)) := by decide +kernel
theorem wOfA_k {g : Int64} : ∀ m a, m ≤ 19 → wOfA g m = some a → g = zkK.getD (a - 1000000) 0
  | 0, a, _, h => by cases h
  | m + 1, a, hm, h => by
    unfold wOfA at h
    split at h
    · next z =>
      obtain rfl := Option.some.inj h
      rw [show 1000000 + (18 - m) - 1000000 = 18 - m by omega]
      exact z.symm
    · exact wOfA_k m a (by omega) h
theorem wOf_iff {g : Int64} {i : Nat} (hi : i < 19) : wOf g = some (1000000 + i) ↔ g = zkK.getD i 0 := by
  constructor
  · intro h
    have e := wOfA_k 19 _ (Nat.le_refl _) h
    rwa [show 1000000 + i - 1000000 = i by omega] at e
  · intro h
    rw [h]
    exact wOf_all ⟨i, hi⟩
