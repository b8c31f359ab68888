/-! A PAIR BEHIND AN HOUR, ON BOTH SIDES -/
def hY (T : Prop) [Decidable T] (r : Nat → Int32) (a b : Nat) : Nat := if T then (r (8 * a + b)).toNatClampNeg else 0
def hV (T : Prop) [Decidable T] (r c : Nat → Int32) (a b : Nat) : Nat := if 0 < hY T r a b ∨ tb (c a) b = true then hY T r a b + 1 else 0
theorem hY_f {f : Nat → Nat → Int32} {r : Nat → Int32} {H N : Nat} (k : LR f 21 r H N) (hN : N ≤ 600000) (T : Prop) [Decidable T] {a b : Nat} (ha : a < 8) (hb : b < 8) : hY T r a b ≤ N ∧ hY T r a b = hY T r b a ∧ ((H ≤ a ∨ H ≤ b ∨ a = b) → hY T r a b = 0) ∧ (if T then r (8 * a + b) else 0) = nI (hY T r a b) ∧ r (8 * a + b) = nI (r (8 * a + b)).toNatClampNeg ∧ (a < b → (if T then f 23 (8 * a + b) else 0) = nI (hY T r a b)) := by
  obtain ⟨v, v1, v2, v3, v4, v5⟩ := k.2.2.2.2.2.1 a b ha hb
  unfold hY
  rw [v2, v3, nI_clamp (show v < 2 ^ 31 by omega)]
  by_cases z : T
  · simp only [if_pos z]
    exact ⟨v1, by trivial, v4, by trivial, by trivial, v5⟩
  · simp only [if_neg z]
    exact ⟨by omega, by trivial, fun _ => by trivial, by trivial, by trivial, fun _ => by trivial⟩
theorem hV_f {f : Nat → Nat → Int32} {r c : Nat → Int32} {H N : Nat} (k : LR f 21 r H N) (hN : N ≤ 600000) (sy : symM c) (hc : ∀ a b, a < 8 → b < 8 → tb (c a) b = true → a < H ∧ b < H) (T : Prop) [Decidable T] {a b : Nat} (ha : a < 8) (hb : b < 8) : hV T r c a b ≤ N + 1 ∧ hV T r c a b = hV T r c b a ∧ ((H ≤ a ∨ H ≤ b ∨ a = b) → hV T r c a b = 0) := by
  obtain ⟨y1, y2, y3, -⟩ := hY_f k hN T ha hb
  have e : tb (c a) b = tb (c b) a := Bool.eq_iff_iff.mpr ⟨sy.2.1 a b ha hb, sy.2.1 b a hb ha⟩
  refine ⟨?_, ?_, fun z => ?_⟩
  · unfold hV
    split <;> omega
  · unfold hV
    rw [y2, e]
  · unfold hV
    rw [y3 z, if_neg]
    intro p
    rcases p with p | p
    · omega
    · rcases z with z | z | z
      · have := (hc a b ha hb p).1; omega
      · have := (hc a b ha hb p).2; omega
      · rw [z, sy.2.2 b hb] at p; cases p
theorem mbit_nz {x : Int32} {b : Nat} (hb : b < 32) : (¬ mbit x b = 0) ↔ tb x b = true := by
  unfold mbit
  rw [sh_and hb]
  cases tb x b <;> decide
/-- the model's row -/
theorem hV_m {f : Nat → Nat → Int32} {r c m : Nat → Int32} {H N : Nat} (k : LR f 21 r H N) (hN : N ≤ 600000) (T : Prop) [Decidable T] {t : Int32} (ht : T ↔ t = 0) {a b : Nat} (ha : a < 8) (hb : b < 8) (em : m a = c a) : wdV t m r a b = nI (hV T r c a b) := by
  obtain ⟨y1, y2, y3, y4, -⟩ := hY_f k hN T ha hb
  have e : (if t = 0 then r (8 * a + b) else 0) = nI (hY T r a b) := by
    rw [← y4]
    by_cases z : T
    · rw [if_pos z, if_pos (ht.mp z)]
    · rw [if_neg z, if_neg (fun y => z (ht.mpr y))]
  obtain ⟨w1, w2⟩ := wdV_n (u := mbit (m a) b) e (by omega)
  unfold wdV hV
  rw [em] at w1 w2 ⊢
  by_cases z : 0 < hY T r a b ∨ tb (c a) b = true
  · rw [if_pos z, w1 (z.imp id (mbit_nz (show b < 32 by omega)).mpr)]
  · rw [if_neg z, w2 (fun y => z (y.imp id (mbit_nz (show b < 32 by omega)).mp))]
/-- the class' bits -/
theorem hV_c {f : Nat → Nat → Int32} {r c : Nat → Int32} {H N : Nat} (k : LR f 21 r H N) (hN : N ≤ 600000) (T : Prop) [Decidable T] {a b : Nat} (ha : a < 8) (hb : b < 8) : tb ((if T then f 22 a else 0) ||| c a) b = decide (0 < hV T r c a b) := by
  obtain ⟨y1, y2, y3, y4, y5, -⟩ := hY_f k hN T ha hb
  have e : tb (if T then f 22 a else 0) b = decide (0 < hY T r a b) := by
    unfold hY at y1 ⊢
    by_cases z : T
    · simp only [if_pos z] at y1 ⊢
      rw [show f 22 a = orN (wedTo r a) 8 from k.2.2.2.2.1 a ha, wed_tb r a 8 (Nat.le_refl _) b (by omega)]
      generalize hq : (r (8 * a + b)).toNatClampNeg = q at y1 y5 ⊢
      rw [y5]
      by_cases p : 0 < q
      · rw [decide_eq_true p]
        exact decide_eq_true ⟨hb, Int32.not_le.mpr (show nI 0 < nI q from nI_lt p (by omega))⟩
      · rw [decide_eq_false p]
        exact decide_eq_false (fun u => u.2 (show nI q ≤ nI 0 from nI_le (by omega) (by omega)))
    · simp only [if_neg z]
      rw [tb_0]
      rfl
  rw [tb_or, e]
  unfold hV
  cases t : tb (c a) b with
  | true => rw [Bool.or_true, if_pos (Or.inr rfl)]; exact (decide_eq_true (Nat.succ_pos _)).symm
  | false =>
    rw [Bool.or_false]
    by_cases p : 0 < hY T r a b
    · rw [if_pos (Or.inl p), decide_eq_true p]; exact (decide_eq_true (Nat.succ_pos _)).symm
    · rw [if_neg (fun z => by rcases z with z | z; exact p z; cases z), decide_eq_false p]; rfl
