/-! WEDDINGS COUNTED -/
def nwG (t : Int32) (met r : Nat → Int32) (a b : Nat) : Nat := if (if t = 0 then r (8 * a + b) else 0) = 0 ∧ ¬ mbit (met a) b = 0 ∧ a < b then 1 else 0
theorem wedG_n {y u : Int32} {a b : Nat} (a8 : a < 8) (b8 : b < 8) : wedG y u a b = nI (if y = 0 ∧ ¬ u = 0 ∧ a < b then 1 else 0) := by
  unfold wedG
  by_cases p : y = 0
  · rw [if_pos p]
    by_cases q : u = 0
    · rw [if_pos q, if_neg (fun z => z.2.1 q)]; rfl
    · rw [if_neg q]
      by_cases l : a < b
      · rw [if_neg (Int32.not_le.mpr (nI_lt l (by omega))), if_pos ⟨p, q, l⟩]; rfl
      · rw [if_pos (nI_le (by omega) (by omega)), if_neg (fun z => l z.2.2)]; rfl
  · rw [if_neg p, if_neg (fun z => p z.1)]; rfl
theorem wedN_g (t ch : Int32) (met : Nat → Int32) {a : Nat} (a8 : a < 8) (q : (Nat → Int32) × Int32) : ∀ n, n ≤ 8 → (wedN t ch met a q n).2 = q.2 + nI (fb_sm (nwG t met q.1 a) n) := by
  intro n
  induction n with
  | zero => intro _; exact (Int32.add_zero _).symm
  | succ n ih =>
    intro hn
    have own := (((wedN_p t ch met a8 q n (by omega)).2 a n a8 (by omega)).2 (fun z => Nat.lt_irrefl n z.2)).1
    have s : (wedN t ch met a q (n + 1)).2 = (wedN t ch met a q n).2 + wedG (if t = 0 then q.1 (8 * a + n) else 0) (mbit (met a) n) a n := by
      show (wedS t ch met a n (wedN t ch met a q n)).2 = _
      unfold wedS
      rw [own]
    rw [s, ih (by omega), wedG_n a8 (by omega), fb_sm_succ, Int32.add_assoc, nI_add]
    rfl
theorem wedA_g (t ch : Int32) (met : Nat → Int32) {H : Nat} (hH : H ≤ 8) (q : (Nat → Int32) × Int32) : ∀ n, n ≤ H → (wedA t ch met H q n).2 = q.2 + nI (fb_sm (fun a => fb_sm (nwG t met q.1 a) H) n) := by
  intro n
  induction n with
  | zero => intro _; exact (Int32.add_zero _).symm
  | succ n ih =>
    intro hn
    have s : (wedA t ch met H q (n + 1)).2 = (wedA t ch met H q n).2 + nI (fb_sm (nwG t met (wedA t ch met H q n).1 n) H) := wedN_g t ch met (a := n) (by omega) (wedA t ch met H q n) H hH
    have e : fb_sm (nwG t met (wedA t ch met H q n).1 n) H = fb_sm (nwG t met q.1 n) H := fb_sm_cong (fun b hb => by
      have o := (((wedA_p t ch met hH q n (by omega)).2 n b (by omega) (by omega)).2 (fun z => Nat.lt_irrefl n z.1)).1
      unfold nwG
      rw [o])
    rw [s, e, ih (by omega), fb_sm_succ, Int32.add_assoc, nI_add]
