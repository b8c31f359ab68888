/-! SMOKE: what the object's rows of smoke say, bit by bit -/
theorem pos_s (x d : Int32) (k : Nat) : x + nI k * d + d = x + nI (k + 1) * d := by
  rw [← nI_1, Int32.add_mul, Int32.one_mul, Int32.add_assoc]
def clA (C R : Nat) (x y dx dy : Int32) (k : Nat) : Option Nat := cellP C R (x + nI k * dx) (y + nI k * dy)
theorem layN_p {C R h : Nat} {dx dy : Int32} (q : layQ) : ∀ k, (layN C R h dx dy q k).1 = q.1 + nI k * dx ∧ (layN C R h dx dy q k).2.1 = q.2.1 + nI k * dy
  | 0 => by
    rw [show nI 0 = 0 from rfl, Int32.zero_mul, Int32.zero_mul, Int32.add_zero, Int32.add_zero]
    exact ⟨rfl, rfl⟩
  | k + 1 => by
    obtain ⟨h1, h2⟩ := layN_p (C := C) (R := R) (h := h) (dx := dx) (dy := dy) q k
    show (layS C R h dx dy (layN C R h dx dy q k)).1 = _ ∧ (layS C R h dx dy (layN C R h dx dy q k)).2.1 = _
    have e : (layS C R h dx dy (layN C R h dx dy q k)).1 = (layN C R h dx dy q k).1 + dx ∧ (layS C R h dx dy (layN C R h dx dy q k)).2.1 = (layN C R h dx dy q k).2.1 + dy := by
      unfold layS; split <;> exact ⟨rfl, rfl⟩
    rw [e.1, e.2, h1, h2]
    exact ⟨pos_s _ _ _, pos_s _ _ _⟩
theorem layN_1 {C R h : Nat} {dx dy : Int32} (q : layQ) (k : Nat) : layN C R h dx dy q (k + 1) = (match clA C R q.1 q.2.1 dx dy k with
    | none => ((layN C R h dx dy q k).1 + dx, (layN C R h dx dy q k).2.1 + dy, (layN C R h dx dy q k).2.2)
    | some p => ((layN C R h dx dy q k).1 + dx, (layN C R h dx dy q k).2.1 + dy, (layN C R h dx dy q k).2.2.1 ||| (layN C R h dx dy q k).2.2.2.1 p, upd (layN C R h dx dy q k).2.2.2.1 p ((layN C R h dx dy q k).2.2.2.1 p ||| bitI h), (layN C R h dx dy q k).2.2.2.2.1 + 1, upd (layN C R h dx dy q k).2.2.2.2.2 (13 * h + (layN C R h dx dy q k).2.2.2.2.1) (nI p))) := by
  show layS C R h dx dy (layN C R h dx dy q k) = _
  obtain ⟨h1, h2⟩ := layN_p (C := C) (R := R) (h := h) (dx := dx) (dy := dy) q k
  have e : clA C R q.1 q.2.1 dx dy k = cellP C R (layN C R h dx dy q k).1 (layN C R h dx dy q k).2.1 := by unfold clA; rw [h1, h2]
  rw [e]
  rfl
theorem lay_who {C R h : Nat} {dx dy : Int32} (hh : h < 32) (q : layQ) (p : Nat) {b : Nat} (hb : b < 32) : ∀ k, tb ((layN C R h dx dy q k).2.2.2.1 p) b = (tb (q.2.2.2.1 p) b || (decide (b = h) && covB (clA C R q.1 q.2.1 dx dy) p k))
  | 0 => by show tb (q.2.2.2.1 p) b = _; rw [show covB (clA C R q.1 q.2.1 dx dy) p 0 = false from rfl]; simp
  | k + 1 => by
    have ih := lay_who (C := C) (R := R) (dx := dx) (dy := dy) hh q p hb k
    rw [layN_1, covB_s]
    cases e : clA C R q.1 q.2.1 dx dy k with
    | none =>
      show tb ((layN C R h dx dy q k).2.2.2.1 p) b = _
      rw [ih]; simp
    | some p1 =>
      show tb (upd _ p1 _ p) b = _
      unfold upd
      by_cases z : p = p1
      · subst z
        rw [if_pos rfl, tb_or, tb_bitI hh hb, ih]
        cases tb (q.2.2.2.1 p) b <;> cases decide (b = h) <;> simp
      · rw [if_neg z, ih]
        have z2 : ¬ p1 = p := fun e => z e.symm
        simp [z2]
def crsB (cl : Nat → Option Nat) (W : Nat → Int32) (h b i : Nat) : Bool := match cl i with
  | none => false
  | some p => tb (W p) b || (decide (b = h) && covB cl p i)
theorem lay_crs {C R h : Nat} {dx dy : Int32} (hh : h < 32) (q : layQ) {b : Nat} (hb : b < 32) : ∀ k, tb ((layN C R h dx dy q k).2.2.1) b = (tb q.2.2.1 b || anyB (crsB (clA C R q.1 q.2.1 dx dy) q.2.2.2.1 h b) k)
  | 0 => by show tb q.2.2.1 b = _; rw [show anyB (crsB (clA C R q.1 q.2.1 dx dy) q.2.2.2.1 h b) 0 = false from rfl]; simp
  | k + 1 => by
    have ih := lay_crs (C := C) (R := R) (dx := dx) (dy := dy) hh q hb k
    have hw := fun p => lay_who (C := C) (R := R) (dx := dx) (dy := dy) hh q p hb k
    rw [layN_1, show anyB (crsB (clA C R q.1 q.2.1 dx dy) q.2.2.2.1 h b) (k + 1) = (anyB (crsB (clA C R q.1 q.2.1 dx dy) q.2.2.2.1 h b) k || crsB (clA C R q.1 q.2.1 dx dy) q.2.2.2.1 h b k) from rfl]
    unfold crsB at ih ⊢
    cases e : clA C R q.1 q.2.1 dx dy k with
    | none => simp [ih]
    | some p1 =>
      show tb (_ ||| _) b = _
      rw [tb_or, ih, hw p1]
      simp [Bool.or_assoc]
/-- a plume goes by cells that are all different -/
def dirOK (dx dy : Int32) : Prop := (dx = 1 ∨ dx = -1 ∨ dx = 0) ∧ (dy = 1 ∨ dy = -1 ∨ dy = 0) ∧ ¬ (dx = 0 ∧ dy = 0)
theorem dir_ok : ∀ y : Fin 8, dirOK (zkE.getD y 0) (zkS.getD y 0) := by unfold dirOK; decide
theorem stp_v {x d : Int32} {c : Nat} (hx : x = nI c) (hc : c ≤ 13) (hd : d = 1 ∨ d = -1 ∨ d = 0) {k : Nat} (hk : k < 100) : (x + nI k * d).toInt = (c : Int) + (k : Int) * d.toInt := by
  have hk1 := nI_toInt (n := k) (by omega)
  have hc1 := nI_toInt (n := c) (by omega)
  subst hx
  rcases hd with rfl | rfl | rfl
  · rw [Int32.mul_one, nI_add, nI_toInt (by omega)]
    show _ = (c : Int) + (k : Int) * 1
    omega
  · have e : nI c + nI k * (-1) = nI c - nI k := by rw [Int32.mul_neg, Int32.mul_one, Int32.sub_eq_add_neg]
    rw [e, pk_sub_toInt (by omega) (by omega)]
    show _ = (c : Int) + (k : Int) * (-1)
    omega
  · rw [Int32.mul_zero, Int32.add_zero, hc1]
    show _ = (c : Int) + (k : Int) * 0
    omega
theorem cellP_at {C R : Nat} {x y : Int32} {p : Nat} (h : cellP C R x y = some p) : 0 ≤ x.toInt ∧ x.toInt < C ∧ 0 ≤ y.toInt ∧ y.toInt < R ∧ p = 12 * y.toInt.toNat + x.toInt.toNat := by
  unfold cellP at h
  split at h
  · next z => exact ⟨z.1, z.2.1, z.2.2.1, z.2.2.2, (Option.some.inj h).symm⟩
  · cases h
theorem cl_far {C R : Nat} (hC : C ≤ 12) (hR : R ≤ 12) {x y dx dy : Int32} {c r : Nat} (hx : x = nI c) (hc : c ≤ 12) (hy : y = nI r) (hr : r ≤ 12) (hd : dirOK dx dy) {k : Nat} (hk : 13 ≤ k) (hk2 : k < 100) : clA C R x y dx dy k = none := by
  cases e : clA C R x y dx dy k with
  | none => rfl
  | some p =>
    exfalso
    obtain ⟨a1, a2, a3, a4, _⟩ := cellP_at e
    rw [stp_v hx (by omega) hd.1 hk2] at a1 a2
    rw [stp_v hy (by omega) hd.2.1 hk2] at a3 a4
    obtain ⟨d1, d2, d3⟩ := hd
    rcases d1 with rfl | rfl | rfl
    · rw [show (1 : Int32).toInt = 1 from rfl] at a1 a2; omega
    · rw [show (-1 : Int32).toInt = -1 from rfl] at a1 a2; omega
    · rcases d2 with rfl | rfl | rfl
      · rw [show (1 : Int32).toInt = 1 from rfl] at a3 a4; omega
      · rw [show (-1 : Int32).toInt = -1 from rfl] at a3 a4; omega
      · exact d3 ⟨rfl, rfl⟩
theorem cl_inj {C R : Nat} (hC : C ≤ 12) (hR : R ≤ 12) {x y dx dy : Int32} {c r : Nat} (hx : x = nI c) (hc : c ≤ 12) (hy : y = nI r) (hr : r ≤ 12) (hd : dirOK dx dy) {k j p : Nat} (hk : k < 100) (hj : j < 100) (e1 : clA C R x y dx dy k = some p) (e2 : clA C R x y dx dy j = some p) : k = j := by
  obtain ⟨a1, a2, a3, a4, a5⟩ := cellP_at e1
  obtain ⟨b1, b2, b3, b4, b5⟩ := cellP_at e2
  rw [stp_v hx (by omega) hd.1 hk] at a1 a2 a5
  rw [stp_v hy (by omega) hd.2.1 hk] at a3 a4 a5
  rw [stp_v hx (by omega) hd.1 hj] at b1 b2 b5
  rw [stp_v hy (by omega) hd.2.1 hj] at b3 b4 b5
  obtain ⟨d1, d2, d3⟩ := hd
  rcases d1 with rfl | rfl | rfl
  · rw [show (1 : Int32).toInt = 1 from rfl] at *; omega
  · rw [show (-1 : Int32).toInt = -1 from rfl] at *; omega
  · rw [show (0 : Int32).toInt = 0 from rfl] at *
    rcases d2 with rfl | rfl | rfl
    · rw [show (1 : Int32).toInt = 1 from rfl] at *; omega
    · rw [show (-1 : Int32).toInt = -1 from rfl] at *; omega
    · exact absurd ⟨rfl, rfl⟩ d3
theorem covB_new {C R : Nat} (hC : C ≤ 12) (hR : R ≤ 12) {x y dx dy : Int32} {c r : Nat} (hx : x = nI c) (hc : c ≤ 12) (hy : y = nI r) (hr : r ≤ 12) (hd : dirOK dx dy) {k p : Nat} (hk : k < 100) (e1 : clA C R x y dx dy k = some p) : covB (clA C R x y dx dy) p k = false := by
  cases e : covB (clA C R x y dx dy) p k with
  | false => rfl
  | true =>
    obtain ⟨i, h1, h2⟩ := covB_iff.mp e
    have := cl_inj hC hR hx hc hy hr hd hk (by omega) e1 h2
    omega
theorem covB_13 {C R : Nat} (hC : C ≤ 12) (hR : R ≤ 12) {x y dx dy : Int32} {c r : Nat} (hx : x = nI c) (hc : c ≤ 12) (hy : y = nI r) (hr : r ≤ 12) (hd : dirOK dx dy) {len : Nat} (hl : len ≤ 42) (p : Nat) : covB (clA C R x y dx dy) p (if len ≤ 13 then len else 13) = covB (clA C R x y dx dy) p len := by
  by_cases h : len ≤ 13
  · rw [if_pos h]
  · rw [if_neg h]
    rw [Bool.eq_iff_iff, covB_iff, covB_iff]
    constructor
    · rintro ⟨i, h1, h2⟩; exact ⟨i, by omega, h2⟩
    · rintro ⟨i, h1, h2⟩
      refine ⟨i, ?_, h2⟩
      rcases Nat.lt_or_ge i 13 with z | z
      · exact z
      · rw [cl_far hC hR hx hc hy hr hd z (by omega)] at h2; cases h2
