/-! THE SAME ANSWERS: free -/
theorem mnI_n {x y : Nat} (hx : x < 2 ^ 31) (hy : y < 2 ^ 31) : mnI (nI x) (nI y) = nI (min x y) := by
  unfold mnI
  by_cases h : y < x
  · rw [if_pos (nI_lt h hx), Nat.min_eq_right (by omega)]
  · rw [if_neg (nI_nlt (Nat.le_of_not_lt h) hy), Nat.min_eq_left (by omega)]
def enc (v : Nat) : Int32 := if v < 1000000 then nI v else -1
theorem enc_lo {v : Nat} (h : v < 1000000) : enc v = nI v := if_pos h
theorem enc_hi {v : Nat} (h : 1000000 ≤ v) : enc v = -1 := if_neg (by omega)
def okv (T v : Nat) : Prop := v ≤ 99 * T ∨ (1000000 ≤ v ∧ v ≤ 1000000 + 99 * T)
theorem enc_A (t : Bool) {T a b : Nat} (hT : T ≤ 24) (ha : okv T a) (hb : okv T b) : frA t (enc a) (enc b) = enc (if t = true then min a b else a) := by
  cases t with
  | false => rfl
  | true =>
    unfold frA
    rw [if_pos rfl, if_pos rfl]
    rcases ha with ha | ha
    · rw [enc_lo (show a < 1000000 by omega), if_pos (nI_pos' (show a < 2 ^ 31 by omega))]
      rcases hb with hb | hb
      · rw [enc_lo (show b < 1000000 by omega), if_pos (nI_pos' (show b < 2 ^ 31 by omega)), enc_lo (show min a b < 1000000 by omega)]
        exact mnI_n (by omega) (by omega)
      · rw [enc_hi hb.1, if_neg (by decide), enc_lo (show min a b < 1000000 by omega), Nat.min_eq_left (by omega)]
    · rw [enc_hi ha.1, if_neg (by decide)]
      rcases hb with hb | hb
      · rw [Nat.min_eq_right (by omega)]
      · rw [enc_hi hb.1, enc_hi (by omega)]
theorem enc_B (t : Bool) (b : Nat) : frB t (enc b) = enc (if t = true then 1000000 else b) := by
  cases t with
  | false => rfl
  | true => rfl
theorem okv_t {t : Bool} {T a b : Nat} (hT : T ≤ 24) (ha : okv T a) (hb : okv T b) : okv T (if t = true then min a b else a) ∧ okv T (if t = true then 1000000 else b) := by
  unfold okv at *
  cases t with
  | false => exact ⟨ha, hb⟩
  | true =>
    rw [if_pos rfl, if_pos rfl]
    omega
/-- one hour of free: both costs -/
theorem frc_two {m : Int32} {K P T a b : Nat} (hK : K ≤ 99) (hP : P ≤ 99) (hT : T ≤ 24) (ha : okv T a) (hb : okv T b) : ∃ a2 b2 : Nat, okv (T + 1) a2 ∧ okv (T + 1) b2 ∧ mnI (nI a + nI K) (if m = 0 then nI a + nI P else 1000000) = nI a2 ∧ mnI (nI b + nI K) ((if m = 0 then nI b else mnI (nI a) (nI b)) + nI P) = nI b2 ∧ frZ (if m = 0 then 0 else 1) (enc a) (if nI K < nI P then nI K else nI P) (nI K) = enc a2 ∧ frN (if m = 0 then 0 else 1) (nI P) (enc a) (frW (enc b) (if nI K < nI P then nI K else nI P)) = enc b2 := by
  have a31 : a < 2 ^ 30 := by unfold okv at ha; omega
  have b31 : b < 2 ^ 30 := by unfold okv at hb; omega
  have eE : (if nI K < nI P then nI K else nI P) = nI (min K P) := by
    have := mnI_n (x := P) (y := K) (by omega) (by omega)
    rw [Nat.min_comm]
    exact this
  rw [eE]
  have eW : frW (enc b) (nI (min K P)) = enc (b + min K P) := by
    unfold frW
    rcases hb with hb | hb
    · rw [enc_lo (show b < 1000000 by omega), if_pos (nI_pos' (show b < 2 ^ 31 by omega)), nI_add, enc_lo (by omega)]
    · rw [enc_hi hb.1, if_neg (by decide), enc_hi (by omega)]
  rw [eW]
  by_cases z : m = 0
  · rw [if_pos z, if_pos z, if_pos z]
    refine ⟨min (a + K) (a + P), min (b + K) (b + P), ?_, ?_, ?_, ?_, ?_, ?_⟩
    · unfold okv at *; omega
    · unfold okv at *; omega
    · rw [nI_add, nI_add, mnI_n (by omega) (by omega)]
    · rw [nI_add, nI_add, mnI_n (by omega) (by omega)]
    · unfold frZ
      rw [if_pos rfl]
      rcases ha with ha | ha
      · rw [enc_lo (show a < 1000000 by omega), if_pos (nI_pos' (show a < 2 ^ 31 by omega)), nI_add, enc_lo (by omega)]
        congr 1
        omega
      · rw [enc_hi ha.1, if_neg (by decide), enc_hi (by omega)]
    · unfold frN
      rw [if_pos rfl]
      congr 1
      omega
  · rw [if_neg z, if_neg z, if_neg z]
    refine ⟨min (a + K) 1000000, min (b + K) (min a b + P), ?_, ?_, ?_, ?_, ?_, ?_⟩
    · unfold okv at *; omega
    · unfold okv at *; omega
    · rw [nI_add, show (1000000 : Int32) = nI 1000000 from rfl, mnI_n (by omega) (by omega)]
    · rw [nI_add, mnI_n (show a < 2 ^ 31 by omega) (by omega), nI_add, mnI_n (by omega) (by omega)]
    · unfold frZ
      rw [if_neg (show ¬ (1 : Int32) = 0 by decide)]
      rcases ha with ha | ha
      · rw [enc_lo (show a < 1000000 by omega), if_pos (nI_pos' (show a < 2 ^ 31 by omega)), nI_add, enc_lo (by omega)]
        congr 1
        omega
      · rw [enc_hi ha.1, if_neg (by decide), enc_hi (by omega)]
    · unfold frN
      rw [if_neg (show ¬ (1 : Int32) = 0 by decide)]
      rcases ha with ha | ha
      · rw [enc_lo (show a < 1000000 by omega), if_neg (show ¬ nI a < 0 from nI_nlt (a := a) (b := 0) (by omega) (by omega)), nI_add]
        rcases hb with hb | hb
        · rw [enc_lo (show b + min K P < 1000000 by omega), if_neg (show ¬ nI (b + min K P) < 0 from nI_nlt (a := b + min K P) (b := 0) (by omega) (by omega)), enc_lo (by omega)]
          by_cases y : b + min K P ≤ a + P
          · rw [if_pos (nI_le y (by omega))]
            congr 1
            omega
          · rw [if_neg (Int32.not_le.mpr (nI_lt (by omega) (by omega)))]
            congr 1
            omega
        · rw [enc_hi (show 1000000 ≤ b + min K P by omega), if_pos (by decide), enc_lo (by omega)]
          congr 1
          omega
      · rw [enc_hi ha.1, if_pos (by decide)]
        rcases hb with hb | hb
        · congr 1
          omega
        · rw [enc_hi (by omega), enc_hi (by omega)]
def lastR (ah last : Int32) : Prop := (ah = -1 ∧ last = 0) ∨ ∃ y : Nat, y < 8 ∧ ah = nI y ∧ last = 1 + nI y
theorem turn_e {ah last : Int32} {yv : Nat} (h : lastR ah last) (hy : yv < 8) : (turnV ah (nI yv) = 0) ↔ ¬ frT last yv = true := by
  unfold turnV frT
  rcases h with ⟨rfl, rfl⟩ | ⟨y, y8, rfl, rfl⟩
  · rw [if_pos rfl]
    exact ⟨fun _ z => (of_decide_eq_true z).1 (by decide), fun _ => rfl⟩
  · rw [if_neg (fun z => absurd (nI_pos' (show y < 2 ^ 31 by omega)) (by rw [z]; decide))]
    have e1 : (1 : Int32) + nI y = nI (1 + y) := by rw [show (1 : Int32) = nI 1 from rfl, nI_add]
    have e2 : (1 : Int32) + nI yv = nI (1 + yv) := by rw [show (1 : Int32) = nI 1 from rfl, nI_add]
    rw [e1, e2]
    have n0 : ¬ nI (1 + y) ≤ 0 := Int32.not_le.mpr (nI_lt (a := 0) (b := 1 + y) (by omega) (by omega))
    by_cases q : y = yv
    · rw [if_pos (by rw [q])]
      exact ⟨fun _ z => (of_decide_eq_true z).2 (by rw [q]), fun _ => rfl⟩
    · rw [if_neg (fun z => q ((nI_eq (by omega) (by omega)).mp z))]
      refine ⟨fun z => absurd z (by decide), fun z => absurd (decide_eq_true ⟨n0, fun u => q ?_⟩) z⟩
      have := (nI_eq (show 1 + y < 2 ^ 31 by omega) (show 1 + yv < 2 ^ 31 by omega)).mp u
      omega
theorem frc_one {m ah last : Int32} {yv K P T a b : Nat} (hl : lastR ah last) (hy : yv < 8) (hK : K ≤ 99) (hP : P ≤ 99) (hT : T ≤ 24) (ha : okv T a) (hb : okv T b) : ∃ a2 b2 : Nat, okv (T + 1) a2 ∧ okv (T + 1) b2 ∧ frcS m ah (nI P) (nI K) yv (nI a, nI b) = (nI a2, nI b2) ∧ frZ (if m = 0 then 0 else 1) (frA (frT last yv) (enc a) (enc b)) (if nI K < nI P then nI K else nI P) (nI K) = enc a2 ∧ frN (if m = 0 then 0 else 1) (nI P) (frA (frT last yv) (enc a) (enc b)) (frW (frB (frT last yv) (enc b)) (if nI K < nI P then nI K else nI P)) = enc b2 := by
  have te := turn_e hl hy
  generalize frT last yv = t at te
  have a31 : a < 2 ^ 30 := by unfold okv at ha; omega
  have b31 : b < 2 ^ 30 := by unfold okv at hb; omega
  obtain ⟨o1, o2⟩ := okv_t (t := t) hT ha hb
  rw [enc_A t hT ha hb, enc_B t b]
  have e1 : (if turnV ah (nI yv) = 0 then nI a else mnI (nI a) (nI b)) = nI (if t = true then min a b else a) := by
    by_cases z : t = true
    · rw [if_pos z, if_neg (fun y => (te.mp y) z), mnI_n (by omega) (by omega)]
    · rw [if_neg z, if_pos (te.mpr z)]
  have e2 : (if turnV ah (nI yv) = 0 then nI b else 1000000) = nI (if t = true then 1000000 else b) := by
    by_cases z : t = true
    · rw [if_pos z, if_neg (fun y => (te.mp y) z)]; rfl
    · rw [if_neg z, if_pos (te.mpr z)]
  unfold frcS
  show ∃ a2 b2 : Nat, okv (T + 1) a2 ∧ okv (T + 1) b2 ∧ (mnI ((if turnV ah (nI yv) = 0 then nI a else mnI (nI a) (nI b)) + nI K) (if m = 0 then (if turnV ah (nI yv) = 0 then nI a else mnI (nI a) (nI b)) + nI P else 1000000), mnI ((if turnV ah (nI yv) = 0 then nI b else 1000000) + nI K) ((if m = 0 then (if turnV ah (nI yv) = 0 then nI b else 1000000) else mnI (if turnV ah (nI yv) = 0 then nI a else mnI (nI a) (nI b)) (if turnV ah (nI yv) = 0 then nI b else 1000000)) + nI P)) = (nI a2, nI b2) ∧ _ ∧ _
  rw [e1, e2]
  obtain ⟨a2, b2, c1, c2, c3, c4, c5, c6⟩ := frc_two (m := m) hK hP hT o1 o2
  exact ⟨a2, b2, c1, c2, by rw [c3, c4], c5, c6⟩
