/-! THE SAME ANSWERS: pair, wind, plume, smoke, meets -/
theorem two_of {H : Nat} (hH : H ≤ 8) {a b : Int32} (h : ¬ twoOK H a b = 0) : ∃ i j : Nat, i < H ∧ j < H ∧ i ≠ j ∧ a = nI i ∧ b = nI j := by
  unfold twoOK at h
  by_cases h1 : hOK H a = true
  · rw [if_pos h1] at h
    by_cases h2 : hOK H b = true
    · rw [if_pos h2] at h
      by_cases h3 : a = b
      · rw [if_pos h3] at h; exact absurd rfl h
      · obtain ⟨i, hi, e1⟩ := hOK_of hH h1
        obtain ⟨j, hj, e2⟩ := hOK_of hH h2
        exact ⟨i, j, hi, hj, fun z => h3 (by rw [e1, e2, z]), e1, e2⟩
    · rw [if_neg h2] at h; exact absurd rfl h
  · rw [if_neg h1] at h; exact absurd rfl h
theorem LR_hrs {f : Nat → Nat → Int32} {l : Nat} {g : Nat → Int32} {H N : Nat} (h : LR f l g H N) {i j : Nat} (hi : i < 8) (hj : j < 8) (hij : i ≠ j) : f (l + 2) (ppN i j) = g (8 * i + j) := by
  unfold ppN
  by_cases q : i < j
  · obtain ⟨v, -, v2, -, -, v5⟩ := h.2.2.2.2.2.1 i j hi hj
    rw [if_neg (by omega), if_pos q, v5 q, v2]
  · obtain ⟨v, -, -, v3, -, v5⟩ := h.2.2.2.2.2.1 j i hj hi
    rw [if_pos (by omega), if_neg q, v5 (by omega), v3]
theorem LR_chl {f : Nat → Nat → Int32} {l : Nat} {g : Nat → Int32} {H N : Nat} (h : LR f l g H N) {i j : Nat} (hi : i < 8) (hj : j < 8) (hij : i ≠ j) : f (l + 3) (ppN i j) = g (64 + 8 * i + j) := by
  unfold ppN
  by_cases q : i < j
  · obtain ⟨v, -, v2, -, -, v5⟩ := h.2.2.2.2.2.2.1 i j hi hj
    rw [if_pos q] at v5
    rw [if_neg (by omega), if_pos q, v5, v2]
  · obtain ⟨v, -, -, v3, -, v5⟩ := h.2.2.2.2.2.2.1 j i hj hi
    rw [if_pos (by omega)] at v5
    rw [if_pos (by omega), if_neg q, v5, v3]
theorem i01 {x : Int32} (h0 : ¬ x < 0) (h1 : ¬ 1 < x) : x = 0 ∨ x = 1 := by
  obtain ⟨j, hj, e⟩ := nI_of2 (M := 1) (n := 1) rfl h0 (Int32.not_lt.mp h1)
  rcases (show j = 0 ∨ j = 1 by omega) with rfl | rfl <;> rw [e] <;> decide
theorem an_pair {f : Nat → Nat → Int32} {H N : Nat} (hH : H ≤ 8) (k : LR f 21 (f 67) H N) (a b x : Int32) : (if twoOK H a b = 0 then -1 else pairV f a b x) = (if twoOK H a b = 0 then -1 else if (if x < 0 then 0 else if 1 < x then 0 else 1 : Int32) = 0 then -1 else f 67 ((if x = 0 then 0 else 64) + 8 * a.toNatClampNeg + b.toNatClampNeg)) := by
  by_cases h : twoOK H a b = 0
  · rw [if_pos h, if_pos h]
  rw [if_neg h, if_neg h]
  obtain ⟨i, j, hi, hj, hij, rfl, rfl⟩ := two_of hH h
  unfold pairV
  rw [nI_clamp (show i < 2 ^ 31 by omega), nI_clamp (show j < 2 ^ 31 by omega)]
  by_cases h0 : x < 0
  · have n0 : ¬ x = 0 := fun z => absurd h0 (by rw [z]; decide)
    have n1 : ¬ x = 1 := fun z => absurd h0 (by rw [z]; decide)
    rw [if_pos h0, if_pos rfl, if_neg n0, if_neg n1]
  by_cases h1 : 1 < x
  · have n0 : ¬ x = 0 := fun z => absurd h1 (by rw [z]; decide)
    have n1 : ¬ x = 1 := fun z => absurd h1 (by rw [z]; decide)
    rw [if_neg h0, if_pos h1, if_pos rfl, if_neg n0, if_neg n1]
  rw [if_neg h0, if_neg h1, if_neg (show ¬ (1 : Int32) = 0 by decide)]
  rcases i01 h0 h1 with rfl | rfl
  · rw [if_pos rfl, if_pos rfl, Nat.zero_add]
    exact LR_hrs k (by omega) (by omega) hij
  · rw [if_neg (show ¬ (1 : Int32) = 0 by decide), if_pos rfl, if_neg (show ¬ (1 : Int32) = 0 by decide)]
    exact LR_chl k (by omega) (by omega) hij
theorem LR_hour {f : Nat → Nat → Int32} {l : Nat} {g : Nat → Int32} {H N : Nat} (h : LR f l g H N) : g 138 = f l 8 := by
  obtain ⟨t, -, a, b⟩ := h.1
  rw [a, b]
theorem an_wind {f : Nat → Nat → Int32} {H N : Nat} {V : Int32 → Int32} {F : Int32 → Int32 → Int32 → Int32} (k : LR f 21 (f 67) H N) (hF : ∀ x y z, F x y z = V x) (b : Int32) : (if b < 0 then -1 else if b ≤ 9999 then fmod8 (F (f 21 8 + b) 0 0) else -1) = (if (if b < 0 then 0 else if 9999 < b then 0 else 1 : Int32) = 0 then -1 else V (f 67 138 + b) &&& 7) := by
  rw [LR_hour k, hF, fmod8_and]
  by_cases h0 : b < 0
  · rw [if_pos h0, if_pos h0, if_pos rfl]
  rw [if_neg h0, if_neg h0]
  by_cases h1 : 9999 < b
  · rw [if_neg (Int32.not_le.mpr h1), if_pos h1, if_pos rfl]
  · rw [if_pos (Int32.not_lt.mp h1), if_neg h1, if_neg (by decide)]
theorem sh01 {j : Nat} (hj : j < 32) (x : Int32) : ((if (x >>> (nI j &&& 31)) &&& 1 = 1 then 1 else 0 : Int32) = 0) ↔ (x >>> (nI j &&& 31)) &&& 1 = 0 := by
  rw [sh_and hj]
  cases tb x j <;> decide
theorem an_len {f : Nat → Nat → Int32} {s C R H K U N j : Nat} {V : Int32 → Int32} {F G : Int32 → Int32 → Int32 → Int32} (h : SRn f s 0 C R H K U) (k : LR f 21 (f 67) H N) (hF : ∀ x y z, F x y z = V x) (hj : j < H) : lenLit f s F G j = if (if (f 67 137 >>> (nI j &&& 31)) &&& 1 = 1 then 1 else 0 : Int32) = 0 then mlenS f V G j else 0 := by
  have hj8 : j < 8 := Nat.lt_of_lt_of_le hj h.1.2.2.1
  obtain ⟨-, -, r3, r4⟩ := SRn_rows h j hj
  have r3 : f (s + 3) j = f 50 j := r3
  have r4 : f (s + 4) j = f 51 j := r4
  unfold lenLit mlenS
  rw [LR_hour k, hF, fmod8_and, r3, r4, k.2.2.1.2]
  by_cases z : (f 21 11 >>> (nI j &&& 31)) &&& 1 = 0
  · rw [if_pos z, if_pos ((sh01 (by omega) _).mpr z)]
  · rw [if_neg z, if_neg (fun y => z ((sh01 (by omega) _).mp y))]
theorem an_plume {f : Nat → Nat → Int32} {s C R H K U N : Nat} {V : Int32 → Int32} {F G : Int32 → Int32 → Int32 → Int32} (h : SRn f s 0 C R H K U) (k : LR f 21 (f 67) H N) (hF : ∀ x y z, F x y z = V x) (b : Int32) : (if hOK H b = true then lenLit f s F G b.toNatClampNeg else -1) = (if hOK H b = true then (if (if (f 67 137 >>> (b &&& 31)) &&& 1 = 1 then 1 else 0 : Int32) = 0 then mlenS f V G b.toNatClampNeg else 0) else -1) := by
  by_cases z : hOK H b = true
  · rw [if_pos z, if_pos z]
    obtain ⟨j, hj, rfl⟩ := hOK_of h.1.2.2.1 z
    have hj8 : j < 8 := Nat.lt_of_lt_of_le hj h.1.2.2.1
    rw [nI_clamp (show j < 2 ^ 31 by omega)]
    exact an_len h k hF hj
  · rw [if_neg z, if_neg z]
theorem cyv_e {V : Int32 → Int32} {F : Int32 → Int32 → Int32 → Int32} (hF : ∀ x y z, F x y z = V x) (x : Int32) : cyv F x = yvO V x := by
  unfold cyv yvO
  rw [hF, fmod8_and]
theorem yvO_l (V : Int32 → Int32) (x : Int32) : yvO V x < 8 ∧ V x &&& 7 = nI (yvO V x) := by
  obtain ⟨k, hk, e⟩ := and7_n (V x)
  unfold yvO
  rw [e, nI_clamp (by omega)]
  exact ⟨hk, rfl⟩
theorem LR_burn {f : Nat → Nat → Int32} {l : Nat} {g : Nat → Int32} {H N : Nat} (h : LR f l g H N) : g 136 &&& (g 137 ^^^ (-1)) = f l 10 &&& (f l 11 ^^^ (-1)) := by rw [h.2.2.1.1, h.2.2.1.2]
