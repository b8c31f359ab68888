/-! WEDDINGS, HOURS, CHILDREN BEHIND AN HOUR -/
theorem wedE_n {n : Nat} (hn : n < 2 ^ 30) : wedE 1 (nI n) = nI (if 0 < n ∧ n % 3 = 0 then 1 else 0) := by
  unfold wedE
  rw [if_neg (show ¬ (1 : Int32) = 0 by decide)]
  by_cases p : 0 < n
  · rw [if_neg (Int32.not_le.mpr (show 0 < nI n from show nI 0 < nI n from nI_lt p (by omega))), show (3 : Int32) = nI 3 from rfl, pk_rem (by omega) (by omega) (by omega)]
    by_cases q : n % 3 = 0
    · rw [q, if_pos (show nI 0 = 0 from rfl), if_pos ⟨p, rfl⟩]; rfl
    · rw [if_neg (nI_ne0 (by omega) (by omega)), if_neg (fun z => q z.2)]; rfl
  · rw [if_pos (show nI n ≤ 0 from show nI n ≤ nI 0 from nI_le (by omega) (by omega)), if_neg (fun z => p z.1)]; rfl
theorem hr_567 {f g : Nat → Nat → Int32} {r R' c : Nat → Int32} {H N : Nat} (k : LR f 21 r H N) (hN : N ≤ 600000) (hH : H ≤ 8) (sy : symM c) (hcc : ∀ a b, a < 8 → b < 8 → tb (c a) b = true → a < H ∧ b < H) (T : Prop) [Decidable T]
    (pr : ∀ a b, a < 8 → b < 8 → R' (8 * a + b) = nI (hV T r c a b) ∧ R' (64 + (8 * a + b)) = r (64 + (8 * a + b)) + wedE 1 (nI (hV T r c a b)))
    (c5 : ∀ a, a < 8 → g 22 a = (if T then f 22 a else 0) ||| c a)
    (c6 : ∀ z, z < 64 → g 23 z = (if T then f 23 z else 0) + (if agN (g 22) H z = true then 1 else 0))
    (c7 : ∀ z, z < 64 → g 24 z = f 24 z + (if agN (g 22) H z = true ∧ ((if T then f 23 z else 0) + 1) - ((if T then f 23 z else 0) + 1) / 3 * 3 = 0 then 1 else 0)) :
    (∀ a, a < 8 → g 22 a = orN (wedTo R' a) 8) ∧ (∀ a b, a < 8 → b < 8 → ∃ v : Nat, v ≤ N + 1 ∧ R' (8 * a + b) = nI v ∧ R' (8 * b + a) = nI v ∧ ((H ≤ a ∨ H ≤ b ∨ a = b) → v = 0) ∧ (a < b → g 23 (8 * a + b) = nI v)) ∧
    (∀ a b, a < 8 → b < 8 → ∃ v : Nat, v ≤ N + 1 ∧ R' (64 + 8 * a + b) = nI v ∧ R' (64 + 8 * b + a) = nI v ∧ (a = b → v = 0) ∧ g 24 (8 * a + b) = if a < b then nI v else 0) := by
  have bits : ∀ a b, a < 8 → b < 8 → tb (g 22 a) b = decide (0 < hV T r c a b) := fun a b ha hb => by
    rw [c5 a ha]
    exact hV_c k hN T ha hb
  have ag : ∀ a b, a < 8 → b < 8 → (agN (g 22) H (8 * a + b) = true ↔ (a < b ∧ 0 < hV T r c a b)) := fun a b ha hb => by
    unfold agN
    rw [show (8 * a + b) / 8 = a from by omega, show (8 * a + b) % 8 = b from by omega, hasB_tb (by omega), bits a b ha hb, Bool.and_eq_true, decide_eq_true_iff, decide_eq_true_iff]
    have z := (hV_f k hN sy hcc T ha hb).2.2
    refine ⟨fun u => ⟨u.1.2, u.2⟩, fun u => ⟨⟨Decidable.byContradiction (fun w => ?_), u.1⟩, u.2⟩⟩
    have := z (Or.inl (by omega))
    omega
  have rel : ∀ a b, (0 < hV T r c a b → hV T r c a b = hY T r a b + 1) ∧ (¬ 0 < hV T r c a b → hY T r a b = 0) := fun a b => by
    unfold hV
    by_cases z : 0 < hY T r a b ∨ tb (c a) b = true
    · rw [if_pos z]; exact ⟨fun _ => rfl, fun u => absurd (Nat.succ_pos _) u⟩
    · rw [if_neg z]; exact ⟨fun u => absurd u (Nat.lt_irrefl 0), fun _ => Nat.eq_zero_of_not_pos (fun u => z (Or.inl u))⟩
  refine ⟨fun a ha => ?_, fun a b ha hb => ?_, fun a b ha hb => ?_⟩
  · refine set8_ext ?_ (wed_8 R' a) (fun i hi => ?_)
    · rw [c5 a ha]
      refine set8_or ?_ (sy.1 a ha)
      by_cases z : T
      · rw [if_pos z, show f 22 a = orN (wedTo r a) 8 from k.2.2.2.2.1 a ha]; exact wed_8 r a
      · rw [if_neg z]; exact set8_0
    · rw [bits a i ha hi, wed_tb R' a 8 (Nat.le_refl _) i (by omega), (pr a i ha hi).1]
      have b := (hV_f k hN sy hcc T ha hi).1
      by_cases p : 0 < hV T r c a i
      · rw [decide_eq_true p]
        exact (decide_eq_true ⟨hi, Int32.not_le.mpr (show nI 0 < nI (hV T r c a i) from nI_lt p (by omega))⟩).symm
      · rw [decide_eq_false p]
        exact (decide_eq_false (fun u => u.2 (show nI (hV T r c a i) ≤ nI 0 from nI_le (by omega) (by omega)))).symm
  · obtain ⟨v1, v2, v3⟩ := hV_f k hN sy hcc T ha hb
    refine ⟨hV T r c a b, v1, (pr a b ha hb).1, ?_, v3, fun ab => ?_⟩
    · rw [(pr b a hb ha).1, v2]
    · obtain ⟨-, -, -, -, -, y6⟩ := hY_f k hN T ha hb
      rw [c6 _ (by omega), y6 ab]
      by_cases p : 0 < hV T r c a b
      · rw [if_pos ((ag a b ha hb).mpr ⟨ab, p⟩), (rel a b).1 p, nI_1]
      · rw [if_neg (fun z => p ((ag a b ha hb).mp z).2), (rel a b).2 p, Int32.add_zero, show hV T r c a b = 0 from by omega]
  · obtain ⟨v1, v2, v3⟩ := hV_f k hN sy hcc T ha hb
    obtain ⟨y1, -, -, -, -, y6⟩ := hY_f k hN T ha hb
    obtain ⟨v, w1, w2, w3, w4, w5⟩ := k.2.2.2.2.2.2.1 a b ha hb
    have w5 : f 24 (8 * a + b) = if a < b then nI v else 0 := w5
    have p1 := (pr a b ha hb).2
    have p2 := (pr b a hb ha).2
    rw [wedE_n (by omega), ← Nat.add_assoc, w2, nI_add] at p1
    rw [← v2, wedE_n (by omega), ← Nat.add_assoc, w3, nI_add] at p2
    refine ⟨_, ?_, p1, p2, fun e => ?_, ?_⟩
    · split <;> omega
    · rw [w4 e, v3 (Or.inr (Or.inr e))]; rfl
    · rw [c7 _ (by omega), w5]
      by_cases ab : a < b
      · rw [if_pos ab, if_pos ab, y6 ab, nI_1, show (3 : Int32) = nI 3 from rfl, pk_rem (by omega) (by omega) (by omega), ← nI_add]
        congr 1
        by_cases p : 0 < hV T r c a b
        · have e := (rel a b).1 p
          rw [e]
          by_cases q : (hY T r a b + 1) % 3 = 0
          · rw [if_pos ⟨(ag a b ha hb).mpr ⟨ab, p⟩, by rw [q]; rfl⟩, if_pos ⟨by omega, q⟩]; rfl
          · rw [if_neg (fun z => absurd z.2 (nI_ne0 (by omega) (by omega))), if_neg (fun z => q z.2)]; rfl
        · rw [if_neg (fun z => p ((ag a b ha hb).mp z.1).2), if_neg (fun z => p z.1)]; rfl
      · rw [if_neg ab, if_neg ab, if_neg (fun z => ab ((ag a b ha hb).mp z.1).1)]; rfl
