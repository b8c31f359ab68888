/-! WED TWICE OR MORE, ON BOTH SIDES -/
theorem oft_c (r : Nat → Int32) (a : Nat) : (if bitc (orN (wedTo r a) 8) < 2 then (0 : Int32) else 1) = oftM r a := by
  unfold oftM bts
  rw [bits_8 (wed_8 r a), bitc_8 (wed_8 r a)]
  have l := fb_ct_le (tb (orN (wedTo r a) 8)) 8
  generalize fb_ct (tb (orN (wedTo r a) 8)) 8 = n at l
  by_cases p : n < 2
  · rw [if_pos (show nI n < 2 from show nI n < nI 2 from nI_lt p (by decide)), if_pos (show nI n ≤ 1 from show nI n ≤ nI 1 from nI_le (by omega) (by decide))]
  · rw [if_neg (show ¬ nI n < 2 from show ¬ nI n < nI 2 from nI_nlt (by omega) (by omega)), if_neg (Int32.not_le.mpr (show 1 < nI n from show nI 1 < nI n from nI_lt (by omega) (by omega)))]
theorem rsum_cut {g : Nat → Int32} {n : Nat} : ∀ m, (∀ k, n ≤ k → k < n + m → g k = 0) → rsum g (n + m) = rsum g n
  | 0, _ => rfl
  | m + 1, z => by
    show rsum g (n + m) + g (n + m) = _
    rw [rsum_cut m (fun k h1 h2 => z k h1 (by omega)), z (n + m) (by omega) (by omega), Int32.add_zero]
theorem oft_sum {f : Nat → Nat → Int32} {r : Nat → Int32} {H N : Nat} (k : LR f 21 r H N) (hH : H ≤ 8) : cdO (f 22) = rsum (oftM r) H := by
  unfold cdO
  have e : rsum (fun a => if bitc (f 22 a) < 2 then (0 : Int32) else 1) 8 = rsum (oftM r) 8 := rsum_cg 8 (fun a ha => by
    show (if bitc (f 22 a) < 2 then (0 : Int32) else 1) = _
    rw [show f 22 a = orN (wedTo r a) 8 from k.2.2.2.2.1 a ha]
    exact oft_c r a)
  rw [e]
  have c := rsum_cut (g := oftM r) (n := H) (8 - H) (fun a h1 h2 => by
    rw [← oft_c]
    have z : orN (wedTo r a) 8 = 0 := set8_ext (wed_8 r a) set8_0 (fun i hi => by
      rw [wed_tb r a 8 (Nat.le_refl _) i (by omega), tb_0]
      refine decide_eq_false (fun u => u.2 ?_)
      obtain ⟨v, -, v2, -, v4, -⟩ := k.2.2.2.2.2.1 a i (by omega) hi
      rw [v2, v4 (Or.inl h1)]
      decide)
    rw [z]
    decide)
  rw [show H + (8 - H) = 8 from by omega] at c
  exact c
