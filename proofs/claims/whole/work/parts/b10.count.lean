/-! THE SAME ANSWERS: count -/
theorem wed_tb (g : Nat → Int32) (a : Nat) : ∀ n, n ≤ 8 → ∀ i, i < 32 → tb (orN (wedTo g a) n) i = decide (i < n ∧ ¬ g (8 * a + i) ≤ 0) := by
  intro n
  induction n with
  | zero =>
    intro _ i _
    rw [orN, tb_0]
    exact (decide_eq_false (fun z => absurd z.1 (Nat.not_lt_zero i))).symm
  | succ n ih =>
    intro hn i hi
    rw [orN, tb_or, ih (by omega) i hi]
    unfold wedTo
    by_cases q : i = n
    · rw [q]
      by_cases z : g (8 * a + n) ≤ 0
      · rw [if_pos z, tb_0, Bool.or_false, decide_eq_false (fun y => absurd y.1 (Nat.lt_irrefl n)), decide_eq_false (fun y => y.2 z)]
      · rw [if_neg z, tb_bitI (by omega) (by omega), decide_eq_true (show n = n from rfl), Bool.or_true, decide_eq_true (show n < n + 1 ∧ ¬ g (8 * a + n) ≤ 0 from ⟨Nat.lt_succ_self n, z⟩)]
    · have e : tb (if g (8 * a + n) ≤ 0 then 0 else bitI n) i = false := by
        by_cases z : g (8 * a + n) ≤ 0
        · rw [if_pos z, tb_0]
        · rw [if_neg z, tb_bitI (by omega) hi]; exact decide_eq_false q
      rw [e, Bool.or_false]
      by_cases y : i < n
      · by_cases z : g (8 * a + i) ≤ 0
        · rw [decide_eq_false (fun u => u.2 z), decide_eq_false (fun u => u.2 z)]
        · rw [decide_eq_true ⟨y, z⟩, decide_eq_true ⟨(by omega : i < n + 1), z⟩]
      · rw [decide_eq_false (fun u => y u.1), decide_eq_false (fun u => absurd u.1 (by omega))]
theorem wed_8 (g : Nat → Int32) (a : Nat) : set8 (orN (wedTo g a) 8) := fun i h1 h2 => by
  rw [wed_tb g a 8 (Nat.le_refl _) i h2]
  exact decide_eq_false (fun z => absurd z.1 (by omega))
theorem ct_sm (p : Nat → Bool) : ∀ n, fb_ct p n = fb_sm (fun k => if p k then 1 else 0) n
  | 0 => rfl
  | n + 1 => by rw [fb_ct_succ, fb_sm_succ, ct_sm p n]
def cE (g : Nat → Int32) (a b : Nat) : Nat := if g (8 * a + b) ≤ 0 then 0 else 1
theorem wed_ct (g : Nat → Int32) (a : Nat) : bitc (orN (wedTo g a) 8) = nI (fb_sm (cE g a) 8) := by
  rw [bitc_8 (wed_8 g a), ct_sm]
  congr 1
  refine fb_sm_cong (fun k hk => ?_)
  rw [wed_tb g a 8 (Nat.le_refl _) k (by omega)]
  unfold cE
  by_cases z : g (8 * a + k) ≤ 0
  · rw [if_pos z, decide_eq_false (fun u => u.2 z)]; rfl
  · rw [if_neg z, decide_eq_true ⟨hk, z⟩]; rfl
def upS (E : Nat → Nat → Nat) (n : Nat) : Nat := fb_sm (fun a => fb_sm (fun b => if a < b then E a b else 0) 8) n
theorem cntB_n {r : Nat → Int32} {x : Int32} {E : Nat → Nat → Nat} {a : Nat} (c : Nat) : ∀ n, (∀ b, b < n → a < b → cntE r x a b = nI (E a b)) → cntB r x a (nI c) n = nI (c + fb_sm (fun b => if a < b then E a b else 0) n) := by
  intro n
  induction n with
  | zero => intro _; rfl
  | succ n ih =>
    intro h
    rw [cntB, fb_sm_succ, ih (fun b hb z => h b (by omega) z)]
    by_cases z : a < n
    · rw [if_pos z, if_pos z, h n (by omega) z, nI_add, Nat.add_assoc]
    · rw [if_neg z, if_neg z, Nat.add_zero]
theorem cntA_n {r : Nat → Int32} {x : Int32} {E : Nat → Nat → Nat} : ∀ n, n ≤ 8 → (∀ a b, a < 8 → b < 8 → a < b → cntE r x a b = nI (E a b)) → cntA r x n = nI (upS E n) := by
  intro n
  induction n with
  | zero => intro _ _; rfl
  | succ n ih =>
    intro hn h
    rw [cntA, ih (by omega) h, cntB_n (upS E n) 8 (fun b hb z => h n b (by omega) hb z)]
    rfl
theorem two_up {E : Nat → Nat → Nat} (h : ∀ a b, a < 8 → b < 8 → E a b = E b a) (h0 : ∀ a, a < 8 → E a a = 0) : fb_sm (fun a => fb_sm (E a) 8) 8 = 2 * upS E 8 := by
  unfold upS
  simp only [fb_sm, show ∀ n : Nat, ¬ n < 0 from Nat.not_lt_zero]
  simp (config := {decide := true}) only [if_true, if_false]
  have d0 := h0 0 (by decide)
  have d1 := h0 1 (by decide)
  have d2 := h0 2 (by decide)
  have d3 := h0 3 (by decide)
  have d4 := h0 4 (by decide)
  have d5 := h0 5 (by decide)
  have d6 := h0 6 (by decide)
  have d7 := h0 7 (by decide)
  have s01 := h 0 1 (by decide) (by decide)
  have s02 := h 0 2 (by decide) (by decide)
  have s03 := h 0 3 (by decide) (by decide)
  have s04 := h 0 4 (by decide) (by decide)
  have s05 := h 0 5 (by decide) (by decide)
  have s06 := h 0 6 (by decide) (by decide)
  have s07 := h 0 7 (by decide) (by decide)
  have s12 := h 1 2 (by decide) (by decide)
  have s13 := h 1 3 (by decide) (by decide)
  have s14 := h 1 4 (by decide) (by decide)
  have s15 := h 1 5 (by decide) (by decide)
  have s16 := h 1 6 (by decide) (by decide)
  have s17 := h 1 7 (by decide) (by decide)
  have s23 := h 2 3 (by decide) (by decide)
  have s24 := h 2 4 (by decide) (by decide)
  have s25 := h 2 5 (by decide) (by decide)
  have s26 := h 2 6 (by decide) (by decide)
  have s27 := h 2 7 (by decide) (by decide)
  have s34 := h 3 4 (by decide) (by decide)
  have s35 := h 3 5 (by decide) (by decide)
  have s36 := h 3 6 (by decide) (by decide)
  have s37 := h 3 7 (by decide) (by decide)
  have s45 := h 4 5 (by decide) (by decide)
  have s46 := h 4 6 (by decide) (by decide)
  have s47 := h 4 7 (by decide) (by decide)
  have s56 := h 5 6 (by decide) (by decide)
  have s57 := h 5 7 (by decide) (by decide)
  have s67 := h 6 7 (by decide) (by decide)
  omega
theorem sm_block (v : Nat → Nat) (m : Nat) : ∀ n, fb_sm v (m * n) = fb_sm (fun a => fb_sm (fun b => v (m * a + b)) m) n
  | 0 => rfl
  | n + 1 => by rw [Nat.mul_succ, fb_sm_split, fb_sm_succ, sm_block v m n]
theorem sm_swap (V : Nat → Nat → Nat) (m : Nat) : ∀ n, fb_sm (fun a => fb_sm (fun b => V a b) m) n = fb_sm (fun b => fb_sm (fun a => V a b) n) m
  | 0 => by
    show 0 = fb_sm (fun _ => 0) m
    rw [fb_sm_const, Nat.mul_zero]
  | n + 1 => by
    rw [fb_sm_succ, sm_swap V m n, ← fb_sm_add]
    rfl
theorem up_all {E : Nat → Nat → Nat} {v : Nat → Nat} (h : ∀ a b, a < 8 → b < 8 → v (8 * a + b) = if a < b then E a b else 0) : fb_sm v 64 = upS E 8 := by
  rw [show 64 = 8 * 8 from rfl, sm_block]
  exact fb_sm_cong (fun a ha => fb_sm_cong (fun b hb => h a b ha hb))
theorem nI_back {x : Int32} {v : Nat} (h : x = nI v) (hv : v < 2 ^ 31) : x = nI x.toNatClampNeg := by
  rw [h, nI_clamp hv]
theorem cnt_4 {f : Nat → Nat → Int32} {H N : Nat} (k : LR f 21 (f 67) H N) (hN : N ≤ 600000) : rsum (fun k => bitc (f 22 k)) 8 / 2 = cntA (f 67) 4 8 := by
  obtain ⟨-, -, -, -, h5, h6, h7, -, h9⟩ := k
  have e1 : rsum (fun k => bitc (f 22 k)) 8 = nI (fb_sm (fun a => fb_sm (cE (f 67) a) 8) 8) := rsum_n 8 (fun a ha => by
    show bitc (f 22 a) = _
    rw [show f 22 a = orN (wedTo (f 67) a) 8 from h5 a ha]
    exact wed_ct _ a)
  have b : fb_sm (fun a => fb_sm (cE (f 67) a) 8) 8 ≤ 8 * (8 * 1) := fb_sm_bound (fun a _ => fb_sm_bound (fun b _ => by unfold cE; split <;> omega))
  have e2 : fb_sm (fun a => fb_sm (cE (f 67) a) 8) 8 = 2 * upS (cE (f 67)) 8 := two_up (fun a b ha hb => by
    obtain ⟨v, -, v2, v3, -⟩ := h6 a b ha hb
    unfold cE
    rw [v2, v3]) (fun a ha => by
    obtain ⟨v, -, v2, -, v4, -⟩ := h6 a a ha ha
    unfold cE
    rw [v2, v4 (Or.inr (Or.inr rfl))]
    rfl)
  rw [e1, cntA_n (E := cE (f 67)) 8 (Nat.le_refl _) (fun a b _ _ _ => by
    show (if f 67 (8 * a + b) ≤ 0 then 0 else 1) = _
    unfold cE
    split <;> rfl), show (2 : Int32) = nI 2 from rfl, pk_div (by omega) (by decide) (by decide)]
  congr 1
  omega
theorem cnt_5 {f : Nat → Nat → Int32} {H N : Nat} (k : LR f 21 (f 67) H N) (hN : N ≤ 600000) : rsum (f 24) 64 = cntA (f 67) 5 8 := by
  obtain ⟨-, -, -, -, h5, h6, h7, -, h9⟩ := k
  have c : ∀ a b, a < 8 → b < 8 → f 67 (64 + 8 * a + b) = nI (f 67 (64 + 8 * a + b)).toNatClampNeg ∧ f 24 (8 * a + b) = if a < b then f 67 (64 + 8 * a + b) else 0 := fun a b ha hb => by
    obtain ⟨v, v1, v2, v3, v4, v5⟩ := h7 a b ha hb
    refine ⟨nI_back v2 (by omega), ?_⟩
    rw [v2]
    exact v5
  rw [cntA_n (r := f 67) (x := 5) (E := fun a b => (f 67 (64 + 8 * a + b)).toNatClampNeg) 8 (Nat.le_refl _) (fun a b ha hb _ => (c a b ha hb).1), rsum_n (v := fun q => (f 24 q).toNatClampNeg) 64 (fun q hq => by
    have d := c (q / 8) (q % 8) (by omega) (by omega)
    rw [show 8 * (q / 8) + q % 8 = q from by omega] at d
    show f 24 q = nI (f 24 q).toNatClampNeg
    rw [d.2]
    split
    · exact d.1
    · rfl)]
  congr 1
  refine up_all (fun a b ha hb => ?_)
  show (f 24 (8 * a + b)).toNatClampNeg = _
  rw [(c a b ha hb).2]
  split <;> rfl
theorem cnt_6 {f : Nat → Nat → Int32} {H N : Nat} (k : LR f 21 (f 67) H N) (hN : N ≤ 600000) : rsum (f 26) 1152 = cntA (f 67) 6 8 + rsum (fun k => f 67 (176 + k)) 1152 := by
  obtain ⟨-, -, -, -, h5, h6, h7, -, h9⟩ := k
  have c : ∀ p q, q < 8 → p < 144 → f 67 (176 + (8 * p + q)) = nI (f 26 (144 * q + p)).toNatClampNeg ∧ f 26 (144 * q + p) = nI (f 26 (144 * q + p)).toNatClampNeg := fun p q hq hp => by
    obtain ⟨v, v1, v2, v3⟩ := h9 q p hq hp
    have v2 : f 26 (144 * q + p) = nI v := v2
    rw [← Nat.add_assoc, v3, v2, nI_clamp (show v < 2 ^ 31 by omega)]
    exact ⟨rfl, rfl⟩
  rw [cntA_n (r := f 67) (x := 6) (E := fun _ _ => 0) 8 (Nat.le_refl _) (fun a b _ _ _ => rfl), rsum_n (v := fun q => (f 26 q).toNatClampNeg) 1152 (fun q hq => by
    have d := c (q % 144) (q / 144) (by omega) (by omega)
    rw [show 144 * (q / 144) + q % 144 = q from by omega] at d
    exact d.2), rsum_n (v := fun q => (f 26 (144 * (q % 8) + q / 8)).toNatClampNeg) 1152 (fun q hq => by
    have d := c (q / 8) (q % 8) (by omega) (by omega)
    rw [show 8 * (q / 8) + q % 8 = q from by omega] at d
    exact d.1), nI_add]
  congr 1
  have z : upS (fun _ _ => 0) 8 = 0 := by decide
  rw [z, Nat.zero_add]
  have s1 := sm_block (fun q => (f 26 q).toNatClampNeg) 144 8
  rw [show 144 * 8 = 1152 from rfl] at s1
  have s2 := sm_block (fun q => (f 26 (144 * (q % 8) + q / 8)).toNatClampNeg) 8 144
  rw [show 8 * 144 = 1152 from rfl] at s2
  have s3 : fb_sm (fun a => fb_sm (fun b => (f 26 (144 * ((8 * a + b) % 8) + (8 * a + b) / 8)).toNatClampNeg) 8) 144 = fb_sm (fun a => fb_sm (fun b => (f 26 (144 * b + a)).toNatClampNeg) 8) 144 := fb_sm_cong (fun a _ => fb_sm_cong (fun b hb => by
    show (f 26 (144 * ((8 * a + b) % 8) + (8 * a + b) / 8)).toNatClampNeg = _
    rw [show (8 * a + b) % 8 = b from by omega, show (8 * a + b) / 8 = a from by omega]))
  have s4 := sm_swap (fun a b => (f 26 (144 * a + b)).toNatClampNeg) 144 8
  exact s1.trans (s4.trans (s3.symm.trans s2.symm))
theorem an_count {f : Nat → Nat → Int32} {s C R H K U N : Nat} (h : SRn f s 0 C R H K U) (k : LR f 21 (f 67) H N) (hN : N ≤ 600000) (ht : f 1 1 = f 44 1) (x : Int32) : countV f s x = if (if x < 0 then 0 else if 8 < x then 0 else 1 : Int32) = 0 then -1 else mCount f x := by
  by_cases x0 : x < 0
  · rw [if_pos x0, if_pos rfl]
    unfold countV
    have n : ∀ c : Int32, 0 ≤ c → ¬ x = c := fun c hc e => absurd (Int32.lt_of_lt_of_le x0 hc) (by rw [e]; exact fun u => Int32.lt_irrefl u)
    rw [if_neg (n 0 (by decide)), if_neg (n 1 (by decide)), if_neg (n 2 (by decide)), if_neg (n 3 (by decide)), if_neg (n 4 (by decide)), if_neg (n 5 (by decide)), if_neg (n 6 (by decide)), if_neg (n 7 (by decide)), if_neg (n 8 (by decide))]
  by_cases x8 : 8 < x
  · rw [if_neg x0, if_pos x8, if_pos rfl]
    unfold countV
    have n : ∀ c : Int32, c ≤ 8 → ¬ x = c := fun c hc e => absurd (Int32.lt_of_le_of_lt hc x8) (by rw [e]; exact fun u => Int32.lt_irrefl u)
    rw [if_neg (n 0 (by decide)), if_neg (n 1 (by decide)), if_neg (n 2 (by decide)), if_neg (n 3 (by decide)), if_neg (n 4 (by decide)), if_neg (n 5 (by decide)), if_neg (n 6 (by decide)), if_neg (n 7 (by decide)), if_neg (n 8 (by decide))]
  rw [if_neg x0, if_neg x8, if_neg (show ¬ (1 : Int32) = 0 by decide)]
  obtain ⟨j, hj, e⟩ := nI_of2 (M := 8) (n := 8) rfl x0 (Int32.not_lt.mp x8)
  have lk := k
  obtain ⟨⟨t, t1, t2, t3⟩, -, -, ⟨n, n1, n2, n3, -⟩, h5, h6, h7, -, h9⟩ := lk
  have hj : j = 0 ∨ j = 1 ∨ j = 2 ∨ j = 3 ∨ j = 4 ∨ j = 5 ∨ j = 6 ∨ j = 7 ∨ j = 8 := by omega
  rcases hj with rfl | rfl | rfl | rfl | rfl | rfl | rfl | rfl | rfl
  · rw [show x = 0 from e]
    unfold countV mCount
    rw [if_pos (show (0 : Int32) = 0 from rfl), if_pos (show (0 : Int32) = 0 from rfl)]
    rw [h.2.1.1]; exact h.2.2.1.1.symm
  · rw [show x = 1 from e]
    unfold countV mCount
    rw [if_neg (show ¬ (1 : Int32) = 0 by decide), if_pos (show (1 : Int32) = 1 from rfl), if_neg (show ¬ (1 : Int32) = 0 by decide), if_pos (show (1 : Int32) = 1 from rfl)]
    rw [h.2.1.2.1]; exact h.2.2.1.2.1.symm
  · rw [show x = 2 from e]
    unfold countV mCount
    rw [if_neg (show ¬ (2 : Int32) = 0 by decide), if_neg (show ¬ (2 : Int32) = 1 by decide), if_pos (show (2 : Int32) = 2 from rfl), if_neg (show ¬ (2 : Int32) = 0 by decide), if_neg (show ¬ (2 : Int32) = 1 by decide), if_pos (show (2 : Int32) = 2 from rfl)]
    rw [h.2.1.2.2.2.2]; exact h.2.2.1.2.2.2.2.symm
  · rw [show x = 3 from e]
    unfold countV mCount
    rw [if_neg (show ¬ (3 : Int32) = 0 by decide), if_neg (show ¬ (3 : Int32) = 1 by decide), if_neg (show ¬ (3 : Int32) = 2 by decide), if_pos (show (3 : Int32) = 3 from rfl), if_neg (show ¬ (3 : Int32) = 0 by decide), if_neg (show ¬ (3 : Int32) = 1 by decide), if_neg (show ¬ (3 : Int32) = 2 by decide), if_pos (show (3 : Int32) = 3 from rfl)]
    rw [t2, t3]
  · rw [show x = 4 from e]
    unfold countV mCount
    rw [if_neg (show ¬ (4 : Int32) = 0 by decide), if_neg (show ¬ (4 : Int32) = 1 by decide), if_neg (show ¬ (4 : Int32) = 2 by decide), if_neg (show ¬ (4 : Int32) = 3 by decide), if_pos (show (4 : Int32) = 4 from rfl), if_neg (show ¬ (4 : Int32) = 0 by decide), if_neg (show ¬ (4 : Int32) = 1 by decide), if_neg (show ¬ (4 : Int32) = 2 by decide), if_neg (show ¬ (4 : Int32) = 3 by decide), if_neg (show ¬ (7 : Int32) ≤ 4 by decide)]
    unfold cntV
    rw [if_neg (show ¬ (4 : Int32) = 6 by decide)]
    exact cnt_4 k hN
  · rw [show x = 5 from e]
    unfold countV mCount
    rw [if_neg (show ¬ (5 : Int32) = 0 by decide), if_neg (show ¬ (5 : Int32) = 1 by decide), if_neg (show ¬ (5 : Int32) = 2 by decide), if_neg (show ¬ (5 : Int32) = 3 by decide), if_neg (show ¬ (5 : Int32) = 4 by decide), if_pos (show (5 : Int32) = 5 from rfl), if_neg (show ¬ (5 : Int32) = 0 by decide), if_neg (show ¬ (5 : Int32) = 1 by decide), if_neg (show ¬ (5 : Int32) = 2 by decide), if_neg (show ¬ (5 : Int32) = 3 by decide), if_neg (show ¬ (7 : Int32) ≤ 5 by decide)]
    unfold cntV
    rw [if_neg (show ¬ (5 : Int32) = 6 by decide)]
    exact cnt_5 k hN
  · rw [show x = 6 from e]
    unfold countV mCount
    rw [if_neg (show ¬ (6 : Int32) = 0 by decide), if_neg (show ¬ (6 : Int32) = 1 by decide), if_neg (show ¬ (6 : Int32) = 2 by decide), if_neg (show ¬ (6 : Int32) = 3 by decide), if_neg (show ¬ (6 : Int32) = 4 by decide), if_neg (show ¬ (6 : Int32) = 5 by decide), if_pos (show (6 : Int32) = 6 from rfl), if_neg (show ¬ (6 : Int32) = 0 by decide), if_neg (show ¬ (6 : Int32) = 1 by decide), if_neg (show ¬ (6 : Int32) = 2 by decide), if_neg (show ¬ (6 : Int32) = 3 by decide), if_neg (show ¬ (7 : Int32) ≤ 6 by decide)]
    unfold cntV
    rw [if_pos (show (6 : Int32) = 6 from rfl)]
    exact cnt_6 k hN
  · rw [show x = 7 from e]
    unfold countV mCount
    rw [if_neg (show ¬ (7 : Int32) = 0 by decide), if_neg (show ¬ (7 : Int32) = 1 by decide), if_neg (show ¬ (7 : Int32) = 2 by decide), if_neg (show ¬ (7 : Int32) = 3 by decide), if_neg (show ¬ (7 : Int32) = 4 by decide), if_neg (show ¬ (7 : Int32) = 5 by decide), if_neg (show ¬ (7 : Int32) = 6 by decide), if_pos (show (7 : Int32) = 7 from rfl), if_neg (show ¬ (7 : Int32) = 0 by decide), if_neg (show ¬ (7 : Int32) = 1 by decide), if_neg (show ¬ (7 : Int32) = 2 by decide), if_neg (show ¬ (7 : Int32) = 3 by decide), if_pos (show (7 : Int32) ≤ 7 by decide), if_pos (show (7 : Int32) = 7 from rfl)]
    rw [n2, n3]
  · rw [show x = 8 from e]
    unfold countV mCount
    rw [if_neg (show ¬ (8 : Int32) = 0 by decide), if_neg (show ¬ (8 : Int32) = 1 by decide), if_neg (show ¬ (8 : Int32) = 2 by decide), if_neg (show ¬ (8 : Int32) = 3 by decide), if_neg (show ¬ (8 : Int32) = 4 by decide), if_neg (show ¬ (8 : Int32) = 5 by decide), if_neg (show ¬ (8 : Int32) = 6 by decide), if_neg (show ¬ (8 : Int32) = 7 by decide), if_pos (show (8 : Int32) = 8 from rfl), if_neg (show ¬ (8 : Int32) = 0 by decide), if_neg (show ¬ (8 : Int32) = 1 by decide), if_neg (show ¬ (8 : Int32) = 2 by decide), if_neg (show ¬ (8 : Int32) = 3 by decide), if_pos (show (7 : Int32) ≤ 8 by decide), if_neg (show ¬ (8 : Int32) = 7 by decide)]
    exact ht
