/-! A WIND'S LAW ASKS NEITHER HOW HIGH NOR WHICH WAY -/
def nzS (x : Int32) : Prop := x ≠ -3 ∧ x ≠ -4
def nzX (X : Nat × (Nat → Int32)) : Prop := X.1 ≤ 1000 ∧ ∀ i, i < X.1 → nzS (X.2 i)
theorem nzX_a {X : Nat × (Nat → Int32)} {x : Int32} (h : nzX X) (hx : nzS x) : nzX (adS x X) := by
  unfold adS
  split
  · next hlt =>
    refine ⟨by show X.1 + 1 ≤ 1000; omega, fun i hi => ?_⟩
    have hi : i < X.1 + 1 := hi
    show nzS (if i = X.1 then x else X.2 i)
    by_cases e : i = X.1
    · rw [if_pos e]; exact hx
    · rw [if_neg e]; exact h.2 i (by omega)
  · exact h
theorem nz_whl {b : rQt → Bool} {f : rQt → rQt} (hf : ∀ q, nzX q.2 → nzX (f q).2) : ∀ (m : Nat) (q : rQt), nzX q.2 → nzX (whl b f m q).2
  | 0, _, h => h
  | m + 1, q, h => by
    show nzX (if b q = true then whl b f m (f q) else q).2
    split
    · exact nz_whl hf m (f q) (hf q h)
    · exact h
section NzR
variable {T : Nat → Int32} {n L s : Nat} {pt : rQt → rQt}
theorem nz_prod (hp : ∀ q, nzX q.2 → nzX (pt q).2) (q : rQt) (h : nzX q.2) : nzX (cProd T n pt q).2 := by
  unfold cProd
  exact nz_whl (fun q hq => nzX_a (X := (pt (qN T n q)).2) (hp (qN T n q) hq) (by unfold nzS; decide)) 1000 _ (hp q h)
theorem nz_sum (hp : ∀ q, nzX q.2 → nzX (pt q).2) (q : rQt) (h : nzX q.2) : nzX (cSum T n pt q).2 := by
  unfold cSum
  exact nz_whl (fun q hq => nzX_a (X := (cProd T n pt (qN T n q)).2) (nz_prod hp (qN T n q) hq) (by unfold nzS; split <;> decide)) 1000 _ (nz_prod hp q h)
theorem nz_ite {c : Prop} [Decidable c] {a b : rQt} (h1 : nzX a.2) (h2 : nzX b.2) : nzX (if c then a else b).2 := by
  split
  · exact h1
  · exact h2
theorem nz_test (hp : ∀ q, nzX q.2 → nzX (pt q).2) (q : rQt) (h : nzX q.2) : nzX (cTest T n pt q).2 := by
  unfold cTest
  exact nz_ite (nzX_a (nz_sum hp (qN T n (cSum T n pt q)) (nz_sum hp q h)) (by unfold nzS; split <;> decide)) (nz_sum hp q h)
theorem nz_choice (hp : ∀ q, nzX q.2 → nzX (pt q).2) (q : rQt) (h : nzX q.2) : nzX (cChoice T n pt q).2 := by
  unfold cChoice
  exact nz_whl (fun q hq => nzX_a (X := (cTest T n pt (qN T n q)).2) (nz_test hp (qN T n q) hq) (by unfold nzS; split <;> decide)) 1000 _ (nz_test hp q h)
theorem nz_leaf (hL : ¬ L = s + 9) (q : Nat ⊕ Int32) : nzS (if tkc T n q = 2 then tkn T n q else fctS T n L s q) := by
  by_cases h2 : tkc T n q = 2
  · rw [if_pos h2]
    cases q with
    | inl p =>
      obtain ⟨v, hv, e⟩ := tkn_n (T := T) (n := n) (p := p) h2
      rw [show tkn T n (.inl p) = nI v from e]
      have h0 : ¬ nI v < 0 := nI_pos (by omega)
      exact ⟨fun z => h0 (by rw [z]; decide), fun z => h0 (by rw [z]; decide)⟩
    | inr k => exact absurd h2 (by show ¬ (1 : Int32) = 2; decide)
  · rw [if_neg h2]
    unfold fctS fctO nzS
    by_cases h3 : tkw T n q = some 1000016
    · rw [if_pos h3]; decide
    rw [if_neg h3]
    by_cases h4 : tkw T n q = some 1000017
    · rw [if_pos h4]; decide
    rw [if_neg h4, if_neg hL]; decide
theorem nz_part (hL : ¬ L = s + 9) : ∀ (m : Nat) (q : rQt), nzX q.2 → nzX (cPart T n L s m q).2
  | 0, q, h => by
    show nzX (if isOp T n L s q = true then qW T n 5 q else qW T n 1 q).2
    exact nz_ite h h
  | m + 1, q, h => by
    show nzX (if isOp T n L s q = true then (if tkc T n q.1 = 40 then (expS T n 41 (cChoice T n (cPart T n L s m) (qN T n q)).1, (cChoice T n (cPart T n L s m) (qN T n q)).2) else if tkw T n q.1 = some 1000013 then qA (-5) (cPart T n L s m (qN T n q)) else qN T n (qA (if tkc T n q.1 = 2 then tkn T n q.1 else fctS T n L s q.1) q)) else qW T n 1 q).2
    refine nz_ite (nz_ite ?_ (nz_ite ?_ ?_)) h
    · exact nz_choice (nz_part hL m) (qN T n q) h
    · exact nzX_a (nz_part hL m (qN T n q) h) (by unfold nzS; decide)
    · exact nzX_a (X := q.2) h (nz_leaf hL q.1)
theorem nz_law (hL : ¬ L = s + 9) (q : Nat ⊕ Int32) (g : Nat → Int32) : nzX (cChoice T n (cPart T n L s 5) (q, (0, g))).2 := nz_choice (nz_part hL 5) _ ⟨Nat.zero_le _, fun i hi => absurd hi (Nat.not_lt_zero i)⟩
end NzR
theorem lstep_nz {x y z y2 z2 s : Int32} (h : nzS s) (q : Nat × (Nat → Int32)) : lstep x y z s q = lstep x y2 z2 s q := by
  unfold lstep
  by_cases h4 : s < -4
  · rw [if_pos h4, if_pos h4]
  · rw [if_neg h4, if_neg h4]
    by_cases h0 : s < 0
    · have e : lfact s x y z = lfact s x y2 z2 := by
        unfold lfact
        by_cases h1 : s = -1
        · rw [if_pos h1, if_pos h1]
        rw [if_neg h1, if_neg h1]
        by_cases h2 : s = -2
        · rw [if_pos h2, if_pos h2]
        exfalso
        have b1 : -4 ≤ s := Int32.not_lt.mp h4
        have c1 : (-4 : Int32).toInt ≤ s.toInt := Int32.le_iff_toInt_le.mp b1
        have c2 : s.toInt < (0 : Int32).toInt := Int32.lt_iff_toInt_lt.mp h0
        have d1 : (-4 : Int32).toInt = -4 := by decide
        have d2 : (0 : Int32).toInt = 0 := by decide
        rw [d1] at c1
        rw [d2] at c2
        have n1 : s.toInt ≠ -1 := fun e => h1 (Int32.toInt_inj.mp (by rw [e]; decide))
        have n2 : s.toInt ≠ -2 := fun e => h2 (Int32.toInt_inj.mp (by rw [e]; decide))
        have n3 : s.toInt ≠ -3 := fun e => h.1 (Int32.toInt_inj.mp (by rw [e]; decide))
        have n4 : s.toInt ≠ -4 := fun e => h.2 (Int32.toInt_inj.mp (by rw [e]; decide))
        omega
      rw [e]
    · rw [if_neg h0, if_neg h0]
theorem lrun_nz {x y z y2 z2 : Int32} {f : Nat → Int32} {q : Nat × (Nat → Int32)} : ∀ n, (∀ i, i < n → nzS (f i)) → lrun x y z f q n = lrun x y2 z2 f q n
  | 0, _ => rfl
  | n + 1, h => by
    show lstep x y z (f n) (lrun x y z f q n) = lstep x y2 z2 (f n) (lrun x y2 z2 f q n)
    rw [lrun_nz n (fun i hi => h i (by omega)), lstep_nz (y2 := y2) (z2 := z2) (h n (by omega))]
/-- the steps of a street's wind -/
def nzW (f : Nat → Nat → Int32) (s : Nat) : Prop := ∀ m : Nat, m ≤ 1000 → f (s + 6) 2 = nI m → ∀ i, i < m → nzS (f (s + 7) i)
theorem zLaw_nz {f : Nat → Nat → Int32} {s : Nat} {F : Int32 → Int32 → Int32 → Int32} (h : zLaw f (s + 6) F) (k : nzW f s) (x y z : Int32) : F x y z = F x 0 0 := by
  obtain ⟨m, h1, h2, h3⟩ := h
  rw [← h3 x y z (fun _ => 0), ← h3 x 0 0 (fun _ => 0), lrun_nz (y2 := 0) (z2 := 0) m (k m h1 h2)]
theorem nzW_c {f g : Nat → Nat → Int32} {s : Nat} (h : nzW f s) (e1 : g (s + 6) 2 = f (s + 6) 2) (e2 : g (s + 7) = f (s + 7)) : nzW g s := fun m hm e i hi => by rw [e2]; exact h m hm (e1.symm.trans e) i hi
theorem adL_le (Z : List Int32) : ∀ (X : Nat × (Nat → Int32)), X.1 ≤ 1000 → (adL Z X).1 ≤ 1000 := by
  induction Z with
  | nil => exact fun X h => h
  | cons c Z ih =>
    intro X h
    refine ih (adS c X) ?_
    unfold adS
    split
    · show X.1 + 1 ≤ 1000; omega
    · exact h
