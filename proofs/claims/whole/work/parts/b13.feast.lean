/-! THE SAME ANSWERS: feast, what a set of houses gives -/
/-- in the set g, a meets b -/
def gE (m : Nat → Int32) (g : Int32) (a b : Nat) : Nat := if (tb g a && (tb g b && tb (m a) b)) = true then 1 else 0
def gD (m : Nat → Int32) (g : Int32) (a : Nat) : Nat := fb_sm (gE m g a) 8
def gV (m : Nat → Int32) (g : Int32) (n : Nat) : Prop := ∀ a, a < n → gD m g a ≤ 1
theorem gD_in {m : Nat → Int32} {g : Int32} {a : Nat} (h : symM m) (ha : a < 8) (t : tb g a = true) : bitc (m a &&& g) = nI (gD m g a) := by
  rw [bitc_8 (set8_and (h.1 a ha) g), ct_sm]
  congr 1
  refine fb_sm_cong (fun b _ => ?_)
  unfold gE
  rw [tb_and, t, Bool.true_and, Bool.and_comm]
theorem gD_out {m : Nat → Int32} {g : Int32} {a : Nat} (t : tb g a = false) : gD m g a = 0 := by
  have e : gD m g a = fb_sm (fun _ => 0) 8 := fb_sm_cong (fun b _ => by
    unfold gE
    rw [t, Bool.false_and]
    rfl)
  rw [e, fb_sm_const]
theorem gD_le (m : Nat → Int32) (g : Int32) (a : Nat) : gD m g a ≤ 8 := by
  have := fb_sm_bound (f := gE m g a) (c := 1) (n := 8) (fun b _ => by unfold gE; split <;> omega)
  unfold gD
  omega
theorem pnG_e {m : Nat → Int32} (h : symM m) (g : Int32) : ∀ k, k ≤ 8 → (gV m g k → pnG m g k = some (nI (fb_sm (gD m g) k))) ∧ (¬ gV m g k → pnG m g k = none) := by
  intro k
  induction k with
  | zero => intro _; exact ⟨fun _ => rfl, fun z => absurd (fun a ha => absurd ha (Nat.not_lt_zero a)) z⟩
  | succ k ih =>
    intro hk
    obtain ⟨i1, i2⟩ := ih (by omega)
    by_cases v : gV m g k
    · have e : pnG m g (k + 1) = if (g >>> (nI k &&& 31)) &&& 1 = 0 then some (nI (fb_sm (gD m g) k)) else if bitc (m k &&& g) ≤ 1 then some (nI (fb_sm (gD m g) k) + bitc (m k &&& g)) else none := by
        show (match pnG m g k with | none => none | some e => _) = _
        rw [i1 v]
      rw [e]
      cases t : tb g k with
      | false =>
        rw [if_pos ((sh_0 (by omega) g).mpr t), fb_sm_succ, gD_out t, Nat.add_zero]
        refine ⟨fun _ => rfl, fun z => absurd (fun a ha => ?_) z⟩
        by_cases q : a = k
        · rw [q, gD_out t]; omega
        · exact v a (by omega)
      | true =>
        rw [if_neg (fun y => by rw [(sh_0 (by omega) g).mp y] at t; cases t), gD_in h (by omega) t, fb_sm_succ]
        have d8 := gD_le m g k
        by_cases d : gD m g k ≤ 1
        · rw [if_pos (show nI (gD m g k) ≤ 1 from show nI (gD m g k) ≤ nI 1 from nI_le d (by decide)), nI_add]
          refine ⟨fun _ => rfl, fun z => absurd (fun a ha => ?_) z⟩
          by_cases q : a = k
          · rw [q]; exact d
          · exact v a (by omega)
        · rw [if_neg (Int32.not_le.mpr (show 1 < nI (gD m g k) from show nI 1 < nI (gD m g k) from nI_lt (by omega) (by omega)))]
          exact ⟨fun z => absurd (z k (by omega)) d, fun _ => rfl⟩
    · have e : pnG m g (k + 1) = none := pnG_n (i2 v) 1
      rw [e]
      exact ⟨fun z => absurd (fun a ha => z a (by omega)) v, fun _ => rfl⟩
theorem gE_up {m : Nat → Int32} (h : symM m) (g : Int32) : fb_sm (gD m g) 8 = 2 * upS (gE m g) 8 := by
  refine two_up (fun a b ha hb => ?_) (fun a ha => ?_)
  · have e : tb (m a) b = tb (m b) a := by
      cases x : tb (m a) b with
      | true => exact (h.2.1 a b ha hb x).symm
      | false =>
        cases y : tb (m b) a with
        | false => rfl
        | true => rw [h.2.1 b a hb ha y] at x; cases x
    unfold gE
    rw [e]
    cases tb g a <;> cases tb g b <;> rfl
  · unfold gE
    rw [h.2.2 a ha, Bool.and_false, Bool.and_false]
    rfl
theorem pnV_e {m : Nat → Int32} (h : symM m) (g : Int32) : (gV m g 8 → pnV m g = nI (upS (gE m g) 8)) ∧ (¬ gV m g 8 → pnV m g = -1) := by
  obtain ⟨i1, i2⟩ := pnG_e h g 8 (Nat.le_refl _)
  have b : fb_sm (gD m g) 8 ≤ 8 * 8 := fb_sm_bound (fun a _ => gD_le m g a)
  have u := gE_up h g
  refine ⟨fun v => ?_, fun v => ?_⟩
  · unfold pnV
    rw [i1 v]
    show nI (fb_sm (gD m g) 8) / 2 = _
    rw [show (2 : Int32) = nI 2 from rfl, pk_div (by omega) (by decide) (by decide)]
    congr 1
    omega
  · unfold pnV
    rw [i2 v]
theorem fsN_e {m m2 : Nat → Int32} {g : Int32} : ∀ n, n ≤ 8 → (∀ a, a < n → set8 (m2 a) ∧ ∀ b, b < 8 → tb (m2 a) b = (tb g a && (tb g b && tb (m a) b))) → (fsN m2 n).1 = nI (fb_sm (gD m g) n) ∧ (gV m g n → (fsN m2 n).2 = 1) ∧ (¬ gV m g n → (fsN m2 n).2 = 0) := by
  intro n
  induction n with
  | zero => intro _ _; exact ⟨rfl, fun _ => rfl, fun z => absurd (fun a ha => absurd ha (Nat.not_lt_zero a)) z⟩
  | succ n ih =>
    intro hn e
    obtain ⟨i1, i2, i3⟩ := ih (by omega) (fun a ha => e a (by omega))
    obtain ⟨e8, eb⟩ := e n (by omega)
    have d8 := gD_le m g n
    have bt : bts (m2 n) = nI (gD m g n) := by
      unfold bts
      rw [bits_8 e8, ct_sm]
      congr 1
      refine fb_sm_cong (fun b hb => ?_)
      unfold gE
      rw [eb b hb]
    have s1 : (fsN m2 (n + 1)).1 = (fsN m2 n).1 + bts (m2 n) := rfl
    have s2 : (fsN m2 (n + 1)).2 = if (fsN m2 n).2 = 0 then 0 else if 2 ≤ bts (m2 n) then 0 else 1 := rfl
    rw [s1, s2, i1, bt, nI_add, fb_sm_succ]
    refine ⟨rfl, fun v => ?_, fun v => ?_⟩
    · rw [i2 (fun a ha => v a (by omega)), if_neg (by decide), if_neg (Int32.not_le.mpr (show nI (gD m g n) < 2 from show nI (gD m g n) < nI 2 from nI_lt (by have := v n (by omega); omega) (by decide)))]
    · by_cases z : gV m g n
      · rw [i2 z, if_neg (by decide)]
        have : ¬ gD m g n ≤ 1 := fun y => v (fun a ha => by
          by_cases q : a = n
          · rw [q]; exact y
          · exact z a (by omega))
        rw [if_pos (show 2 ≤ nI (gD m g n) from show nI 2 ≤ nI (gD m g n) from nI_le (by omega) (by omega))]
      · rw [i3 z, if_pos rfl]
/-- at least as many houses as are met -/
theorem gD_ct {m : Nat → Int32} {g : Int32} (v : gV m g 8) : fb_sm (gD m g) 8 ≤ fb_ct (tb g) 8 := by
  rw [ct_sm]
  refine fb_sm_le (fun a ha => ?_)
  cases t : tb g a with
  | false => rw [gD_out t]; exact Nat.zero_le _
  | true => exact v a ha
/-- one who meets nobody -/
theorem gD_lone {m : Nat → Int32} {g : Int32} (v : gV m g 8) (h : fb_sm (gD m g) 8 < fb_ct (tb g) 8) : ∃ a, a < 8 ∧ tb g a = true ∧ gD m g a = 0 := by
  apply Decidable.byContradiction
  intro z
  have : fb_ct (tb g) 8 ≤ fb_sm (gD m g) 8 := by
    rw [ct_sm]
    refine fb_sm_le (fun a ha => ?_)
    cases t : tb g a with
    | false => exact Nat.zero_le _
    | true =>
      show 1 ≤ _
      exact Nat.pos_of_ne_zero (fun y => z ⟨a, ha, t, y⟩)
  omega
/-- without it the set gives the same -/
theorem gE_lone {m : Nat → Int32} {g g2 : Int32} (h : symM m) {a : Nat} (ha : a < 8) (d : gD m g a = 0) (e : ∀ i, i < 8 → tb g2 i = (tb g i && !decide (i = a))) : ∀ x y, x < 8 → y < 8 → gE m g2 x y = gE m g x y := fun x y hx hy => by
  have z := fb_sm_zero d
  have za : ∀ y, y < 8 → (tb g a && (tb g y && tb (m a) y)) = false := fun y hy => by
    have := z y hy
    unfold gE at this
    cases q : (tb g a && (tb g y && tb (m a) y)) with
    | false => rfl
    | true => rw [if_pos q] at this; cases this
  have zb : ∀ x, x < 8 → (tb g x && (tb g a && tb (m x) a)) = false := fun x hx => by
    have := za x hx
    cases q : tb (m x) a with
    | false => rw [Bool.and_false, Bool.and_false]
    | true =>
      rw [h.2.1 x a hx ha q] at this
      rw [Bool.and_true] at this ⊢
      rw [Bool.and_comm]; exact this
  unfold gE
  rw [e x hx, e y hy]
  by_cases p : x = a
  · rw [p, decide_eq_true (show a = a from rfl), za y hy]
    show (if (tb g a && false && _) = true then 1 else 0) = _
    rw [Bool.and_false, Bool.false_and]
  by_cases q : y = a
  · rw [q, decide_eq_true (show a = a from rfl), zb x hx]
    show (if (_ && (tb g a && false && _)) = true then 1 else 0) = _
    rw [Bool.and_false, Bool.false_and, Bool.and_false]
  · rw [decide_eq_false p, decide_eq_false q]
    show (if (tb g x && true && (tb g y && true && _)) = true then 1 else 0) = _
    rw [Bool.and_true, Bool.and_true]
