/-! ALL STATEMENTS: faults are faults, places are places -/
theorem au_q {T : Nat → Int32} {n L s : Nat} (Q : Prop) : AU T n L s (fun _ _ _ _ _ _ => Q) (fun _ => Q) := ⟨fun _ _ _ _ _ _ h => h, fun _ _ _ _ _ h => h, fun _ _ _ _ _ _ _ h => h, fun _ _ _ _ _ _ _ h => h, fun _ _ _ _ _ _ _ _ _ h => h, fun _ _ _ _ _ _ _ _ _ h => h, fun _ _ _ _ _ _ _ _ _ _ h => h, fun _ _ _ _ _ _ _ _ _ h => h, fun _ _ _ _ _ _ h => h, fun _ _ _ _ _ _ _ _ h => h⟩
theorem flA_ne {T : Nat → Int32} {n p k : Nat} (hn : n ≤ 1000) (hp : p ≤ n) (h1 : 1 ≤ k) (h5 : k ≤ 5) : flA T n (nI k) p ≠ 0 := flt_ne h1 h5 (Nat.le_trans (tBeg_le hp) hn)
theorem au_z {T : Nat → Int32} {n L s : Nat} (hn : n ≤ 1000) : AU T n L s (fun p _ _ _ _ _ => p ≤ n → False) (fun k => k ≠ 0 → False) := ⟨fun p _ _ _ _ _ h hp => h (flA_ne (k := 1) hn hp (by decide) (by decide)), fun p _ _ _ _ h hp => h (flA_ne (k := 5) hn hp (by decide) (by decide)), fun _ _ _ _ _ _ _ h hp => h (tEnd_le hp), fun _ _ _ _ _ _ _ h hp => h (tEnd_le hp), fun _ _ _ _ _ _ _ _ _ h hp => h (tEnd_le hp), fun _ _ _ _ _ _ _ _ _ h hp => h (tEnd_le hp), fun _ _ _ _ _ _ _ _ _ _ h hp => h (tEnd_le hp), fun _ _ _ _ _ _ _ _ _ h hp => h (tEnd_le hp), fun _ _ _ _ _ _ h hp => h (tEnd_le hp), fun p _ _ _ _ _ _ _ h hp => h (flA_ne (k := 1) hn hp (by decide) (by decide))⟩
theorem cChoice_ok {T : Nat → Int32} {n L s p : Nat} {X : Nat × (Nat → Int32)} (hn : n ≤ 1000) (hp : p ≤ n) {q : Nat ⊕ Int32} (hq : (cChoice T n (cPart T n L s 5) (.inl p, X)).1 = q) : okS n q := by
  cases q with
  | inl p0 =>
    refine okS_l (sim_law hn (au_q (T := T) (L := L) (s := s) (p0 ≤ n)) p (fun _ => 0) (fun _ => 0) [] X ⟨rfl, rfl⟩ hp (fun k e => ?_) (fun p2 op2 cm2 Y2 Z2 e h1 h2 h3 h4 h5 h6 => ?_))
    · rw [hq] at e; cases e
    · rw [e] at hq
      have hq : Sum.inl p2 = Sum.inl p0 := hq
      rw [← Sum.inl.inj hq]; exact h2
  | inr k =>
    refine okS_r (fun z => sim_law hn (au_z (T := T) (L := L) (s := s) hn) p (fun _ => 0) (fun _ => 0) [] X ⟨rfl, rfl⟩ hp (fun k2 e => ?_) (fun p2 op2 cm2 Y2 Z2 e h1 h2 h3 h4 h5 h6 => ?_) hp)
    · rw [hq] at e
      have e : k = k2 := Sum.inr.inj e
      rw [← e, z]
      exact fun y => y rfl
    · rw [e] at hq
      have hq : Sum.inl p2 = Sum.inr k := hq
      cases hq
theorem okS_expS {T : Nat → Int32} {n : Nat} (hn : n ≤ 1000) {q : Nat ⊕ Int32} (h : okS n q) (c : Int32) : okS n (expS T n c q) := by
  unfold expS
  split
  · exact okS_nxt h
  · exact okS_nxt (okS_wrg hn h (k := 1) (by decide) (by decide))
theorem okS_once {T : Nat → Int32} {n : Nat} (hn : n ≤ 1000) {q : Nat ⊕ Int32} (h : okS n q) (t : Int32) : okS n (onceS T n t q) := by
  unfold onceS
  split
  · exact okS_nxt h
  · exact okS_wrg hn h (k := 3) (by decide) (by decide)
theorem ite_fst {α β : Type} {c : Prop} [Decidable c] {a : α} {b e : β} : (if c then (a, b) else (a, e)).1 = a := by split <;> rfl
section DOk
variable {T : Nat → Int32} {n s : Nat} {F : Nat → Nat → Int32} {N : Nat → Int64}
theorem dField_ok (hn : n ≤ 1000) {q : Nat ⊕ Int32} (h : okS n q) : okS n (dField T n s (q, F, N)).1 := okS_num hn (okS_num hn (okS_once hn h _) _ _) _ _
theorem dCold_ok (hn : n ≤ 1000) {q : Nat ⊕ Int32} (h : okS n q) : okS n (dCold T n s (q, F, N)).1 := okS_num hn (okS_once hn h _) _ _
theorem dTurn_ok (hn : n ≤ 1000) {q : Nat ⊕ Int32} (h : okS n q) : okS n (dTurn T n s (q, F, N)).1 := okS_num hn (okS_once hn h _) _ _
theorem dLaw_ok {L k p : Nat} (hn : n ≤ 1000) (hp : p ≤ n) : okS n (dLaw T n s L k (.inl p, F, N)).1 := by
  rw [dl1]
  by_cases h : F 3 k = 0
  · rw [onceS_0 h]
    exact cChoice_ok hn (tEnd_le hp) rfl
  · rw [onceS_1 h, cChoice_r]
    exact okS_r (flA_ne (k := 3) hn hp (by decide) (by decide))
theorem dHouse_1 {D : rDt} : (dHouse T n s D).1 = hQe T n s D := by
  unfold dHouse
  exact ite_fst
theorem dStmt_ok {p : Nat} (hn : n ≤ 1000) (hp : p ≤ n) : okS n (dStmt T n s (.inl p, F, N)).1 := by
  refine okS_expS hn ?_ 59
  unfold dStm
  have h0 : okS n (.inl p) := okS_l hp
  split
  · exact dField_ok hn h0
  split
  · exact dLaw_ok hn hp
  split
  · exact dLaw_ok hn hp
  split
  · exact dCold_ok hn h0
  split
  · exact dTurn_ok hn h0
  split
  · rw [dHouse_1]; exact okS_Qe hn h0
  · exact okS_wrg hn h0 (k := 1) (by decide) (by decide)
end DOk

