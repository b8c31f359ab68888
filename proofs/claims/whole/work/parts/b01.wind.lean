/-! THE DRAFT'S WIND -/
theorem ite_21 {c : Prop} [Decidable c] {a b : rDt} : (if c then a else b).2.1 = a.2.1 ∨ (if c then a else b).2.1 = b.2.1 := by
  split
  · exact Or.inl rfl
  · exact Or.inr rfl
section NzD
variable {T : Nat → Int32} {n s : Nat} {D : rDt}
theorem nzW_2 {f : Nat → Nat → Int32} (h : nzW f s) {o k : Nat} (x : Int32) (ho : o ≠ s + 6 ∧ o ≠ s + 7) : nzW (z2 f o k x) s := nzW_c h (z2_nt f x (Or.inl (by omega))) (z2_ro f k x (by omega))
theorem nzW_field (hs : 3 < s) (h : nzW D.2.1 s) : nzW (dField T n s D).2.1 s := by
  rw [df2 rfl]
  exact nzW_2 (nzW_2 (nzW_2 h _ (by omega)) _ (by omega)) _ (by omega)
theorem nzW_cold (hs : 3 < s) (h : nzW D.2.1 s) : nzW (dCold T n s D).2.1 s := by
  rw [dc2 rfl]
  exact nzW_2 (nzW_2 h _ (by omega)) _ (by omega)
theorem nzW_turn (hs : 3 < s) (h : nzW D.2.1 s) : nzW (dTurn T n s D).2.1 s := by
  rw [dt2 rfl]
  exact nzW_2 (nzW_2 h _ (by omega)) _ (by omega)
theorem nzW_r {f : Nat → Nat → Int32} {X : Nat × (Nat → Int32)} (hX : nzX X) : nzW (zr (z2 f (s + 6) 2 (nI X.1)) (s + 6 + 1) X.2) s := by
  intro m hm e i hi
  have e1 : zr (z2 f (s + 6) 2 (nI X.1)) (s + 6 + 1) X.2 (s + 6) 2 = nI X.1 := by
    show (if s + 6 = s + 6 + 1 then X.2 else z2 f (s + 6) 2 (nI X.1) (s + 6)) 2 = _
    rw [if_neg (by omega), z2_at]
  have e2 : X.1 = m := (nI_eq (by have := hX.1; omega) (by omega)).mp (e1.symm.trans e)
  show nzS ((if s + 7 = s + 6 + 1 then X.2 else _) i)
  rw [if_pos rfl]
  exact hX.2 i (by omega)
theorem nzW_law6 (h : nzW D.2.1 s) : nzW (dLaw T n s (s + 6) 11 D).2.1 s := by
  rw [dlg2 rfl]
  exact nzW_r (nz_law (by omega) _ _)
theorem nzW_law9 (hs : 3 < s) (h : nzW D.2.1 s) : nzW (dLaw T n s (s + 9) 12 D).2.1 s := by
  rw [dlg2 rfl]
  generalize (cChoice T n (cPart T n (s + 9) s 5) (onceS T n (D.2.1 3 12) D.1, (0, z2 D.2.1 3 12 1 (s + 9 + 1)))).2 = X
  refine nzW_c (nzW_2 (nzW_2 h (o := 3) (k := 12) 1 (by omega)) (o := s + 9) (k := 2) (nI X.1) (by omega)) ?_ ?_
  · show (if s + 6 = s + 9 + 1 then X.2 else _) 2 = _
    rw [if_neg (by omega)]
  · show (if s + 7 = s + 9 + 1 then X.2 else _) = _
    rw [if_neg (by omega)]
theorem nzW_house (hs : 3 < s) (h : nzW D.2.1 s) : nzW (dHouse T n s D).2.1 s := by
  have e : (dHouse T n s D).2.1 = hF5 T n s D ∨ (dHouse T n s D).2.1 = D.2.1 := by
    unfold dHouse
    exact ite_21
  rcases e with e | e
  · rw [e]
    unfold hF5
    exact nzW_2 (nzW_2 (nzW_2 (nzW_2 (nzW_2 h _ (by omega)) _ (by omega)) _ (by omega)) _ (by omega)) _ (by omega)
  · rw [e]; exact h
theorem nzW_stm (hs : 3 < s) (h : nzW D.2.1 s) : nzW (dStmt T n s D).2.1 s := by
  by_cases h0 : tkw T n D.1 = some 1000000
  · rw [(dS_e (dS_0 (s := s) h0)).2.1]; exact nzW_field hs h
  by_cases h1 : tkw T n D.1 = some 1000001
  · rw [(dS_e (dS_1 (s := s) h0 h1)).2.1]; exact nzW_law6 h
  by_cases h2 : tkw T n D.1 = some 1000002
  · rw [(dS_e (dS_2 (s := s) h0 h1 h2)).2.1]; exact nzW_law9 hs h
  by_cases h3 : tkw T n D.1 = some 1000003
  · rw [(dS_e (dS_3 (s := s) h0 h1 h2 h3)).2.1]; exact nzW_cold hs h
  by_cases h4 : tkw T n D.1 = some 1000004
  · rw [(dS_e (dS_4 (s := s) h0 h1 h2 h3 h4)).2.1]; exact nzW_turn hs h
  by_cases h5 : tkw T n D.1 = some 1000005
  · rw [(dS_e (dS_5 (s := s) h0 h1 h2 h3 h4 h5)).2.1]; exact nzW_house hs h
  rw [(dS_e (dS_6 (s := s) h0 h1 h2 h3 h4 h5)).2.1]
  exact h
end NzD
theorem nzW_all {T : Nat → Int32} {n s : Nat} (hs : 3 < s) : ∀ (m : Nat) {D : rDt}, nzW D.2.1 s → nzW (dAll T n s m D).2.1 s
  | 0, _, h => h
  | m + 1, D, h => by
    have e : dAll T n s (m + 1) D = D ∨ dAll T n s (m + 1) D = dAll T n s m (dStmt T n s D) := by
      show (if fltS D.1 = 0 then (if tkc T n D.1 = 0 then D else dAll T n s m (dStmt T n s D)) else D) = D ∨ (if fltS D.1 = 0 then (if tkc T n D.1 = 0 then D else dAll T n s m (dStmt T n s D)) else D) = dAll T n s m (dStmt T n s D)
      by_cases a : fltS D.1 = 0
      · rw [if_pos a]
        by_cases b : tkc T n D.1 = 0
        · rw [if_pos b]; exact Or.inl rfl
        · rw [if_neg b]; exact Or.inr rfl
      · rw [if_neg a]; exact Or.inl rfl
    rcases e with e | e
    · rw [e]; exact h
    · rw [e]; exact nzW_all hs m (nzW_stm hs h)
