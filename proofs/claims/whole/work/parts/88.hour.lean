/-! AN HOUR OF THE OBJECT, place by place -/
def agI (x : Int32) (h z o : Nat) : Bool := decide (z / 8 = h ∧ h < z % 8 ∧ z % 8 < o) && hasB x (z % 8)
theorem agI_s (x : Int32) (h z o : Nat) (ho : o < 8) (hh : h < 8) : agI x h z (o + 1) = (agI x h z o || (decide (z = 8 * h + o ∧ h < o) && hasB x o)) := by
  unfold agI
  by_cases e : z = 8 * h + o
  · have e1 : z / 8 = h := by omega
    have e2 : z % 8 = o := by omega
    rw [e1, e2, show decide (z = 8 * h + o ∧ h < o) = decide (h < o) from by simp [e]]
    simp
  · have e3 : (z / 8 = h ∧ h < z % 8 ∧ z % 8 < o + 1) ↔ (z / 8 = h ∧ h < z % 8 ∧ z % 8 < o) := by omega
    simp [e, e3]
theorem ageA_e (x : Int32) {h : Nat} (hh : h < 8) (q : (Nat → Int32) × (Nat → Int32)) (z : Nat) : ∀ o, o ≤ 8 → (ageA x h q o).1 z = q.1 z + (if agI x h z o = true then 1 else 0) ∧ (ageA x h q o).2 z = q.2 z + (if agI x h z o = true ∧ (q.1 z + 1) - (q.1 z + 1) / 3 * 3 = 0 then 1 else 0)
  | 0, _ => by
    have : agI x h z 0 = false := by unfold agI; simp
    rw [this]
    simp
    exact ⟨rfl, rfl⟩
  | o + 1, ho => by
    obtain ⟨i1, i2⟩ := ageA_e x hh q z o (by omega)
    have es := agI_s x h z o (by omega) hh
    show (if h < o then ageS x h o (ageA x h q o) else ageA x h q o).1 z = _ ∧ (if h < o then ageS x h o (ageA x h q o) else ageA x h q o).2 z = _
    by_cases hlt : h < o
    · rw [if_pos hlt]
      unfold ageS
      by_cases hb : hasB x o = true
      · rw [if_pos hb]
        by_cases e : z = 8 * h + o
        · have n0 : agI x h z o = false := by
            unfold agI
            have : ¬ (z / 8 = h ∧ h < z % 8 ∧ z % 8 < o) := by omega
            simp [this]
          have n1 : agI x h z (o + 1) = true := by rw [es, n0]; simp [e, hlt, hb]
          rw [n0] at i1 i2
          simp at i1 i2
          rw [n1]
          have u1 : (ageA x h q o).1 (8 * h + o) = q.1 z := by rw [← e]; exact i1
          have u2 : (ageA x h q o).2 (8 * h + o) = q.2 z := by rw [← e]; exact i2
          constructor
          · show upd _ (8 * h + o) _ z = _
            unfold upd
            rw [if_pos e, u1]
            simp
          · rw [u1]
            by_cases h3 : (q.1 z + 1) - (q.1 z + 1) / 3 * 3 = 0
            · rw [if_pos h3]
              show upd _ (8 * h + o) _ z = _
              unfold upd
              rw [if_pos e, u2]
              simp [h3]
            · rw [if_neg h3, i2]
              simp [h3]
        · have n1 : agI x h z (o + 1) = agI x h z o := by rw [es]; simp [e]
          rw [n1]
          constructor
          · show upd _ (8 * h + o) _ z = _
            unfold upd
            rw [if_neg e]; exact i1
          · split
            · show upd _ (8 * h + o) _ z = _
              unfold upd
              rw [if_neg e]; exact i2
            · exact i2
      · rw [if_neg hb]
        have n1 : agI x h z (o + 1) = agI x h z o := by rw [es]; simp [hb]
        rw [n1]; exact ⟨i1, i2⟩
    · rw [if_neg hlt]
      have n1 : agI x h z (o + 1) = agI x h z o := by rw [es]; simp [hlt]
      rw [n1]; exact ⟨i1, i2⟩
def agN (W : Nat → Int32) (i z : Nat) : Bool := decide (z / 8 < i ∧ z / 8 < z % 8) && hasB (W (z / 8)) (z % 8)
theorem agN_s (W : Nat → Int32) (i z : Nat) : agN W (i + 1) z = (agN W i z || agI (W i) i z 8) := by
  unfold agN agI
  have h8 : z % 8 < 8 := Nat.mod_lt _ (by decide)
  by_cases e : z / 8 = i
  · have e1 : z / 8 < i + 1 := by omega
    have e2 : ¬ z / 8 < i := by omega
    simp [e, h8]
  · have e1 : (z / 8 < i + 1) ↔ z / 8 < i := by omega
    simp [e, e1]
theorem agN_x (W : Nat → Int32) (i z : Nat) : agI (W i) i z 8 = true → agN W i z = false := by
  unfold agI agN
  intro h
  simp only [Bool.and_eq_true, decide_eq_true_eq] at h
  have : ¬ (z / 8 < i ∧ z / 8 < z % 8) := by omega
  simp [this]
theorem ch_sum {n2 p2 p3 : Int32} {i j : Bool} (e2 : n2 = p2 + (if i = true then 1 else 0)) (hx : j = true → i = false) : (p3 + (if i = true ∧ (p2 + 1) - (p2 + 1) / 3 * 3 = 0 then 1 else 0)) + (if j = true ∧ (n2 + 1) - (n2 + 1) / 3 * 3 = 0 then 1 else 0) = p3 + (if (i || j) = true ∧ (p2 + 1) - (p2 + 1) / 3 * 3 = 0 then 1 else 0) := by
  cases j with
  | false =>
    have a1 : ¬ (false = true ∧ (n2 + 1) - (n2 + 1) / 3 * 3 = 0) := fun q => by cases q.1
    rw [if_neg a1, Int32.add_zero, Bool.or_false]
  | true =>
    obtain rfl := hx rfl
    have a1 : ¬ (false = true ∧ (p2 + 1) - (p2 + 1) / 3 * 3 = 0) := fun q => by cases q.1
    rw [if_neg (by decide), Int32.add_zero] at e2
    subst e2
    rw [if_neg a1, Int32.add_zero]
    rfl
section N88
variable {P0 : Nat → Nat → Int32} {l s a H : Nat}
theorem pN_o (hd : (s + 12 ≤ l ∨ l + 9 ≤ s) ∧ (s + 12 ≤ a ∨ a + 5 ≤ s) ∧ (l + 9 ≤ a ∨ a + 5 ≤ l)) {o : Nat} (ho : o < l + 2 ∨ l + 5 < o) : ∀ i, passN P0 l s a i o = P0 o
  | 0 => rfl
  | i + 1 => by
    show passC (passB (passA (passN P0 l s a i) l i) l a i) l s i o = _
    have e1 : passC (passB (passA (passN P0 l s a i) l i) l a i) l s i o = passB (passA (passN P0 l s a i) l i) l a i o := z2_off _ _ _ (by omega)
    rw [e1, passB_o _ _ _ _ (by omega), passA_o _ _ _ (by omega) (by omega)]
    exact pN_o hd ho i
set_option maxRecDepth 100000 in
set_option maxHeartbeats 400000 in
theorem pN_e (hd : (s + 12 ≤ l ∨ l + 9 ≤ s) ∧ (s + 12 ≤ a ∨ a + 5 ≤ s) ∧ (l + 9 ≤ a ∨ a + 5 ≤ l)) {cv : Nat → Nat → Bool} (hcv : ∀ h p, cv h p = true → p < 144) (hb : ∀ h, h < H → ∀ (g : Nat → Int32) (z : Nat), blkN g (P0 (a + 3)) h (P0 (a + 2) h).toNatClampNeg z = g z + (if 144 * h ≤ z ∧ cv h (z - 144 * h) = true then 1 else 0)) (hH : H ≤ 8) : ∀ i, i ≤ H → ∀ z, passN P0 l s a i (l + 2) z = P0 (l + 2) z + (if agN (P0 (l + 1)) i z = true then 1 else 0) ∧ passN P0 l s a i (l + 3) z = P0 (l + 3) z + (if agN (P0 (l + 1)) i z = true ∧ (P0 (l + 2) z + 1) - (P0 (l + 2) z + 1) / 3 * 3 = 0 then 1 else 0) ∧ passN P0 l s a i (l + 4) z = P0 (l + 4) z + (if z < i then (if hasB (P0 l 10 &&& (P0 l 11 ^^^ -1)) z = true then priceV (P0 (s + 4) z) else P0 s 9) else 0) ∧ passN P0 l s a i (l + 5) z = P0 (l + 5) z + (if z / 144 < i ∧ cv (z / 144) (z % 144) = true then 1 else 0)
  | 0, _, z => by
    have : agN (P0 (l + 1)) 0 z = false := by unfold agN; simp
    refine ⟨?_, ?_, ?_, ?_⟩
    · rw [this]; show P0 (l + 2) z = _; simp
    · rw [this]; show P0 (l + 3) z = _; simp
    · show P0 (l + 4) z = _; simp
    · show P0 (l + 5) z = _; simp
  | i + 1, hi, z => by
    obtain ⟨i2, i3, i4, i5⟩ := pN_e hd hcv hb hH i (by omega) z
    have o1 := pN_o (P0 := P0) (l := l) (s := s) (a := a) hd (o := l + 1) (by omega) i
    have ol := pN_o (P0 := P0) (l := l) (s := s) (a := a) hd (o := l) (by omega) i
    have os := pN_o (P0 := P0) (l := l) (s := s) (a := a) hd (o := s) (by omega) i
    have os4 := pN_o (P0 := P0) (l := l) (s := s) (a := a) hd (o := s + 4) (by omega) i
    have oa2 := pN_o (P0 := P0) (l := l) (s := s) (a := a) hd (o := a + 2) (by omega) i
    have oa3 := pN_o (P0 := P0) (l := l) (s := s) (a := a) hd (o := a + 3) (by omega) i
    have hbi := hb i (by omega)
    show passC (passB (passA (passN P0 l s a i) l i) l a i) l s i (l + 2) z = _ ∧ passC (passB (passA (passN P0 l s a i) l i) l a i) l s i (l + 3) z = _ ∧ passC (passB (passA (passN P0 l s a i) l i) l a i) l s i (l + 4) z = _ ∧ passC (passB (passA (passN P0 l s a i) l i) l a i) l s i (l + 5) z = _
    generalize passN P0 l s a i = N at i2 i3 i4 i5 o1 ol os os4 oa2 oa3 ⊢
    have eC : ∀ o, o ≠ l + 4 → passC (passB (passA N l i) l a i) l s i o = passB (passA N l i) l a i o := fun o ho => z2_off _ _ _ ho
    have ag := ageA_e (P0 (l + 1) i) (show i < 8 by omega) (N (l + 2), N (l + 3)) z 8 (Nat.le_refl _)
    have a2 : passA N l i (l + 2) = (ageA (P0 (l + 1) i) i (N (l + 2), N (l + 3)) 8).1 := by unfold passA; rw [zr_o _ _ (by omega), zr_h, o1]
    have a3 : passA N l i (l + 3) = (ageA (P0 (l + 1) i) i (N (l + 2), N (l + 3)) 8).2 := by unfold passA; rw [zr_h, o1]
    have as' := agN_s (P0 (l + 1)) i z
    have ax := agN_x (P0 (l + 1)) i z
    refine ⟨?_, ?_, ?_, ?_⟩
    · rw [eC _ (by omega), passB_o _ _ _ _ (by omega), a2, ag.1, as']
      show N (l + 2) z + _ = _
      rw [i2]
      cases e : agI (P0 (l + 1) i) i z 8 with
      | true => rw [ax e]; simp
      | false => simp
    · rw [eC _ (by omega), passB_o _ _ _ _ (by omega), a3, as']
      refine ag.2.trans ?_
      have i3b : (N (l + 2), N (l + 3)).2 z = P0 (l + 3) z + (if agN (P0 (l + 1)) i z = true ∧ (P0 (l + 2) z + 1) - (P0 (l + 2) z + 1) / 3 * 3 = 0 then 1 else 0) := i3
      exact (congrArg (· + _) i3b).trans (ch_sum i2 ax)
    · have eb : passB (passA N l i) l a i (l + 4) = N (l + 4) := by rw [passB_o _ _ _ _ (by omega), passA_o _ _ _ (by omega) (by omega)]
      have el : passB (passA N l i) l a i l = P0 l := by rw [passB_o _ _ _ _ (by omega), passA_o _ _ _ (by omega) (by omega), ol]
      have es : passB (passA N l i) l a i s = P0 s := by rw [passB_o _ _ _ _ (by omega), passA_o _ _ _ (by omega) (by omega), os]
      have es4 : passB (passA N l i) l a i (s + 4) = P0 (s + 4) := by rw [passB_o _ _ _ _ (by omega), passA_o _ _ _ (by omega) (by omega), os4]
      unfold passC
      rw [eb, el, es, es4]
      by_cases e : z = i
      · subst e
        rw [z2_hit, i4]
        simp
      · rw [z2_k _ _ _ e, eb, i4]
        have : (z < i + 1) ↔ z < i := by omega
        simp [this]
    · rw [eC _ (by omega)]
      have eb : passB (passA N l i) l a i (l + 5) = blkN (N (l + 5)) (P0 (a + 3)) i (P0 (a + 2) i).toNatClampNeg := by
        unfold passB
        rw [zr_h, passA_o _ _ _ (by omega) (by omega), passA_o _ _ _ (by omega) (by omega), passA_o _ _ _ (by omega) (by omega), oa3, oa2]
      rw [eb, hbi, i5]
      by_cases e : z / 144 = i
      · have e1 : 144 * i ≤ z := by omega
        have e2 : z - 144 * i = z % 144 := by omega
        have e3 : ¬ z / 144 < i := by omega
        have e4 : z / 144 < i + 1 := by omega
        rw [e2, if_neg (fun q => e3 q.1), e]
        simp [e1]
      · have e4 : (z / 144 < i + 1) ↔ z / 144 < i := by omega
        have e5 : ¬ (144 * i ≤ z ∧ cv i (z - 144 * i) = true) := fun q => by
          have := hcv _ _ q.2
          omega
        rw [if_neg e5]
        simp [e4]
end N88
