/-! A STREET OF THE CLASS (cell s) AND A ROW OF THE MODEL (r): the same street -/
def slL (f : Nat → Nat → Int32) (L li r : Nat) (x0 : Int32) : Prop := (f 52 li = nI (1000 * r) ∧ f 53 li = nI (1000 * r) ∧ f L 2 = 1 ∧ f (L + 1) 0 = x0) ∨ ∃ (a : Nat) (Y : List Int32) (V : V4), 1 ≤ Y.length ∧ a + Y.length ≤ 1000 ∧ f 52 li = nI (1000 * r + a) ∧ f 53 li = nI (1000 * r + a + Y.length) ∧ (∀ i, i < Y.length → f 54 (1000 * r + a + i) = Y.getD i 0) ∧ LB Y V ∧ zLaw f L (fun x y z => V (x - x / 24 * 24) (x / 24) y z)
def slH (f : Nat → Nat → Int32) (s r C R h : Nat) : Prop := (∃ c q : Nat, c < C ∧ q < R ∧ f (s + 1) h = nI c ∧ f 48 (8 * r + h) = nI c ∧ f (s + 2) h = nI q ∧ f 49 (8 * r + h) = nI q) ∧ f 50 (8 * r + h) = f (s + 3) h ∧ f 51 (8 * r + h) = f (s + 4) h
def SRn (f : Nat → Nat → Int32) (s r C R H K U : Nat) : Prop := ((1 ≤ C ∧ C ≤ 12) ∧ (1 ≤ R ∧ R ≤ 12) ∧ H ≤ 8 ∧ K ≤ 99 ∧ U ≤ 10) ∧ (f s 7 = nI C ∧ f s 8 = nI R ∧ f s 9 = nI K ∧ f s 10 = nI U ∧ f s 11 = nI H) ∧ (f 46 (5 * r) = nI C ∧ f 46 (5 * r + 1) = nI R ∧ f 46 (5 * r + 2) = nI K ∧ f 46 (5 * r + 3) = nI U ∧ f 46 (5 * r + 4) = nI H) ∧ (∀ h, h < H → slH f s r C R h) ∧ slL f (s + 6) (2 * r) r 0 ∧ slL f (s + 9) (2 * r + 1) r (-3) ∧ nzW f s
theorem zLaw_n {f g : Nat → Nat → Int32} {L M : Nat} {F : Int32 → Int32 → Int32 → Int32} (h : zLaw f L F) (e : ∀ n : Nat, n ≤ 1000 → f L 2 = nI n → g M 2 = nI n ∧ ∀ i, i < n → g (M + 1) i = f (L + 1) i) : zLaw g M F := by
  obtain ⟨n, h1, h2, h3⟩ := h
  obtain ⟨e1, e2⟩ := e n h1 h2
  refine ⟨n, h1, e1, fun x y z q => ?_⟩
  rw [← h3 x y z q]
  have : ∀ m, m ≤ n → lrun x y z (g (M + 1)) (0, q) m = lrun x y z (f (L + 1)) (0, q) m := by
    intro m
    induction m with
    | zero => intro _; rfl
    | succ m ih =>
      intro hm
      show lstep x y z (g (M + 1) m) (lrun x y z (g (M + 1)) (0, q) m) = lstep x y z (f (L + 1) m) (lrun x y z (f (L + 1)) (0, q) m)
      rw [ih (by omega), e2 m (by omega)]
  rw [this n (Nat.le_refl _)]
theorem slL_sz {f : Nat → Nat → Int32} {L li r : Nat} {x0 : Int32} (h : slL f L li r x0) : ∃ n : Nat, n ≤ 1000 ∧ f L 2 = nI n := by
  rcases h with ⟨-, -, h, -⟩ | ⟨a, Y, V, -, -, -, -, -, -, n, h1, h2, -⟩
  · exact ⟨1, by decide, h⟩
  · exact ⟨n, h1, h2⟩
/-- the class' side of a law moved to another cell, the model's row the same -/
theorem slL_cp {f g : Nat → Nat → Int32} {L M li r : Nat} {x0 : Int32} (h : slL f L li r x0) (e : ∀ n : Nat, n ≤ 1000 → f L 2 = nI n → g M 2 = nI n ∧ ∀ i, i < n → g (M + 1) i = f (L + 1) i) (e1 : g 52 li = f 52 li) (e2 : g 53 li = f 53 li) (e3 : ∀ i, i < 1000 → g 54 (1000 * r + i) = f 54 (1000 * r + i)) : slL g M li r x0 := by
  rcases h with ⟨h1, h2, h3, h4⟩ | ⟨a, Y, V, h1, h2, h3, h4, h5, h6, h7⟩
  · obtain ⟨b1, b2⟩ := e 1 (by decide) h3
    exact Or.inl ⟨e1.trans h1, e2.trans h2, b1, (b2 0 (by decide)).trans h4⟩
  · exact Or.inr ⟨a, Y, V, h1, h2, e1.trans h3, e2.trans h4, fun i hi => by rw [Nat.add_assoc, e3 (a + i) (by omega), ← Nat.add_assoc]; exact h5 i hi, h6, zLaw_n h7 e⟩
theorem nzW_cp {f g : Nat → Nat → Int32} {s k : Nat} (h : nzW f k) (hz : ∃ n : Nat, n ≤ 1000 ∧ f (k + 6) 2 = nI n) (e : ∀ n : Nat, n ≤ 1000 → f (k + 6) 2 = nI n → g (s + 6) 2 = nI n ∧ ∀ i, i < n → g (s + 6 + 1) i = f (k + 6 + 1) i) : nzW g s := by
  obtain ⟨n, h1, h2⟩ := hz
  obtain ⟨e1, e2⟩ := e n h1 h2
  intro m hm hg i hi
  have em : n = m := (nI_eq (by omega) (by omega)).mp (e1.symm.trans hg)
  subst em
  rw [show g (s + 7) i = f (k + 7) i from e2 i hi]
  exact h n h1 h2 i hi
/-- all that SRn reads -/
theorem SRn_cp {f g : Nat → Nat → Int32} {k s r C R H K U : Nat} (h : SRn f k r C R H K U) (c1 : ∀ i, 7 ≤ i → i ≤ 11 → g s i = f k i) (c2 : ∀ i, 1 ≤ i → i ≤ 4 → ∀ j, j < 8 → g (s + i) j = f (k + i) j) (c3 : ∀ n : Nat, n ≤ 1000 → f (k + 6) 2 = nI n → g (s + 6) 2 = nI n ∧ ∀ i, i < n → g (s + 6 + 1) i = f (k + 6 + 1) i) (c4 : ∀ n : Nat, n ≤ 1000 → f (k + 9) 2 = nI n → g (s + 9) 2 = nI n ∧ ∀ i, i < n → g (s + 9 + 1) i = f (k + 9 + 1) i)
    (m1 : ∀ i, i < 5 → g 46 (5 * r + i) = f 46 (5 * r + i)) (m2 : ∀ o, 48 ≤ o → o ≤ 51 → ∀ i, i < 8 → g o (8 * r + i) = f o (8 * r + i)) (m3 : ∀ o, (o = 52 ∨ o = 53) → ∀ i, i < 2 → g o (2 * r + i) = f o (2 * r + i)) (m4 : ∀ i, i < 1000 → g 54 (1000 * r + i) = f 54 (1000 * r + i)) : SRn g s r C R H K U := by
  obtain ⟨h1, h2, h3, h4, h5, h6, h7⟩ := h
  refine ⟨h1, ⟨(c1 7 (by omega) (by omega)).trans h2.1, (c1 8 (by omega) (by omega)).trans h2.2.1, (c1 9 (by omega) (by omega)).trans h2.2.2.1, (c1 10 (by omega) (by omega)).trans h2.2.2.2.1, (c1 11 (by omega) (by omega)).trans h2.2.2.2.2⟩, ⟨(m1 0 (by omega)).trans h3.1, (m1 1 (by omega)).trans h3.2.1, (m1 2 (by omega)).trans h3.2.2.1, (m1 3 (by omega)).trans h3.2.2.2.1, (m1 4 (by omega)).trans h3.2.2.2.2⟩, fun h hh => ?_, slL_cp h5 c3 (m3 52 (by omega) 0 (by omega)) (m3 53 (by omega) 0 (by omega)) m4, slL_cp h6 c4 (m3 52 (by omega) 1 (by omega)) (m3 53 (by omega) 1 (by omega)) m4, nzW_cp h7 (slL_sz h5) c3⟩
  obtain ⟨⟨c, q, a1, a2, a3, a4, a5, a6⟩, a7, a8⟩ := h4 h hh
  have hh8 : h < 8 := by omega
  exact ⟨⟨c, q, a1, a2, (c2 1 (by omega) (by omega) h hh8).trans a3, (m2 48 (by omega) (by omega) h hh8).trans a4, (c2 2 (by omega) (by omega) h hh8).trans a5, (m2 49 (by omega) (by omega) h hh8).trans a6⟩, (m2 50 (by omega) (by omega) h hh8).trans (a7.trans (c2 3 (by omega) (by omega) h hh8).symm), (m2 51 (by omega) (by omega) h hh8).trans (a8.trans (c2 4 (by omega) (by omega) h hh8).symm)⟩
theorem SRn_keep {f g : Nat → Nat → Int32} {s r C R H K U : Nat} (h : SRn f s r C R H K U) (c : ∀ o, s ≤ o → o < s + 12 → o ≠ s + 5 → o ≠ s + 8 → o ≠ s + 11 → g o = f o)
    (m1 : ∀ i, i < 5 → g 46 (5 * r + i) = f 46 (5 * r + i)) (m2 : ∀ o, 48 ≤ o → o ≤ 51 → ∀ i, i < 8 → g o (8 * r + i) = f o (8 * r + i)) (m3 : ∀ o, (o = 52 ∨ o = 53) → ∀ i, i < 2 → g o (2 * r + i) = f o (2 * r + i)) (m4 : ∀ i, i < 1000 → g 54 (1000 * r + i) = f 54 (1000 * r + i)) : SRn g s r C R H K U :=
  SRn_cp h (fun i h1 h2 => congrFun (c s (by omega) (by omega) (by omega) (by omega) (by omega)) i) (fun i h1 h2 j hj => congrFun (c (s + i) (by omega) (by omega) (by omega) (by omega) (by omega)) j) (fun n _ e => ⟨(congrFun (c (s + 6) (by omega) (by omega) (by omega) (by omega) (by omega)) 2).trans e, fun i _ => congrFun (c (s + 6 + 1) (by omega) (by omega) (by omega) (by omega) (by omega)) i⟩) (fun n _ e => ⟨(congrFun (c (s + 9) (by omega) (by omega) (by omega) (by omega) (by omega)) 2).trans e, fun i _ => congrFun (c (s + 9 + 1) (by omega) (by omega) (by omega) (by omega) (by omega)) i⟩) m1 m2 m3 m4
theorem SRn_DN {w : zW} {T : Nat → Int32} {s j C R H K U : Nat} {F : Nat → Nat → Int32} {N : Nat → Int64} (h : DN w T s j C R H K U F N) (hj : j ≤ 2000) (hz : nzW F s) (c1 : ∀ o, (o = s ∨ o = s + 1 ∨ o = s + 2 ∨ o = s + 3 ∨ o = s + 4 ∨ o = s + 7 ∨ o = s + 10) → zI w o = F o) (c2 : zI w (s + 6) 2 = F (s + 6) 2) (c3 : zI w (s + 9) 2 = F (s + 9) 2) : SRn (zI w) s 1 C R H K U := by
  obtain ⟨h1, h2, h3, h4, h5, h6, h7, h8, h9⟩ := h
  have law : ∀ (li L k : Nat) (x0 : Int32), dL w F li L k j x0 → zI w L 2 = F L 2 → zI w (L + 1) = F (L + 1) → slL (zI w) L li 1 x0 := fun li L k x0 hd e1 e2 => by
    rcases hd with ⟨a1, a2, a3, a4, a5⟩ | ⟨a1, a, Y, V, a2, a3, a4, a5, a6, a7, a8, a9⟩
    · exact Or.inl ⟨a2, a3, e1.trans a4, (congrFun e2 0).trans a5⟩
    · obtain ⟨b, rfl⟩ : ∃ b, a = 1000 * 1 + b := ⟨a - 1000, by omega⟩
      exact Or.inr ⟨b, Y, V, a2, by omega, a5, a6, a7, a8, zLaw_c a9 e1 e2⟩
  refine ⟨h1, ⟨(congrFun (c1 s (by omega)) 7).trans h2.1, (congrFun (c1 s (by omega)) 8).trans h2.2.1, (congrFun (c1 s (by omega)) 9).trans h2.2.2.1, (congrFun (c1 s (by omega)) 10).trans h2.2.2.2.1, (congrFun (c1 s (by omega)) 11).trans h2.2.2.2.2⟩, h3, fun h hh => ?_, law 2 (s + 6) 11 0 h6 c2 (c1 _ (by omega)), law 3 (s + 9) 12 (-3) h7 c3 (c1 _ (by omega)), nzW_c hz c2 (c1 _ (by omega))⟩
  obtain ⟨⟨c, q, a1, a2, a3, a4, a5, a6⟩, a7, a8, -⟩ := h4 h hh
  exact ⟨⟨c, q, a1, a2, (congrFun (c1 _ (by omega)) h).trans a3, a4, (congrFun (c1 _ (by omega)) h).trans a5, a6⟩, a7.trans (congrFun (c1 (s + 3) (by omega)) h).symm, a8.trans (congrFun (c1 (s + 4) (by omega)) h).symm⟩
/-! rows of the model laid elsewhere -/
theorem fbp_in {g : Nat → Int32} {n fr to i : Nat} (hi : i < n) : fb_put g (fun k => g (n * fr + k)) (n * to) n (n * to + i) = g (n * fr + i) := by
  rw [fb_put_in (by omega) (by omega), Nat.add_sub_cancel_left]
theorem layL_o {f : Nat → Nat → Int32} {fr to k o : Nat} (h : o ≠ 52 ∧ o ≠ 53) : layL f fr to k o = f o := by
  unfold layL
  rw [z2_ro _ _ _ (by omega), z2_ro _ _ _ (by omega)]
theorem laysF_r {f : Nat → Nat → Int32} {fr to o : Nat} (h : o ≠ 52 ∧ o ≠ 53) : laysF f fr to o = lay6 f fr to o := by
  unfold laysF
  rw [layL_o h, layL_o h]
theorem laysF_o {f : Nat → Nat → Int32} {fr to o : Nat} (h : o < 46 ∨ o = 47 ∨ 54 < o) : laysF f fr to o = f o := by
  rw [laysF_r (by omega)]
  unfold lay6
  rw [lay1_o _ (by omega), lay1_o _ (by omega), lay1_o _ (by omega), lay1_o _ (by omega), lay1_o _ (by omega), lay1_o _ (by omega)]
theorem laysF_46 {f : Nat → Nat → Int32} {fr to : Nat} : laysF f fr to 46 = fb_put (f 46) (fun k => f 46 (5 * fr + k)) (5 * to) 5 := by
  rw [laysF_r (by omega)]
  unfold lay6
  rw [lay1_o _ (by omega), lay1_o _ (by omega), lay1_o _ (by omega), lay1_o _ (by omega), lay1_o _ (by omega), lay1_h]
theorem laysF_h {f : Nat → Nat → Int32} {fr to o : Nat} (h : 48 ≤ o ∧ o ≤ 51) : laysF f fr to o = fb_put (f o) (fun k => f o (8 * fr + k)) (8 * to) 8 := by
  rw [laysF_r (by omega)]
  unfold lay6
  rcases (show o = 48 ∨ o = 49 ∨ o = 50 ∨ o = 51 by omega) with rfl | rfl | rfl | rfl
  · rw [lay1_o _ (by omega), lay1_o _ (by omega), lay1_o _ (by omega), lay1_o _ (by omega), lay1_h, lay1_o _ (by omega)]
  · rw [lay1_o _ (by omega), lay1_o _ (by omega), lay1_o _ (by omega), lay1_h, lay1_o _ (by omega), lay1_o _ (by omega)]
  · rw [lay1_o _ (by omega), lay1_o _ (by omega), lay1_h, lay1_o _ (by omega), lay1_o _ (by omega), lay1_o _ (by omega)]
  · rw [lay1_o _ (by omega), lay1_h, lay1_o _ (by omega), lay1_o _ (by omega), lay1_o _ (by omega), lay1_o _ (by omega)]
theorem laysF_54 {f : Nat → Nat → Int32} {fr to : Nat} : laysF f fr to 54 = fb_put (f 54) (fun k => f 54 (1000 * fr + k)) (1000 * to) 1000 := by
  rw [laysF_r (by omega)]
  unfold lay6
  rw [lay1_h, lay1_o _ (by omega), lay1_o _ (by omega), lay1_o _ (by omega), lay1_o _ (by omega), lay1_o _ (by omega)]
theorem lay6_L {f : Nat → Nat → Int32} {fr to o : Nat} (h : o = 52 ∨ o = 53) : lay6 f fr to o = f o := by
  unfold lay6
  rw [lay1_o _ (by omega), lay1_o _ (by omega), lay1_o _ (by omega), lay1_o _ (by omega), lay1_o _ (by omega), lay1_o _ (by omega)]
theorem laysF_L {f : Nat → Nat → Int32} {fr to o k : Nat} (ho : o = 52 ∨ o = 53) (hk : k < 2) (hft : fr ≠ to) : laysF f fr to o (2 * to + k) = f o (2 * fr + k) + 1000 * (nI to - nI fr) := by
  unfold laysF layL
  rcases (show k = 0 ∨ k = 1 by omega) with rfl | rfl <;> rcases ho with rfl | rfl
  · rw [z2_nt _ _ (by omega), z2_nt _ _ (by omega), z2_nt _ _ (by omega), z2_at, lay6_L (by omega)]
  · rw [z2_nt _ _ (by omega), z2_nt _ _ (by omega), z2_at, lay6_L (by omega)]
  · rw [z2_nt _ _ (by omega), z2_at, z2_nt _ _ (by omega), z2_nt _ _ (by omega), lay6_L (by omega)]
  · rw [z2_at, z2_nt _ _ (by omega), z2_nt _ _ (by omega), lay6_L (by omega)]
theorem laysF_Lo {f : Nat → Nat → Int32} {fr to o k : Nat} (ho : o = 52 ∨ o = 53) (hk : k ≠ 2 * to ∧ k ≠ 2 * to + 1) : laysF f fr to o k = f o k := by
  unfold laysF layL
  rw [z2_nt _ _ (by omega), z2_nt _ _ (by omega), z2_nt _ _ (by omega), z2_nt _ _ (by omega), lay6_L ho]
theorem lay_k : ∀ fr to : Fin 6, (1000 : Int32) * (nI to - nI fr) = nI (1000 * to) - nI (1000 * fr) := by decide
theorem lay_n {fr to : Nat} (hf : fr < 6) (ht : to < 6) (a : Nat) : nI (1000 * fr + a) + 1000 * (nI to - nI fr) = nI (1000 * to + a) := by
  rw [show (1000 : Int32) * (nI to - nI fr) = nI (1000 * to) - nI (1000 * fr) from lay_k ⟨fr, hf⟩ ⟨to, ht⟩, Nat.add_comm (1000 * fr) a, ← nI_add, Int32.add_assoc, Int32.add_comm (nI (1000 * fr)), Int32.sub_add_cancel, nI_add, Nat.add_comm]
theorem SRn_lay {f : Nat → Nat → Int32} {s fr to C R H K U : Nat} (h : SRn f s fr C R H K U) (hf : fr < 6) (ht : to < 6) (hft : fr ≠ to) (hs : s + 12 ≤ 44 ∨ 73 ≤ s) : SRn (laysF f fr to) s to C R H K U := by
  obtain ⟨h1, h2, h3, h4, h5, h6, h7⟩ := h
  have co : ∀ o, s ≤ o → o < s + 12 → laysF f fr to o = f o := fun o a b => laysF_o (by omega)
  have m46 : ∀ i, i < 5 → laysF f fr to 46 (5 * to + i) = f 46 (5 * fr + i) := fun i hi => by rw [laysF_46]; exact fbp_in hi
  have mh : ∀ o, 48 ≤ o → o ≤ 51 → ∀ i, i < 8 → laysF f fr to o (8 * to + i) = f o (8 * fr + i) := fun o a b i hi => by rw [laysF_h ⟨a, b⟩]; exact fbp_in hi
  have law : ∀ (L e : Nat) (x0 : Int32), e < 2 → s ≤ L → L + 1 < s + 12 → slL f L (2 * fr + e) fr x0 → slL (laysF f fr to) L (2 * to + e) to x0 := fun L e x0 he a b hl => by
    rcases hl with ⟨a1, a2, a3, a4⟩ | ⟨c, Y, V, a1, a2, a3, a4, a5, a6, a7⟩
    · refine Or.inl ⟨?_, ?_, by rw [co L (by omega) (by omega)]; exact a3, by rw [co (L + 1) (by omega) (by omega)]; exact a4⟩
      · rw [laysF_L (Or.inl rfl) he hft, a1]; exact lay_n hf ht 0
      · rw [laysF_L (Or.inr rfl) he hft, a2]; exact lay_n hf ht 0
    · refine Or.inr ⟨c, Y, V, a1, a2, ?_, ?_, fun i hi => ?_, a6, zLaw_c a7 (by rw [co L (by omega) (by omega)]) (co (L + 1) (by omega) (by omega))⟩
      · rw [laysF_L (Or.inl rfl) he hft, a3]; exact lay_n hf ht c
      · rw [laysF_L (Or.inr rfl) he hft, a4, Nat.add_assoc, Nat.add_assoc]; exact lay_n hf ht (c + Y.length)
      · rw [laysF_54, Nat.add_assoc, fbp_in (by omega), ← Nat.add_assoc]; exact a5 i hi
  refine ⟨h1, by rw [co s (by omega) (by omega)]; exact h2, ⟨(m46 0 (by omega)).trans h3.1, (m46 1 (by omega)).trans h3.2.1, (m46 2 (by omega)).trans h3.2.2.1, (m46 3 (by omega)).trans h3.2.2.2.1, (m46 4 (by omega)).trans h3.2.2.2.2⟩, fun h hh => ?_, law (s + 6) 0 0 (by omega) (by omega) (by omega) h5, law (s + 9) 1 (-3) (by omega) (by omega) (by omega) h6, nzW_c h7 (by rw [co _ (by omega) (by omega)]) (co _ (by omega) (by omega))⟩
  obtain ⟨⟨c, q, a1, a2, a3, a4, a5, a6⟩, a7, a8⟩ := h4 h hh
  have hh8 : h < 8 := by omega
  exact ⟨⟨c, q, a1, a2, by rw [co (s + 1) (by omega) (by omega)]; exact a3, (mh 48 (by omega) (by omega) h hh8).trans a4, by rw [co (s + 2) (by omega) (by omega)]; exact a5, (mh 49 (by omega) (by omega) h hh8).trans a6⟩, by rw [co (s + 3) (by omega) (by omega)]; exact (mh 50 (by omega) (by omega) h hh8).trans a7, by rw [co (s + 4) (by omega) (by omega)]; exact (mh 51 (by omega) (by omega) h hh8).trans a8⟩
/-- a row that is not written stays -/
theorem SRn_lay_o {f : Nat → Nat → Int32} {s r fr to C R H K U : Nat} (h : SRn f s r C R H K U) (hr : r ≠ to) (hs : s + 12 ≤ 44 ∨ 73 ≤ s) : SRn (laysF f fr to) s r C R H K U :=
  SRn_keep h (fun o h1 h2 _ _ _ => laysF_o (by omega)) (fun i hi => by rw [laysF_46, fb_put_out (by omega)]) (fun o h1 h2 i hi => by rw [laysF_h ⟨h1, h2⟩, fb_put_out (by omega)]) (fun o ho i hi => laysF_Lo ho (by omega)) (fun i hi => by rw [laysF_54, fb_put_out (by omega)])
