/-! A LIFE OF THE CLASS (cell l) AND A ROW OF THE MODEL (g): the same life -/
def LRs (f : Nat → Nat → Int32) (l : Nat) (g : Nat → Int32) (H : Nat) : Prop := ∃ n : Nat, n ≤ 10 ∧ f l 12 = nI n ∧ g 140 = nI n ∧ ∀ k, k < n → ∃ a b : Nat, a < H ∧ b < H ∧ f (l + 6) k = nI a ∧ g (141 + 3 * k) = nI a ∧ f (l + 7) k = nI b ∧ g (141 + 3 * k + 1) = nI b ∧ g (141 + 3 * k + 2) = f (l + 8) k ∧ (f (l + 8) k = 0 ∨ f (l + 8) k = 1)
def LR (f : Nat → Nat → Int32) (l : Nat) (g : Nat → Int32) (H N : Nat) : Prop :=
  (∃ t : Nat, t ≤ N ∧ f l 8 = nI t ∧ g 138 = nI t) ∧ ((f l 9 = -1 ∧ g 139 = 0) ∨ ∃ yv : Nat, yv < 8 ∧ f l 9 = nI yv ∧ g 139 = 1 + nI yv) ∧ (g 136 = f l 10 ∧ g 137 = f l 11) ∧ LRs f l g H ∧
  (∀ a, a < 8 → f (l + 1) a = orN (wedTo g a) 8) ∧ (∀ a b, a < 8 → b < 8 → ∃ v : Nat, v ≤ N ∧ g (8 * a + b) = nI v ∧ g (8 * b + a) = nI v ∧ ((H ≤ a ∨ H ≤ b ∨ a = b) → v = 0) ∧ (a < b → f (l + 2) (8 * a + b) = nI v)) ∧
  (∀ a b, a < 8 → b < 8 → ∃ v : Nat, v ≤ N ∧ g (64 + 8 * a + b) = nI v ∧ g (64 + 8 * b + a) = nI v ∧ (a = b → v = 0) ∧ f (l + 3) (8 * a + b) = if a < b then nI v else 0) ∧ (∀ h, h < 8 → g (128 + h) = f (l + 4) h) ∧ (∀ h p, h < 8 → p < 144 → ∃ v : Nat, v ≤ N ∧ f (l + 5) (144 * h + p) = nI v ∧ g (176 + 8 * p + h) = nI v)
theorem wedTo_c {g g2 : Nat → Int32} {a : Nat} (h : ∀ b, b < 8 → g2 (8 * a + b) = g (8 * a + b)) : ∀ n, n ≤ 8 → orN (wedTo g2 a) n = orN (wedTo g a) n := by
  intro n
  induction n with
  | zero => intro _; rw [orN, orN]
  | succ n ih =>
    intro hn
    have e : wedTo g2 a n = wedTo g a n := by
      unfold wedTo
      rw [h n (by omega)]
    rw [orN, orN, ih (by omega), e]
/-- a life copied, or a row of the model -/
theorem LR_c {f f2 : Nat → Nat → Int32} {l l2 : Nat} {g g2 : Nat → Int32} {H N M : Nat} (h : LR f l g H N) (hM : N ≤ M) (c0 : ∀ i, 8 ≤ i → i ≤ 12 → f2 l2 i = f l i) (c1 : ∀ j, j < 8 → f2 (l2 + 1) j = f (l + 1) j) (c2 : ∀ j, j < 64 → f2 (l2 + 2) j = f (l + 2) j) (c3 : ∀ j, j < 64 → f2 (l2 + 3) j = f (l + 3) j) (c4 : ∀ j, j < 8 → f2 (l2 + 4) j = f (l + 4) j) (c5 : ∀ j, j < 1152 → f2 (l2 + 5) j = f (l + 5) j) (c6 : ∀ j, j < 10 → f2 (l2 + 6) j = f (l + 6) j) (c7 : ∀ j, j < 10 → f2 (l2 + 7) j = f (l + 7) j) (c8 : ∀ j, j < 10 → f2 (l2 + 8) j = f (l + 8) j) (cg : ∀ j, j < 1344 → g2 j = g j) : LR f2 l2 g2 H M := by
  obtain ⟨⟨t, t1, t2, t3⟩, h2, h3, ⟨n, n1, n2, n3, n4⟩, h5, h6, h7, h8, h9⟩ := h
  refine ⟨⟨t, by omega, (c0 8 (by omega) (by omega)).trans t2, (cg 138 (by omega)).trans t3⟩, ?_, ⟨(cg 136 (by omega)).trans (h3.1.trans (c0 10 (by omega) (by omega)).symm), (cg 137 (by omega)).trans (h3.2.trans (c0 11 (by omega) (by omega)).symm)⟩, ⟨n, n1, (c0 12 (by omega) (by omega)).trans n2, (cg 140 (by omega)).trans n3, fun k hk => ?_⟩, fun a ha => ?_, fun a b ha hb => ?_, fun a b ha hb => ?_, fun h hh => ?_, fun h p hh hp => ?_⟩
  · rcases h2 with ⟨a1, a2⟩ | ⟨yv, a1, a2, a3⟩
    · exact Or.inl ⟨(c0 9 (by omega) (by omega)).trans a1, (cg 139 (by omega)).trans a2⟩
    · exact Or.inr ⟨yv, a1, (c0 9 (by omega) (by omega)).trans a2, (cg 139 (by omega)).trans a3⟩
  · obtain ⟨a, b, a1, a2, a3, a4, a5, a6, a7, a8⟩ := n4 k hk
    exact ⟨a, b, a1, a2, (c6 k (by omega)).trans a3, (cg _ (by omega)).trans a4, (c7 k (by omega)).trans a5, (cg _ (by omega)).trans a6, (cg _ (by omega)).trans (a7.trans (c8 k (by omega)).symm), by rw [c8 k (by omega)]; exact a8⟩
  · rw [c1 a ha, h5 a ha]
    exact (wedTo_c (fun b hb => cg _ (by omega)) 8 (Nat.le_refl _)).symm
  · obtain ⟨v, v1, v2, v3, v4, v5⟩ := h6 a b ha hb
    exact ⟨v, by omega, (cg _ (by omega)).trans v2, (cg _ (by omega)).trans v3, v4, fun z => (c2 _ (by omega)).trans (v5 z)⟩
  · obtain ⟨v, v1, v2, v3, v4, v5⟩ := h7 a b ha hb
    exact ⟨v, by omega, (cg _ (by omega)).trans v2, (cg _ (by omega)).trans v3, v4, (c3 _ (by omega)).trans v5⟩
  · exact (cg _ (by omega)).trans ((h8 h hh).trans (c4 h hh).symm)
  · obtain ⟨v, v1, v2, v3⟩ := h9 h p hh hp
    exact ⟨v, by omega, (c5 _ (by omega)).trans v2, (cg _ (by omega)).trans v3⟩
/-! one met set -/
theorem smkH_c {f g : Nat → Nat → Int32} {C R yv : Nat} {G : Int32 → Int32 → Int32 → Int32} {hour burn : Int32} {r : Nat → Int32} : ∀ H, (∀ i, i < H → f 48 i = g 48 i ∧ f 49 i = g 49 i ∧ f 50 i = g 50 i ∧ f 51 i = g 51 i) → smkH f C R yv G hour burn r H = smkH g C R yv G hour burn r H
  | 0, _ => rfl
  | H + 1, h => by
    show smkI (mcell f C R H yv) H (smkH f C R yv G hour burn r H) (mlen f G hour burn yv H) = smkI (mcell g C R H yv) H (smkH g C R yv G hour burn r H) (mlen g G hour burn yv H)
    obtain ⟨e1, e2, e3, e4⟩ := h H (by omega)
    have m1 : mcell f C R H yv = mcell g C R H yv := by
      funext k
      unfold mcell mX
      rw [e1, e2, e4]
    have m2 : mlen f G hour burn yv H = mlen g G hour burn yv H := by
      unfold mlen
      rw [e3, e4]
    rw [smkH_c H (fun i hi => h i (by omega)), m1, m2]
theorem mset_h {f g : Nat → Nat → Int32} {C R yv : Nat} {G : Int32 → Int32 → Int32 → Int32} {hour burn : Int32} {H : Nat} (h : ∀ i, i < H → f 48 i = g 48 i ∧ f 49 i = g 49 i ∧ f 50 i = g 50 i ∧ f 51 i = g 51 i) (j : Nat) : mset f C R yv G hour burn H j = mset g C R yv G hour burn H j := by
  unfold mset
  rw [smkH_c H h]
theorem SRn_rows {f : Nat → Nat → Int32} {s C R H K U : Nat} (h : SRn f s 0 C R H K U) : ∀ i, i < H → vst f s 48 i = f 48 i ∧ vst f s 49 i = f 49 i ∧ vst f s 50 i = f 50 i ∧ vst f s 51 i = f 51 i := fun i hi => by
  obtain ⟨⟨c, q, -, -, a3, a4, a5, a6⟩, a7, a8⟩ := h.2.2.2.1 i hi
  rw [show 8 * 0 + i = i from by omega] at a4 a6 a7 a8
  exact ⟨a3.trans a4.symm, a5.trans a6.symm, a7.symm, a8.symm⟩
theorem cset_m {f : Nat → Nat → Int32} {s C R H K U : Nat} (h : SRn f s 0 C R H K U) {yv : Nat} {G : Int32 → Int32 → Int32 → Int32} {hour burn : Int32} {j : Nat} (hj : j < H) : cset f s C R yv G hour burn H j = mset f C R yv G hour burn H j := by
  unfold cset
  rw [if_pos hj]
  exact mset_h (SRn_rows h) j
/-! answers -/
theorem i07 {x : Int32} (h0 : ¬ x < 0) (h7 : ¬ 7 < x) : x = 0 ∨ x = 1 ∨ x = 2 ∨ x = 3 ∨ x = 4 ∨ x = 5 ∨ x = 6 ∨ x = 7 := by
  obtain ⟨j, hj, e⟩ := nI_of2 (M := 7) (n := 7) rfl h0 (Int32.not_lt.mp h7)
  rcases (show j = 0 ∨ j = 1 ∨ j = 2 ∨ j = 3 ∨ j = 4 ∨ j = 5 ∨ j = 6 ∨ j = 7 by omega) with rfl | rfl | rfl | rfl | rfl | rfl | rfl | rfl <;> rw [e] <;> decide
theorem an_house {f : Nat → Nat → Int32} {s C R H K U N j : Nat} (h : SRn f s 0 C R H K U) (k : LR f 21 (f 67) H N) (hj : j < H) (x : Int32) : houseV f s (nI j) x = if (if x < 0 then 0 else if 7 < x then 0 else 1 : Int32) = 0 then -1 else mHouse f j x := by
  have hj8 : j < 8 := Nat.lt_of_lt_of_le hj h.1.2.2.1
  obtain ⟨r1, r2, r3, r4⟩ := SRn_rows h j hj
  have e : (nI j).toNatClampNeg = j := nI_clamp (by omega)
  by_cases h0 : x < 0
  · rw [if_pos h0, if_pos rfl]
    unfold houseV
    have n : ∀ y : Int32, 0 ≤ y → ¬ x = y := fun y hy z => absurd h0 (by rw [z]; exact Int32.not_lt.mpr hy)
    rw [if_neg (n 0 (by decide)), if_neg (n 1 (by decide)), if_neg (n 2 (by decide)), if_neg (n 3 (by decide)), if_neg (n 4 (by decide)), if_neg (n 5 (by decide)), if_neg (n 6 (by decide)), if_neg (n 7 (by decide))]
  by_cases h7 : 7 < x
  · rw [if_neg h0, if_pos h7, if_pos rfl]
    unfold houseV
    have n : ∀ y : Int32, y ≤ 7 → ¬ x = y := fun y hy z => absurd h7 (by rw [z]; exact Int32.not_lt.mpr hy)
    rw [if_neg (n 0 (by decide)), if_neg (n 1 (by decide)), if_neg (n 2 (by decide)), if_neg (n 3 (by decide)), if_neg (n 4 (by decide)), if_neg (n 5 (by decide)), if_neg (n 6 (by decide)), if_neg (n 7 (by decide))]
  rw [if_neg h0, if_neg h7, if_neg (by decide)]
  unfold houseV mHouse
  rw [e, k.2.2.1.1, k.2.2.1.2, k.2.2.2.2.2.2.2.1 j hj8, ← k.2.2.2.2.1 j hj8, ← r1, ← r2, ← r3, ← r4]
  rcases i07 h0 h7 with rfl | rfl | rfl | rfl | rfl | rfl | rfl | rfl <;> rfl
