/-! THE DRAFTS OF A STREET, of object and model: one and the same -/
def mFx (o k : Nat) : Prop := (o = 44 ∧ ((4 ≤ k ∧ k ≤ 9) ∨ k = 19 ∨ k = 20 ∨ k = 21 ∨ k = 34)) ∨ (o = 46 ∧ 5 ≤ k ∧ k ≤ 9) ∨ (48 ≤ o ∧ o ≤ 51 ∧ 8 ≤ k ∧ k ≤ 15) ∨ ((o = 52 ∨ o = 53) ∧ (k = 2 ∨ k = 3)) ∨ (o = 54 ∧ 1000 ≤ k ∧ k < 2000) ∨ o = 55 ∨ o = 56
def mFS (S : Nat → Nat → Prop) (w w1 : zW) : Prop := w1.1 = w.1 ∧ zR w1 = zR w ∧ (∀ o k, ¬ S o k → zI w1 o k = zI w o k) ∧ ∀ o k, o ≠ 47 → ¬ (o = 44 ∧ k = 7) → zL w1 o k = zL w o k
abbrev mFR : zW → zW → Prop := mFS mFx
def s9 (o k : Nat) : Prop := o = 44 ∧ ((4 ≤ k ∧ k ≤ 9) ∨ k = 34)
theorem mFS_r (S : Nat → Nat → Prop) (w : zW) : mFS S w w := ⟨rfl, rfl, fun _ _ _ => rfl, fun _ _ _ _ => rfl⟩
theorem mFS_t {S : Nat → Nat → Prop} {w w1 w2 : zW} (h : mFS S w w1) (k : mFS S w1 w2) : mFS S w w2 := ⟨k.1.trans h.1, k.2.1.trans h.2.1, fun o i hi => (k.2.2.1 o i hi).trans (h.2.2.1 o i hi), fun o i h1 h2 => (k.2.2.2 o i h1 h2).trans (h.2.2.2 o i h1 h2)⟩
theorem mFS_m {S S2 : Nat → Nat → Prop} {w w1 : zW} (h : mFS S w w1) (hs : ∀ o k, S o k → S2 o k) : mFS S2 w w1 := ⟨h.1, h.2.1, fun o k hk => h.2.2.1 o k (fun z => hk (hs o k z)), h.2.2.2⟩
theorem mFS_9 {S : Nat → Nat → Prop} {w w1 : zW} (h : mF9 w w1) (hs : ∀ o k, s9 o k → S o k) : mFS S w w1 := by
  refine ⟨h.1, h.2.1, fun o k hk => ?_, fun o k h1 h2 => h.2.2.2.2 o k h2⟩
  by_cases z : o = 44
  · rw [z] at hk ⊢
    exact h.2.2.2.1 k (Decidable.byContradiction (fun y => hk (hs _ _ ⟨rfl, by omega⟩)))
  · exact congrFun (h.2.2.1 o z) k
theorem mFS_I {S : Nat → Nat → Prop} {w : zW} {o k : Nat} (x : Int32) (h : S o k) : mFS S w (zsI w o k x) := by
  refine ⟨rfl, rfl, fun a b hab => ?_, fun _ _ _ _ => rfl⟩
  show z2 (zI w) o k x a b = _
  unfold z2
  rw [if_neg (fun z => by obtain ⟨z1, z2⟩ := z; rw [z1, z2] at hab; exact hab h)]
theorem mFS_L {S : Nat → Nat → Prop} {w : zW} {k : Nat} (x : Int64) : mFS S w (zsL w 47 k x) := ⟨rfl, rfl, fun _ _ _ => rfl, fun o i h1 _ => by show z2 (zL w) 47 k x o i = _; unfold z2; rw [if_neg (fun z => h1 z.1)]⟩
def LB (Y : List Int32) (V : V4) : Prop := ∀ (f : Nat → Nat → Int32) (li a : Nat), a + Y.length ≤ 6000 → f 52 li = nI a → f 53 li = nI (a + Y.length) → (∀ i, i < Y.length → f 54 (a + i) = Y.getD i 0) → zCode f li V
def dL (w : zW) (F : Nat → Nat → Int32) (li L k j : Nat) (x0 : Int32) : Prop := (F 3 k = 0 ∧ zI w 52 li = nI 1000 ∧ zI w 53 li = nI 1000 ∧ F L 2 = 1 ∧ F (L + 1) 0 = x0) ∨ (F 3 k = 1 ∧ ∃ (a : Nat) (Y : List Int32) (V : V4), 1 ≤ Y.length ∧ 1000 ≤ a ∧ a + Y.length ≤ j ∧ zI w 52 li = nI a ∧ zI w 53 li = nI (a + Y.length) ∧ (∀ i, i < Y.length → zI w 54 (a + i) = Y.getD i 0) ∧ LB Y V ∧ zLaw F L (fun x y z => V (x - x / 24 * 24) (x / 24) y z))
theorem zLaw_c {f g : Nat → Nat → Int32} {L : Nat} {F : Int32 → Int32 → Int32 → Int32} (h : zLaw f L F) (e1 : g L 2 = f L 2) (e2 : g (L + 1) = f (L + 1)) : zLaw g L F := by
  obtain ⟨n, h1, h2, h3⟩ := h
  exact ⟨n, h1, e1.trans h2, fun x y z q => by rw [e2]; exact h3 x y z q⟩
theorem dL_c {w w1 : zW} {F F1 : Nat → Nat → Int32} {li L k j j1 : Nat} {x0 : Int32} (h : dL w F li L k j x0) (e1 : F1 3 k = F 3 k) (e2 : F1 L 2 = F L 2) (e3 : F1 (L + 1) = F (L + 1)) (e4 : zI w1 52 li = zI w 52 li) (e5 : zI w1 53 li = zI w 53 li) (e6 : ∀ i, 1000 ≤ i → i < j → zI w1 54 i = zI w 54 i) (hj : j ≤ j1) : dL w1 F1 li L k j1 x0 := by
  rcases h with ⟨a1, a2, a3, a4, a5⟩ | ⟨a1, a, Y, V, a2, a3, a4, a5, a6, a7, a8, a9⟩
  · exact Or.inl ⟨e1.trans a1, e4.trans a2, e5.trans a3, e2.trans a4, (congrFun e3 0).trans a5⟩
  · exact Or.inr ⟨e1.trans a1, a, Y, V, a2, a3, by omega, e4.trans a5, e5.trans a6, fun i hi => (e6 (a + i) (by omega) (by omega)).trans (a7 i hi), a8, zLaw_c a9 e2 e3⟩
def dHs (w : zW) (T : Nat → Int32) (s C R : Nat) (F : Nat → Nat → Int32) (N : Nat → Int64) (h : Nat) : Prop := (∃ c r : Nat, c < C ∧ r < R ∧ F (s + 1) h = nI c ∧ zI w 48 (8 + h) = nI c ∧ F (s + 2) h = nI r ∧ zI w 49 (8 + h) = nI r) ∧ zI w 50 (8 + h) = F (s + 3) h ∧ zI w 51 (8 + h) = F (s + 4) h ∧ ∃ a k, k ≤ 8 ∧ ltr T a k ∧ N h = keyC T a k ∧ zL w 47 h = keyM T a k
theorem dHs_c {w w1 : zW} {T : Nat → Int32} {s C R h : Nat} {F F1 : Nat → Nat → Int32} {N N1 : Nat → Int64} (k : dHs w T s C R F N h) (e1 : F1 (s + 1) h = F (s + 1) h) (e2 : F1 (s + 2) h = F (s + 2) h) (e3 : F1 (s + 3) h = F (s + 3) h) (e4 : F1 (s + 4) h = F (s + 4) h) (e5 : N1 h = N h) (g1 : zI w1 48 (8 + h) = zI w 48 (8 + h)) (g2 : zI w1 49 (8 + h) = zI w 49 (8 + h)) (g3 : zI w1 50 (8 + h) = zI w 50 (8 + h)) (g4 : zI w1 51 (8 + h) = zI w 51 (8 + h)) (g5 : zL w1 47 h = zL w 47 h) : dHs w1 T s C R F1 N1 h := by
  obtain ⟨⟨c, r, k1, k2, k3, k4, k5, k6⟩, k7, k8, a, b, k9, k10, k11, k12⟩ := k
  exact ⟨⟨c, r, k1, k2, e1.trans k3, g1.trans k4, e2.trans k5, g2.trans k6⟩, g3.trans (k7.trans e3.symm), g4.trans (k8.trans e4.symm), a, b, k9, k10, e5.trans k11, g5.trans k12⟩
def dC (w : zW) (F : Nat → Nat → Int32) : Prop := (F 3 10 = 0 ∨ F 3 10 = 1) ∧ (F 3 13 = 0 ∨ F 3 13 = 1) ∧ (F 3 14 = 0 ∨ F 3 14 = 1) ∧ zI w 44 20 = F 3 10 + 4 * F 3 13 + 8 * F 3 14
def DN (w : zW) (T : Nat → Int32) (s j C R H K U : Nat) (F : Nat → Nat → Int32) (N : Nat → Int64) : Prop := ((1 ≤ C ∧ C ≤ 12) ∧ (1 ≤ R ∧ R ≤ 12) ∧ H ≤ 8 ∧ K ≤ 99 ∧ U ≤ 10) ∧ (F s 7 = nI C ∧ F s 8 = nI R ∧ F s 9 = nI K ∧ F s 10 = nI U ∧ F s 11 = nI H) ∧ (zI w 46 5 = nI C ∧ zI w 46 6 = nI R ∧ zI w 46 7 = nI K ∧ zI w 46 8 = nI U ∧ zI w 46 9 = nI H) ∧ (∀ h, h < H → dHs w T s C R F N h) ∧ dC w F ∧ dL w F 2 (s + 6) 11 j 0 ∧ dL w F 3 (s + 9) 12 j (-3) ∧ 1000 ≤ j ∧ zI w 44 19 = nI j
def DR (w : zW) (T : Nat → Int32) (s j : Nat) (F : Nat → Nat → Int32) (N : Nat → Int64) : Prop := ∃ C R H K U, DN w T s j C R H K U F N
/-- a statement's end: the model's answer and world, told by the object's draft -/
def stP (T : Nat → Int32) (n s p : Nat) (w : zW) (D : rDt) (rv : Option Value) (w1 : zW) : Prop := mFR w w1 ∧ mRs w1 T n D.1 rv ∧ ∀ p1, D.1 = .inl p1 → p < p1 ∧ p1 ≤ n ∧ ∃ j, DR w1 T s j D.2.1 D.2.2 ∧ j ≤ 1000 + p1
theorem DR_9 {w w1 : zW} {T : Nat → Int32} {s j : Nat} {F : Nat → Nat → Int32} {N : Nat → Int64} (h : DR w T s j F N) (k : mFS s9 w w1) (h47 : zL w1 47 = zL w 47) : DR w1 T s j F N := by
  obtain ⟨C, R, H, K, U, a1, a2, a3, a4, a5, a6, a7, a8, a9⟩ := h
  have e : ∀ o i, ¬ s9 o i → zI w1 o i = zI w o i := k.2.2.1
  refine ⟨C, R, H, K, U, a1, a2, ⟨(e 46 5 (by unfold s9; omega)).trans a3.1, (e 46 6 (by unfold s9; omega)).trans a3.2.1, (e 46 7 (by unfold s9; omega)).trans a3.2.2.1, (e 46 8 (by unfold s9; omega)).trans a3.2.2.2.1, (e 46 9 (by unfold s9; omega)).trans a3.2.2.2.2⟩, fun h hh => ?_, ?_, ?_, ?_, a8, (e 44 19 (by unfold s9; omega)).trans a9⟩
  · exact dHs_c (a4 h hh) rfl rfl rfl rfl rfl (e _ _ (by unfold s9; omega)) (e _ _ (by unfold s9; omega)) (e _ _ (by unfold s9; omega)) (e _ _ (by unfold s9; omega)) (congrFun h47 h)
  · exact ⟨a5.1, a5.2.1, a5.2.2.1, (e 44 20 (by unfold s9; omega)).trans a5.2.2.2⟩
  · exact dL_c a6 rfl rfl rfl (e _ _ (by unfold s9; omega)) (e _ _ (by unfold s9; omega)) (fun i _ _ => e _ _ (by unfold s9; omega)) (Nat.le_refl _)
  · exact dL_c a7 rfl rfl rfl (e _ _ (by unfold s9; omega)) (e _ _ (by unfold s9; omega)) (fun i _ _ => e _ _ (by unfold s9; omega)) (Nat.le_refl _)
theorem numW_v {T : Nat → Int32} {n p p1 a b : Nat} (ha : a < 10000) (hb : b < 10000) (h : (numW T n (nI a) (nI b) (.inl p)).2 = .inl p1) : ∃ v : Nat, a ≤ v ∧ v ≤ b ∧ (numW T n (nI a) (nI b) (.inl p)).1 = nI v := by
  obtain ⟨-, h2, h3, -⟩ := numW_g h
  obtain ⟨v, hv, e⟩ := tkn_n (T := T) (n := n) (p := p) h2
  have e : tkn T n (.inl p) = nI v := e
  refine ⟨v, ?_, ?_, h3.trans e⟩
  · refine Nat.le_of_not_lt (fun z => ?_)
    unfold numW at h
    rw [if_pos h2, e, if_pos (nI_lt z (by omega))] at h
    exact wrg_g (show wrg T n 4 (.inl p) = .inl p1 from h)
  · refine Nat.le_of_not_lt (fun z => ?_)
    unfold numW at h
    rw [if_pos h2, e] at h
    by_cases y : nI v < nI a
    · rw [if_pos y] at h; exact wrg_g (show wrg T n 4 (.inl p) = .inl p1 from h)
    · rw [if_neg y, if_neg (nI_ge z (by omega))] at h; exact wrg_g (show wrg T n 4 (.inl p) = .inl p1 from h)
theorem numW_r {T : Nat → Int32} {n : Nat} {a b k : Int32} : (numW T n a b (.inr k)).2 = .inr k := by
  unfold numW
  rw [if_neg (by show ¬ (1 : Int32) = 2; decide)]
  rfl
theorem expW_r {T : Nat → Int32} {n c : Nat} {k : Int32} : expW T n (some c) (.inr k) = .inr k := by
  unfold expW
  rw [if_neg (by show ¬ (none : Option Nat) = some c; exact fun z => by cases z)]
  rfl
theorem kndS_r {T : Nat → Int32} {n : Nat} {k : Int32} : kndS T n (.inr k) = .inr k := by
  unfold kndS
  rw [if_pos (show kndO (tkw T n (.inr k)) = -1 from rfl)]
  rfl

theorem told_0 {w : zW} {F : Nat → Nat → Int32} (h : dC w F) : (if (zI w 44 20 >>> ((0 : Int32) &&& 31)) &&& 1 = 1 then 1 else 0 : Int32) = F 3 10 ∧ (F 3 10 = 0 → zI w 44 20 ||| (1 <<< ((0 : Int32) &&& 31)) = 1 + 4 * F 3 13 + 8 * F 3 14) := by
  obtain ⟨a | a, b | b, c | c, e⟩ := h <;> rw [e, a, b, c] <;> decide
theorem told_2 {w : zW} {F : Nat → Nat → Int32} (h : dC w F) : (if (zI w 44 20 >>> ((2 : Int32) &&& 31)) &&& 1 = 1 then 1 else 0 : Int32) = F 3 13 ∧ (F 3 13 = 0 → zI w 44 20 ||| (1 <<< ((2 : Int32) &&& 31)) = F 3 10 + 4 * 1 + 8 * F 3 14) := by
  obtain ⟨a | a, b | b, c | c, e⟩ := h <;> rw [e, a, b, c] <;> decide
theorem told_3 {w : zW} {F : Nat → Nat → Int32} (h : dC w F) : (if (zI w 44 20 >>> ((3 : Int32) &&& 31)) &&& 1 = 1 then 1 else 0 : Int32) = F 3 14 ∧ (F 3 14 = 0 → zI w 44 20 ||| (1 <<< ((3 : Int32) &&& 31)) = F 3 10 + 4 * F 3 13 + 8 * 1) := by
  obtain ⟨a | a, b | b, c | c, e⟩ := h <;> rw [e, a, b, c] <;> decide

theorem DN_field {w w1 : zW} {T : Nat → Int32} {s j C R H K U C2 R2 : Nat} {F : Nat → Nat → Int32} {N : Nat → Int64} (h : DN w T s j C R H K U F N) (hs : 3 < s) (hH0 : H = 0) (hC : 1 ≤ C2 ∧ C2 ≤ 12) (hR : 1 ≤ R2 ∧ R2 ≤ 12) (k : mFS (fun o k => s9 o k ∨ (o = 44 ∧ k = 20) ∨ (o = 46 ∧ (k = 5 ∨ k = 6))) w w1) (h47 : zL w1 47 = zL w 47) (g5 : zI w1 46 5 = nI C2) (g6 : zI w1 46 6 = nI R2) (g20 : zI w1 44 20 = 1 + 4 * (F 3 13) + 8 * (F 3 14)) : DN w1 T s j C2 R2 H K U (z2 (z2 (z2 F 3 10 1) s 7 (nI C2)) s 8 (nI R2)) N := by
  obtain ⟨a1, a2, a3, a4, a5, a6, a7, a8, a9⟩ := h
  have e : ∀ o i, ¬ (fun o k => s9 o k ∨ (o = 44 ∧ k = 20) ∨ (o = 46 ∧ (k = 5 ∨ k = 6))) o i → zI w1 o i = zI w o i := k.2.2.1
  refine ⟨by omega, ⟨(by rw [z2_nt _ _ (by omega), z2_at]), (by rw [z2_at]), (by rw [z2_nt _ _ (by omega), z2_nt _ _ (by omega), z2_nt _ _ (by omega)]; exact a2.2.2.1), (by rw [z2_nt _ _ (by omega), z2_nt _ _ (by omega), z2_nt _ _ (by omega)]; exact a2.2.2.2.1), (by rw [z2_nt _ _ (by omega), z2_nt _ _ (by omega), z2_nt _ _ (by omega)]; exact a2.2.2.2.2)⟩, ⟨g5, g6, ((e 46 7 (by unfold s9; omega)).trans a3.2.2.1), ((e 46 8 (by unfold s9; omega)).trans a3.2.2.2.1), ((e 46 9 (by unfold s9; omega)).trans a3.2.2.2.2)⟩, fun h hh => ?_, ⟨(Or.inr (by rw [z2_nt _ _ (by omega), z2_nt _ _ (by omega), z2_at])), (by rw [z2_nt _ _ (by omega), z2_nt _ _ (by omega), z2_nt _ _ (by omega)]; exact a5.2.1), (by rw [z2_nt _ _ (by omega), z2_nt _ _ (by omega), z2_nt _ _ (by omega)]; exact a5.2.2.1), ?_⟩, ?_, ?_, a8, (e 44 19 (by unfold s9; omega)).trans a9⟩
  · rw [hH0] at hh; exact absurd hh (Nat.not_lt_zero h)
  · rw [z2_nt _ _ (by omega), z2_nt _ _ (by omega), z2_at, z2_nt _ _ (by omega), z2_nt _ _ (by omega), z2_nt _ _ (by omega), z2_nt _ _ (by omega), z2_nt _ _ (by omega), z2_nt _ _ (by omega)]; exact g20
  · exact dL_c a6 (by rw [z2_nt _ _ (by omega), z2_nt _ _ (by omega), z2_nt _ _ (by omega)]) (by rw [z2_nt _ _ (by omega), z2_nt _ _ (by omega), z2_nt _ _ (by omega)]) (by rw [z2_ro _ _ _ (by omega), z2_ro _ _ _ (by omega), z2_ro _ _ _ (by omega)]) (e _ _ (by unfold s9; omega)) (e _ _ (by unfold s9; omega)) (fun i _ _ => e _ _ (by unfold s9; omega)) (Nat.le_refl _)
  · exact dL_c a7 (by rw [z2_nt _ _ (by omega), z2_nt _ _ (by omega), z2_nt _ _ (by omega)]) (by rw [z2_nt _ _ (by omega), z2_nt _ _ (by omega), z2_nt _ _ (by omega)]) (by rw [z2_ro _ _ _ (by omega), z2_ro _ _ _ (by omega), z2_ro _ _ _ (by omega)]) (e _ _ (by unfold s9; omega)) (e _ _ (by unfold s9; omega)) (fun i _ _ => e _ _ (by unfold s9; omega)) (Nat.le_refl _)
theorem DN_cold {w w1 : zW} {T : Nat → Int32} {s j C R H K U K2 : Nat} {F : Nat → Nat → Int32} {N : Nat → Int64} (h : DN w T s j C R H K U F N) (hs : 3 < s) (hK : K2 ≤ 99) (k : mFS (fun o k => s9 o k ∨ (o = 44 ∧ k = 20) ∨ (o = 46 ∧ (k = 7))) w w1) (h47 : zL w1 47 = zL w 47) (g7 : zI w1 46 7 = nI K2) (g20 : zI w1 44 20 = F 3 10 + 4 * 1 + 8 * (F 3 14)) : DN w1 T s j C R H K2 U (z2 (z2 F 3 13 1) s 9 (nI K2)) N := by
  obtain ⟨a1, a2, a3, a4, a5, a6, a7, a8, a9⟩ := h
  have e : ∀ o i, ¬ (fun o k => s9 o k ∨ (o = 44 ∧ k = 20) ∨ (o = 46 ∧ (k = 7))) o i → zI w1 o i = zI w o i := k.2.2.1
  refine ⟨by omega, ⟨(by rw [z2_nt _ _ (by omega), z2_nt _ _ (by omega)]; exact a2.1), (by rw [z2_nt _ _ (by omega), z2_nt _ _ (by omega)]; exact a2.2.1), (by rw [z2_at]), (by rw [z2_nt _ _ (by omega), z2_nt _ _ (by omega)]; exact a2.2.2.2.1), (by rw [z2_nt _ _ (by omega), z2_nt _ _ (by omega)]; exact a2.2.2.2.2)⟩, ⟨((e 46 5 (by unfold s9; omega)).trans a3.1), ((e 46 6 (by unfold s9; omega)).trans a3.2.1), g7, ((e 46 8 (by unfold s9; omega)).trans a3.2.2.2.1), ((e 46 9 (by unfold s9; omega)).trans a3.2.2.2.2)⟩, fun h hh => ?_, ⟨(by rw [z2_nt _ _ (by omega), z2_nt _ _ (by omega)]; exact a5.1), (Or.inr (by rw [z2_nt _ _ (by omega), z2_at])), (by rw [z2_nt _ _ (by omega), z2_nt _ _ (by omega)]; exact a5.2.2.1), ?_⟩, ?_, ?_, a8, (e 44 19 (by unfold s9; omega)).trans a9⟩
  · exact dHs_c (a4 h hh) (by rw [z2_nt _ _ (by omega), z2_nt _ _ (by omega)]) (by rw [z2_nt _ _ (by omega), z2_nt _ _ (by omega)]) (by rw [z2_nt _ _ (by omega), z2_nt _ _ (by omega)]) (by rw [z2_nt _ _ (by omega), z2_nt _ _ (by omega)]) rfl (e _ _ (by unfold s9; omega)) (e _ _ (by unfold s9; omega)) (e _ _ (by unfold s9; omega)) (e _ _ (by unfold s9; omega)) (congrFun h47 h)
  · rw [z2_nt _ _ (by omega), z2_nt _ _ (by omega), z2_nt _ _ (by omega), z2_at, z2_nt _ _ (by omega), z2_nt _ _ (by omega)]; exact g20
  · exact dL_c a6 (by rw [z2_nt _ _ (by omega), z2_nt _ _ (by omega)]) (by rw [z2_nt _ _ (by omega), z2_nt _ _ (by omega)]) (by rw [z2_ro _ _ _ (by omega), z2_ro _ _ _ (by omega)]) (e _ _ (by unfold s9; omega)) (e _ _ (by unfold s9; omega)) (fun i _ _ => e _ _ (by unfold s9; omega)) (Nat.le_refl _)
  · exact dL_c a7 (by rw [z2_nt _ _ (by omega), z2_nt _ _ (by omega)]) (by rw [z2_nt _ _ (by omega), z2_nt _ _ (by omega)]) (by rw [z2_ro _ _ _ (by omega), z2_ro _ _ _ (by omega)]) (e _ _ (by unfold s9; omega)) (e _ _ (by unfold s9; omega)) (fun i _ _ => e _ _ (by unfold s9; omega)) (Nat.le_refl _)
theorem DN_turn {w w1 : zW} {T : Nat → Int32} {s j C R H K U U2 : Nat} {F : Nat → Nat → Int32} {N : Nat → Int64} (h : DN w T s j C R H K U F N) (hs : 3 < s) (hU : U2 ≤ 10) (k : mFS (fun o k => s9 o k ∨ (o = 44 ∧ k = 20) ∨ (o = 46 ∧ (k = 8))) w w1) (h47 : zL w1 47 = zL w 47) (g8 : zI w1 46 8 = nI U2) (g20 : zI w1 44 20 = F 3 10 + 4 * (F 3 13) + 8 * 1) : DN w1 T s j C R H K U2 (z2 (z2 F 3 14 1) s 10 (nI U2)) N := by
  obtain ⟨a1, a2, a3, a4, a5, a6, a7, a8, a9⟩ := h
  have e : ∀ o i, ¬ (fun o k => s9 o k ∨ (o = 44 ∧ k = 20) ∨ (o = 46 ∧ (k = 8))) o i → zI w1 o i = zI w o i := k.2.2.1
  refine ⟨by omega, ⟨(by rw [z2_nt _ _ (by omega), z2_nt _ _ (by omega)]; exact a2.1), (by rw [z2_nt _ _ (by omega), z2_nt _ _ (by omega)]; exact a2.2.1), (by rw [z2_nt _ _ (by omega), z2_nt _ _ (by omega)]; exact a2.2.2.1), (by rw [z2_at]), (by rw [z2_nt _ _ (by omega), z2_nt _ _ (by omega)]; exact a2.2.2.2.2)⟩, ⟨((e 46 5 (by unfold s9; omega)).trans a3.1), ((e 46 6 (by unfold s9; omega)).trans a3.2.1), ((e 46 7 (by unfold s9; omega)).trans a3.2.2.1), g8, ((e 46 9 (by unfold s9; omega)).trans a3.2.2.2.2)⟩, fun h hh => ?_, ⟨(by rw [z2_nt _ _ (by omega), z2_nt _ _ (by omega)]; exact a5.1), (by rw [z2_nt _ _ (by omega), z2_nt _ _ (by omega)]; exact a5.2.1), (Or.inr (by rw [z2_nt _ _ (by omega), z2_at])), ?_⟩, ?_, ?_, a8, (e 44 19 (by unfold s9; omega)).trans a9⟩
  · exact dHs_c (a4 h hh) (by rw [z2_nt _ _ (by omega), z2_nt _ _ (by omega)]) (by rw [z2_nt _ _ (by omega), z2_nt _ _ (by omega)]) (by rw [z2_nt _ _ (by omega), z2_nt _ _ (by omega)]) (by rw [z2_nt _ _ (by omega), z2_nt _ _ (by omega)]) rfl (e _ _ (by unfold s9; omega)) (e _ _ (by unfold s9; omega)) (e _ _ (by unfold s9; omega)) (e _ _ (by unfold s9; omega)) (congrFun h47 h)
  · rw [z2_nt _ _ (by omega), z2_nt _ _ (by omega), z2_nt _ _ (by omega), z2_nt _ _ (by omega), z2_nt _ _ (by omega), z2_at]; exact g20
  · exact dL_c a6 (by rw [z2_nt _ _ (by omega), z2_nt _ _ (by omega)]) (by rw [z2_nt _ _ (by omega), z2_nt _ _ (by omega)]) (by rw [z2_ro _ _ _ (by omega), z2_ro _ _ _ (by omega)]) (e _ _ (by unfold s9; omega)) (e _ _ (by unfold s9; omega)) (fun i _ _ => e _ _ (by unfold s9; omega)) (Nat.le_refl _)
  · exact dL_c a7 (by rw [z2_nt _ _ (by omega), z2_nt _ _ (by omega)]) (by rw [z2_nt _ _ (by omega), z2_nt _ _ (by omega)]) (by rw [z2_ro _ _ _ (by omega), z2_ro _ _ _ (by omega)]) (e _ _ (by unfold s9; omega)) (e _ _ (by unfold s9; omega)) (fun i _ _ => e _ _ (by unfold s9; omega)) (Nat.le_refl _)
