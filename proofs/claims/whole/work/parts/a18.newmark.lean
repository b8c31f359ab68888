/-! A NEW MARK -/
theorem zN_i {w : zW} {a : Nat} (q : Nat × Nat) (ha : a < w.1.length) : zI (zN w q) a = zI w a := by
  show (if a = w.1.length then fun _ => 0 else zI w a) = _
  rw [if_neg (by omega)]
theorem zN_l {w : zW} {a : Nat} (q : Nat × Nat) (ha : a < w.1.length) : zL (zN w q) a = zL w a := by
  show (if a = w.1.length then fun _ => 0 else zL w a) = _
  rw [if_neg (by omega)]
def exF (w w1 : zW) (a : Nat) : Prop := zI w1 a = zI w a ∧ zL w1 a = zL w a ∧ ∀ b, zR w1 a b = zR w a b
theorem exF_t {w w1 w2 : zW} {a : Nat} (h : exF w w1 a) (k : exF w1 w2 a) : exF w w2 a := ⟨k.1.trans h.1, k.2.1.trans h.2.1, fun b => (k.2.2 b).trans (h.2.2 b)⟩
theorem exF_N {w : zW} {a : Nat} (q : Nat × Nat) (ha : a < w.1.length) : exF w (zN w q) a := ⟨zN_i q ha, zN_l q ha, fun b => zN_r q b ha⟩
theorem exF_R {w : zW} {a o k : Nat} (x : Option Nat) (h : a ≠ o) : exF w (zsR w o k x) a := ⟨rfl, rfl, fun b => by show z2 (zR w) o k x a b = _; unfold z2; rw [if_neg (fun e => h e.1)]⟩
theorem exF_u {w : zW} {a : Nat} {f : Nat → Nat → Int32} (h : f a = zI w a) : exF w (zuI w f) a := ⟨h, rfl, fun _ => rfl⟩
theorem exF_s {w : zW} {o k a : Nat} {q : Nat × Nat} (ha : a < w.1.length) (h : a ≠ o) : exF w (stp w o k q) a := exF_t (exF_N q ha) (exF_R _ h)
theorem exF_lwN {w : zW} {o k a : Nat} (ha : a < w.1.length) (h : a ≠ o) : exF w (lwN w o k) a := by
  have l1 : (zN w (0, 3)).1.length = w.1.length + 1 := zN_len w (0, 3)
  refine exF_t (exF_N (0, 3) ha) (exF_t (exF_s (w := zN w (0, 3)) (o := w.1.length) (k := 0) (q := (10, 1000)) (by omega) (by omega)) (exF_t (exF_s (w := stp (zN w (0, 3)) w.1.length 0 (10, 1000)) (o := w.1.length) (k := 1) (q := (10, 32)) (by rw [stp_len]; omega) (by omega)) ?_))
  exact exF_R _ h
theorem strW_len (w : zW) (o : Nat) : (strW w o).1.length = w.1.length + 11 := by
  unfold strW
  simp only [lwN_len, stp_len]
theorem strW_at {w : zW} {o a : Nat} {q : Nat × Nat} (h : w.1[a]? = some q) : (strW w o).1[a]? = some q := lwN_at (lwN_at (stp_at (stp_at (stp_at (stp_at (stp_at h))))))
theorem exF_str {w : zW} {o a : Nat} (ha : a < w.1.length) (h : a ≠ o) : exF w (strW w o) a := by
  unfold strW
  refine exF_t (exF_s ha h) (exF_t (exF_s (by rw [stp_len]; omega) h) (exF_t (exF_s (by simp only [stp_len]; omega) h) (exF_t (exF_s (by simp only [stp_len]; omega) h) (exF_t (exF_s (by simp only [stp_len]; omega) h) (exF_t (exF_lwN (by simp only [stp_len]; omega) h) (exF_lwN (by simp only [lwN_len, stp_len]; omega) h))))))
theorem lifeW_len (w : zW) (o : Nat) : (lifeW w o).1.length = w.1.length + 8 := by
  unfold lifeW
  simp only [stp_len]
theorem lifeW_at {w : zW} {o a : Nat} {q : Nat × Nat} (h : w.1[a]? = some q) : (lifeW w o).1[a]? = some q := stp_at (stp_at (stp_at (stp_at (stp_at (stp_at (stp_at (stp_at h)))))))
theorem exF_life {w : zW} {o a : Nat} (ha : a < w.1.length) (h : a ≠ o) : exF w (lifeW w o) a := by
  unfold lifeW
  refine exF_t (exF_s ha h) (exF_t (exF_s (by rw [stp_len]; omega) h) (exF_t (exF_s (by simp only [stp_len]; omega) h) (exF_t (exF_s (by simp only [stp_len]; omega) h) (exF_t (exF_s (by simp only [stp_len]; omega) h) (exF_t (exF_s (by simp only [stp_len]; omega) h) (exF_t (exF_s (by simp only [stp_len]; omega) h) (exF_s (by simp only [stp_len]; omega) h)))))))
theorem lifeB_lo {f : Nat → Nat → Int32} {l a : Nat} (h : a < l ∨ l + 9 ≤ a) : lifeB f l a = f a := by
  unfold lifeB
  rw [z2_ro _ _ _ (by omega), z2_ro _ _ _ (by omega), z2_ro _ _ _ (by omega), z2_ro _ _ _ (by omega), z2_ro _ _ _ (by omega), zr_o _ _ (by omega), zr_o _ _ (by omega), zr_o _ _ (by omega), zr_o _ _ (by omega), zr_o _ _ (by omega)]
theorem zSt_ex {w w1 : zW} {s : Nat} (h : zSt w s) (e1 : ∀ (a : Nat) (q : Nat × Nat), w.1[a]? = some q → w1.1[a]? = some q) (e2 : ∀ a b, s ≤ a → a < s + 12 → zR w1 a b = zR w a b) : zSt w1 s := by
  obtain ⟨a1, a2, a3, a4, a5, a6, b1, b2, b3, b4, b5, b6, b7, ⟨c1, c2, c3, c4, c5⟩, d1, d2, d3, d4, d5⟩ := h
  exact ⟨e1 _ _ a1, e1 _ _ a2, e1 _ _ a3, e1 _ _ a4, e1 _ _ a5, e1 _ _ a6, (e2 _ _ (by omega) (by omega)).trans b1, (e2 _ _ (by omega) (by omega)).trans b2, (e2 _ _ (by omega) (by omega)).trans b3, (e2 _ _ (by omega) (by omega)).trans b4, (e2 _ _ (by omega) (by omega)).trans b5, (e2 _ _ (by omega) (by omega)).trans b6, (e2 _ _ (by omega) (by omega)).trans b7, ⟨e1 _ _ c1, e1 _ _ c2, e1 _ _ c3, (e2 _ _ (by omega) (by omega)).trans c4, (e2 _ _ (by omega) (by omega)).trans c5⟩, e1 _ _ d1, e1 _ _ d2, e1 _ _ d3, (e2 _ _ (by omega) (by omega)).trans d4, (e2 _ _ (by omega) (by omega)).trans d5⟩
theorem zLf_R {w : zW} {l o k : Nat} {x : Option Nat} (h : zLf w l) (ho : o < l) : zLf (zsR w o k x) l := by
  have e : ∀ a b, o < a → zR (zsR w o k x) a b = zR w a b := fun a b ha => (exF_R (w := w) (o := o) (k := k) x (by omega)).2.2 b
  unfold zLf at *
  simp only [e l _ ho]
  exact h
def mrkP (w : zW) (o : Nat) (w1 : zW) : Prop := w1.1.length = o + 22 ∧ (∀ (a : Nat) (q : Nat × Nat), w.1[a]? = some q → w1.1[a]? = some q) ∧ (∀ a, a < o → exF w w1 a) ∧ zR w1 o 0 = some (o + 1) ∧ zR w1 o 1 = some (o + 13) ∧ zSt w1 (o + 1) ∧ zLf w1 (o + 13)
set_option maxRecDepth 100000 in
set_option maxHeartbeats 400000 in
theorem c_Mark_init {w : zW} {o : Nat} (h : w.1[o]? = some (2, 2)) (hl : o + 1 = w.1.length) (hn : w.1.length + 25 < 1000000) (d : Nat) (hd : 4 ≤ d) : zS 21 3461 d m_Mark_init (fun rv w1 => rv = none ∧ mrkP w o w1) 0 [(0, .ref o)] [] w := by
  have ho : o < w.1.length := (List.getElem?_eq_some_iff.mp h).1
  refine z_aload_n (pc := 0) (i := 0) (j := 0) rfl rfl rfl ?_
  refine z_obj (pc := 1) rfl ol_Mark_1 (by omega) (Nat.le_of_ble_eq_true rfl) ?_
  refine z_aload_n (pc := 4) (i := 0) (j := 0) rfl rfl rfl ?_
  refine z_new (M := m_Mark_init) (idx := 7) (mc := 20) (ms := 3449) (w := w) (pc := 5) (c0 := 5) rfl rfl nl_Mark_7 (by omega) (zVl_o (o := o) ho) ?_
  rw [show Value.ref w.1.length = Value.ref (o + 1) from by rw [hl]]
  have l1 : (zN w (5, 12)).1.length = o + 2 := by rw [zN_len]; omega
  have k1 : (zN w (5, 12)).1[o + 1]? = some (5, 12) := by show (w.1 ++ [(5, 12)])[o + 1]? = _; rw [hl]; simp
  have m1 : (zN w (5, 12)).1[o]? = some (2, 2) := zN_at h
  have hz1 := strW_z k1 (by omega)
  change zS _ _ _ _ _ _ _ [.ref (o + 1), .ref o] (zN w (5, 12))
  refine z_dup (pc := 8) rfl rfl ?_
  refine z_cI (pc := 9) (mc1 := 11) (ms1 := 2110) (mc2 := 9) (ms2 := 1339) (as := []) (rest := [.ref (o + 1), .ref o]) (o := o + 1) rfl ok_Street_init rfl rfl cl_Mark_9 (show 3 < d by omega) (Nat.le_of_ble_eq_true rfl) (Nat.le_of_ble_eq_true rfl) (Nat.le_refl _) (Nat.le_refl _) (c_Street_init (w := zN w (5, 12)) (o := o + 1) k1 (by omega) (by omega) 3 (by decide)) (fun r1 w1 hp => ?_) rfl rfl
  obtain ⟨rfl, hw1⟩ := hp
  have l2 : w1.1.length = o + 13 := by rw [hw1]; show (strW (zN w (5, 12)) (o + 1)).1.length = _; rw [strW_len, l1]
  have z2a : zSt w1 (o + 1) := by rw [hw1]; exact hz1
  have x2 : ∀ a, a < o + 1 → exF w w1 a := fun a ha => by
    rw [hw1]
    exact exF_t (exF_N _ (by omega)) (exF_t (exF_str (by omega) (by omega)) (exF_u (strB_o (Or.inl (by omega)))))
  have a2 : ∀ (a : Nat) (q : Nat × Nat), w.1[a]? = some q → w1.1[a]? = some q := fun a q hq => by rw [hw1]; exact strW_at (zN_at hq)
  clear hw1
  refine ⟨⟨by rw [l1, l2]; omega, Or.inr ⟨fun p hp => ?_, fun v hv => ?_⟩⟩, ?_⟩
  · rw [List.mem_singleton] at hp; subst hp; intro x hx; cases hx; exact Or.inl (by show _ < (zN w (5, 12)).1.length; rw [l1]; omega)
  · simp only [List.mem_cons, List.not_mem_nil, or_false] at hv; rcases hv with rfl | rfl <;> (intro x hx; cases hx; exact Or.inl (by show _ < (zN w (5, 12)).1.length; rw [l1]; omega))
  refine z_putRF (pc := 12) rfl fl_Mark_10 (a2 _ _ h) rfl (Or.inl (by omega)) rfl (fun q hq => by cases hq; rfl) ?_
  refine z_nmw (fun w3 hw3 => ?_)
  have l3 : w3.1.length = o + 13 := by rw [hw3]; exact l2
  have a3 : ∀ (a : Nat) (q : Nat × Nat), w.1[a]? = some q → w3.1[a]? = some q := fun a q hq => by rw [hw3]; exact a2 a q hq
  have x3 : ∀ a, a < o → exF w w3 a := fun a ha => by rw [hw3]; exact exF_t (x2 a (by omega)) (exF_R _ (by omega))
  have z3 : zSt w3 (o + 1) := by rw [hw3]; exact zSt_ex z2a (fun _ _ e => e) (fun a b h1 h2 => (exF_R (w := w1) (o := o) (k := 0) (some (o + 1)) (by omega)).2.2 b)
  have r3 : zR w3 o 0 = some (o + 1) := by rw [hw3]; exact zR_hit _ _ _ _
  clear hw3 x2 a2 z2a l2
  refine z_aload_n (pc := 15) (i := 0) (j := 0) rfl rfl rfl ?_
  refine z_new (M := m_Mark_init) (idx := 16) (mc := 8) (ms := 1326) (w := w3) (pc := 16) (c0 := 1) rfl rfl nl_Mark_16 (by omega) (zVl_o (o := o) (by omega)) ?_
  rw [show Value.ref w3.1.length = Value.ref (o + 13) from by rw [l3]]
  have l4 : (zN w3 (1, 13)).1.length = o + 14 := by rw [zN_len]; omega
  have k4 : (zN w3 (1, 13)).1[o + 13]? = some (1, 13) := by show (w3.1 ++ [(1, 13)])[o + 13]? = _; rw [← l3]; simp
  have hz4 := lifeW_z k4 (by omega)
  change zS _ _ _ _ _ _ _ [.ref (o + 13), .ref o] (zN w3 (1, 13))
  refine z_dup (pc := 19) rfl rfl ?_
  refine z_cI (pc := 20) (mc1 := 8) (ms1 := 1326) (mc2 := 0) (ms2 := 0) (as := []) (rest := [.ref (o + 13), .ref o]) (o := o + 13) rfl ok_Life_init rfl rfl cl_Mark_18 (show 2 < d by omega) (Nat.le_of_ble_eq_true rfl) (Nat.le_of_ble_eq_true rfl) (Nat.le_refl _) (Nat.le_refl _) (c_Life_init (w := zN w3 (1, 13)) (o := o + 13) k4 (by omega) (by omega) 2 (by decide)) (fun r1 w5 hp => ?_) rfl rfl
  obtain ⟨rfl, hw5⟩ := hp
  have l5 : w5.1.length = o + 22 := by rw [hw5]; show (lifeW (zN w3 (1, 13)) (o + 13)).1.length = _; rw [lifeW_len, l4]
  have a5 : ∀ (a : Nat) (q : Nat × Nat), w3.1[a]? = some q → w5.1[a]? = some q := fun a q hq => by rw [hw5]; exact lifeW_at (zN_at hq)
  have x5 : ∀ a, a < o + 13 → exF w3 w5 a := fun a ha => by
    rw [hw5]
    exact exF_t (exF_N _ (by omega)) (exF_t (exF_life (by omega) (by omega)) (exF_u (lifeB_lo (Or.inl (by omega)))))
  have zl5 : zLf w5 (o + 13) := by rw [hw5]; exact hz4
  clear hw5
  refine ⟨⟨by rw [l4, l5]; omega, Or.inr ⟨fun p hp => ?_, fun v hv => ?_⟩⟩, ?_⟩
  · rw [List.mem_singleton] at hp; subst hp; intro x hx; cases hx; exact Or.inl (by show _ < (zN w3 (1, 13)).1.length; rw [l4]; omega)
  · simp only [List.mem_cons, List.not_mem_nil, or_false] at hv; rcases hv with rfl | rfl <;> (intro x hx; cases hx; exact Or.inl (by show _ < (zN w3 (1, 13)).1.length; rw [l4]; omega))
  refine z_putRF (pc := 23) rfl fl_Mark_19 (a5 _ _ (a3 _ _ h)) rfl (Or.inl (by omega)) rfl (fun q hq => by cases hq; rfl) ?_
  refine z_vret (pc := 26) rfl rfl ⟨rfl, l5, fun a q hq => a5 _ _ (a3 _ _ hq), fun a ha => exF_t (x3 a ha) (exF_t (x5 a (by omega)) (exF_R _ (by omega))), ?_, zR_hit _ _ _ _, ?_, ?_⟩
  · show z2 (zR w5) o 1 _ o 0 = _
    unfold z2
    rw [if_neg (by omega), (x5 o (by omega)).2.2 0]
    exact r3
  · exact zSt_ex z3 a5 (fun a b h1 h2 => ((exF_R (w := w5) (o := o) (k := 1) (some (o + 13)) (by omega)).2.2 b).trans ((x5 a (by omega)).2.2 b))
  · exact zLf_R zl5 (by omega)
