/-! PARTS OF A LAW; and what a law that was read says to both -/
theorem isDg_n {c : Int32} (h : isDg c = true) : ∃ r : Nat, r ≤ 9 ∧ c = nI (48 + r) := by
  unfold isDg at h
  simp only [Bool.and_eq_true, Bool.not_eq_true', decide_eq_false_iff_not] at h
  have h0 : ¬ c < 0 := fun z => h.1 (Int32.lt_trans z (by decide))
  obtain ⟨j, hj, e⟩ := nI_of2 (M := 57) (n := 57) rfl h0 (Int32.not_lt.mp h.2)
  have h48 : 48 ≤ j := by
    have z : ¬ nI j < nI 48 := by rw [← e]; exact h.1
    exact Nat.le_of_not_lt (fun y => z (nI_lt y (by omega)))
  exact ⟨j - 48, by omega, by rw [e]; congr 1; omega⟩
theorem numV_n {T : Nat → Int32} {a : Nat} : ∀ k, k ≤ 4 → (∀ i, i < k → isDg (T (a + i)) = true) → ∃ v : Nat, v + 1 ≤ 10 ^ k ∧ numV T a k = nI v
  | 0, _, _ => ⟨0, Nat.le_refl _, rfl⟩
  | k + 1, hk, h => by
    obtain ⟨v, hv, e⟩ := numV_n k (by omega) (fun i hi => h i (by omega))
    obtain ⟨r, hr, e2⟩ := isDg_n (h k (by omega))
    refine ⟨v * 10 + r, by rw [Nat.pow_succ]; omega, ?_⟩
    show numV T a k * 10 + T (a + k) - 48 = _
    rw [e, e2]
    have e3 : nI v * 10 = nI (v * 10) := by
      show nI v * nI 10 = _
      rw [pk_mul]
    rw [e3, nI_add, show v * 10 + (48 + r) = (v * 10 + r) + 48 from by omega, ← nI_add]
    exact Int32.add_sub_cancel _ _
theorem tC_2 {T : Nat → Int32} {n p : Nat} (h2 : tC T n p = 2) : tBeg T n p < n ∧ tLen T n p ≤ 4 ∧ ∀ i, i < tLen T n p → isDg (T (tBeg T n p + i)) = true := by
  have hb : tBeg T n p < n := tC_lt (by rw [h2]; decide)
  have h1 := (t2_iff T n p).mpr h2
  unfold tM at h1
  rw [if_pos hb] at h1
  by_cases hl : isLt (T (tBeg T n p)) = true
  · rw [if_pos hl] at h1; split at h1 <;> exact absurd h1 (by decide)
  rw [if_neg hl] at h1
  by_cases hd : isDg (T (tBeg T n p)) = true
  · rw [if_pos hd] at h1
    by_cases hk : tLen T n p ≤ 4
    · refine ⟨hb, hk, fun i hi => ?_⟩
      have e1 : tEnd T n p = rn isDg T n (tBeg T n p) := by unfold tEnd; rw [if_pos hb, if_pos hd]
      unfold tLen at hi
      rw [e1] at hi
      exact rn_all (n := n) (p := tBeg T n p) (Nat.le_add_right _ _) (by omega)
    · rw [if_neg hk] at h1; exact absurd h1 (by decide)
  · rw [if_neg hd] at h1
    split at h1 <;> exact absurd h1 (by decide)
theorem tkn_n {T : Nat → Int32} {n p : Nat} (h2 : tC T n p = 2) : ∃ v : Nat, v ≤ 9999 ∧ numV T (tBeg T n p) (tLen T n p) = nI v := by
  obtain ⟨h1, h3, h4⟩ := tC_2 h2
  obtain ⟨v, hv, e⟩ := numV_n _ h3 h4
  refine ⟨v, ?_, e⟩
  have : 10 ^ tLen T n p ≤ 10 ^ 4 := Nat.pow_le_pow_right (by decide) h3
  omega
theorem fct_v {L M : Nat} {o : Option Nat} (h : ¬ fctO L M o = 0) : (∃ a, o = some a) ∧ ((0 - fctO L M o = 1 ∧ fctO L M o = -1) ∨ (0 - fctO L M o = 2 ∧ fctO L M o = -2) ∨ (0 - fctO L M o = 3 ∧ fctO L M o = -3) ∨ (0 - fctO L M o = 4 ∧ fctO L M o = -4)) := by
  refine ⟨?_, ?_⟩
  · cases o with
    | some a => exact ⟨a, rfl⟩
    | none =>
      refine absurd ?_ h
      unfold fctO
      rw [if_neg (by decide), if_neg (by decide)]
      split
      · rw [if_neg (by decide), if_neg (by decide)]
      · rfl
  · unfold fctO at h ⊢
    by_cases h1 : o = some 1000016
    · rw [if_pos h1]; exact Or.inl ⟨by decide, rfl⟩
    rw [if_neg h1] at h ⊢
    by_cases h2 : o = some 1000017
    · rw [if_pos h2]; exact Or.inr (Or.inl ⟨by decide, rfl⟩)
    rw [if_neg h2] at h ⊢
    by_cases h3 : L = M
    · rw [if_pos h3] at h ⊢
      by_cases h4 : o = some 1000007
      · rw [if_pos h4]; exact Or.inr (Or.inr (Or.inl ⟨by decide, rfl⟩))
      rw [if_neg h4] at h ⊢
      by_cases h5 : o = some 1000018
      · rw [if_pos h5]; exact Or.inr (Or.inr (Or.inr ⟨by decide, rfl⟩))
      rw [if_neg h5] at h
      exact absurd rfl h
    · rw [if_neg h3] at h
      exact absurd rfl h
theorem isO_lt {T : Nat → Int32} {n L s p : Nat} (h : isO T n L s p) : tBeg T n p < n := by
  rcases h with h | h | h | h
  · exact tC_lt (by rw [h]; decide)
  · exact tC_lt (by rw [h]; decide)
  · exact tW_lt h
  · obtain ⟨⟨a, e⟩, -⟩ := fct_v h
    exact tW_lt e
theorem SPart_leaf {T : Nat → Int32} {n L s p : Nat} (m : Nat) (h : isO T n L s p) (h40 : ¬ tC T n p = 40) (hN : ¬ tW T n p = some 1000013) : SPart (m + 1) [lfc T n L s p] [if tC T n p = 2 then numV T (tBeg T n p) (tLen T n p) else fctS T n L s (.inl p)] := by
  unfold lfc
  by_cases h2 : tC T n p = 2
  · rw [if_pos h2, if_pos h2]
    obtain ⟨v, hv, e⟩ := tkn_n h2
    rw [e, show (100 : Int32) + nI v = nI (100 + v) from nI_add 100 v]
    exact SPart_d hv
  · rw [if_neg h2, if_neg h2]
    have h4 : ¬ fctS T n L s (.inl p) = 0 := by
      rcases h with h | h | h | h
      · exact absurd h h2
      · exact absurd h h40
      · exact absurd h hN
      · exact h
    exact SPart_f (fct_v h4).2
theorem sim_part {T : Nat → Int32} {n L s : Nat} {H : aHt} {PE : Int32 → Prop} (hn : n ≤ 1000) (au : AU T n L s H PE) : ∀ m d, d + m = 5 → SIM n H PE (cPart T n L s m) d (fun op => pd op d) (fun _ _ => True) (agA d) (fun _ _ => True) (SPart m)
  | 0, d, hd => by
    obtain rfl : d = 5 := by omega
    intro p op cm Y X _ hp hE hG
    by_cases z : isO T n L s p
    · have zz : isOp T n L s (.inl p, X) = true := decide_eq_true z
      refine au.2.1 p op cm Y z (hE _ ?_)
      show (if isOp T n L s (.inl p, X) = true then qW T n 5 (.inl p, X) else qW T n 1 (.inl p, X)).1 = _
      rw [if_pos zz]; rfl
    · have zz : ¬ isOp T n L s (.inl p, X) = true := fun e => z (by
        have e : decide (tC T n p = 2 ∨ tC T n p = 40 ∨ tW T n p = some 1000013 ∨ ¬ fctS T n L s (.inl p) = 0) = true := e
        have r := of_decide_eq_true e
        exact r)
      refine au.1 p 5 op cm Y z (hE _ ?_)
      show (if isOp T n L s (.inl p, X) = true then qW T n 5 (.inl p, X) else qW T n 1 (.inl p, X)).1 = _
      rw [if_neg zz]; rfl
  | m + 1, d, hd => by
    have ihP := sim_part hn au m (d + 1) (by omega)
    have ihC := sim_choice hn au (sim_test au (sim_sum hn au (sim_prod hn au ihP)))
    intro p op cm Y X _ hp hE hG
    by_cases z : isO T n L s p
    · have zz : isOp T n L s (.inl p, X) = true := decide_eq_true z
      have hlt := isO_lt z
      have q3 := tEnd_lt hlt
      have q4 := tEnd_le (T := T) hp
      have q5 := tBeg_ge T n p
      by_cases h40 : tC T n p = 40
      · have eP : cPart T n L s (m + 1) (.inl p, X) = (expS T n 41 (cChoice T n (cPart T n L s m) (.inl (tEnd T n p), X)).1, (cChoice T n (cPart T n L s m) (.inl (tEnd T n p), X)).2) := by
          show (if isOp T n L s (.inl p, X) = true then (if tC T n p = 40 then _ else _) else _) = _
          rw [if_pos zz, if_pos h40]; rfl
        rw [eP] at hE hG
        refine au.2.2.1 p d op cm Y (by omega) h40 ?_
        refine ihC (tEnd T n p) (upd op (d + 1) 2) (upd cm (d + 1) 0) (Y ++ [28]) X ⟨?_, upd_at _ _ _⟩ q4 (fun j hj => hE j ?_) (fun p2 op2 cm2 Y2 Z2 e g1 g2 g3 gA gE gS => ?_)
        · show (if upd op (d + 1) 2 (d + 1) = 1 then _ else d + 1) = d + 1
          rw [upd_at, if_neg (by decide)]
        · show expS T n 41 (cChoice T n (cPart T n L s m) (.inl (tEnd T n p), X)).1 = _
          rw [hj]
          unfold expS
          rw [if_neg (by show ¬ (1 : Int32) = 41; decide)]
          rfl
        · rw [e] at hE hG
          by_cases h41 : tC T n p2 = 41
          · refine au.2.2.2.2.2.2.2.2.1 p2 d op2 cm2 (Y ++ [28] ++ Y2) h41 ?_
            have hl2 : tBeg T n p2 < n := tC_lt (by rw [h41]; decide)
            have r3 := tEnd_lt hl2
            have r4 := tEnd_le (T := T) g2
            have r5 := tBeg_ge T n p2
            have eS : expS T n 41 (.inl p2) = .inl (tEnd T n p2) := by
              unfold expS
              rw [if_pos (show tkc T n (.inl p2) = 41 from h41)]
              rfl
            have r := hG (tEnd T n p2) op2 cm2 (28 :: (Y2 ++ [29])) Z2 (by rw [eS]) (by omega) r4 (by omega) ⟨fun i hi => (gA.1 i (by omega)).trans (upd_nt op 2 (by omega)), fun i hi => (gA.2 i (by omega)).trans (upd_nt cm 0 (by omega))⟩ trivial (SPart_b gS)
            have e4 : Y ++ [28] ++ Y2 ++ [29] = Y ++ 28 :: (Y2 ++ [29]) := by simp
            rw [e4]
            exact r
          · refine au.2.2.2.2.2.2.2.2.2 p2 (d + 1) op2 cm2 (Y ++ [28] ++ Y2) gE (fun q => absurd q h41) (fun _ => by omega) (hE _ ?_)
            show expS T n 41 (.inl p2) = _
            unfold expS
            rw [if_neg (show ¬ tkc T n (.inl p2) = 41 from h41)]
            rfl
      · by_cases hN : tW T n p = some 1000013
        · have eP : cPart T n L s (m + 1) (.inl p, X) = qA (-5) (cPart T n L s m (.inl (tEnd T n p), X)) := by
            show (if isOp T n L s (.inl p, X) = true then (if tC T n p = 40 then _ else if tW T n p = some 1000013 then _ else _) else _) = _
            rw [if_pos zz, if_neg h40, if_pos hN]; rfl
          rw [eP] at hE hG
          refine au.2.2.2.1 p d op cm Y (by omega) hN ?_
          refine ihP (tEnd T n p) (upd op (d + 1) 1) (upd cm (d + 1) 0) (Y ++ [30]) X trivial q4 (fun j hj => hE j hj) (fun p2 op2 cm2 Y2 Z2 e g1 g2 g3 gA gE gS => ?_)
          rw [e] at hG
          have r := hG p2 op2 cm2 (30 :: Y2) (Z2 ++ [-5]) (by rw [adL_a]; rfl) (by omega) g2 (by simp only [List.length_append, List.length_cons, List.length_nil]; omega) ⟨fun i hi => (gA.1 i (by omega)).trans (upd_nt op 1 (by omega)), fun i hi => (gA.2 i (by omega)).trans (upd_nt cm 0 (by omega))⟩ trivial (SPart_n gS)
          have e4 : Y ++ [30] ++ Y2 = Y ++ 30 :: Y2 := by simp
          have e5 : pd op2 (d + 1) = pd op2 d := by
            show (if op2 (d + 1) = 1 then pd op2 d else d + 1) = _
            rw [gA.1 (d + 1) (Nat.le_refl _), upd_at, if_pos rfl]
          show H p2 (pd op2 (d + 1)) false op2 cm2 (Y ++ [30] ++ Y2)
          rw [e4, e5]
          exact r
        · have eP : cPart T n L s (m + 1) (.inl p, X) = (.inl (tEnd T n p), adL [if tC T n p = 2 then numV T (tBeg T n p) (tLen T n p) else fctS T n L s (.inl p)] X) := by
            show (if isOp T n L s (.inl p, X) = true then (if tC T n p = 40 then _ else if tW T n p = some 1000013 then _ else _) else _) = _
            rw [if_pos zz, if_neg h40, if_neg hN]; rfl
          refine au.2.2.2.2.1 p d op cm Y (by omega) z h40 hN ?_
          exact hG (tEnd T n p) op cm [lfc T n L s p] _ eP (by omega) q4 (by show 1 + p ≤ _; omega) ⟨fun _ _ => rfl, fun _ _ => rfl⟩ trivial (SPart_leaf m z h40 hN)
    · have zz : ¬ isOp T n L s (.inl p, X) = true := fun e => z (by
        have e : decide (tC T n p = 2 ∨ tC T n p = 40 ∨ tW T n p = some 1000013 ∨ ¬ fctS T n L s (.inl p) = 0) = true := e
        have r := of_decide_eq_true e
        exact r)
      refine au.1 p d op cm Y z (hE _ ?_)
      show (if isOp T n L s (.inl p, X) = true then _ else qW T n 1 (.inl p, X)).1 = _
      rw [if_neg zz]; rfl
theorem sim_law {T : Nat → Int32} {n L s : Nat} {H : aHt} {PE : Int32 → Prop} (hn : n ≤ 1000) (au : AU T n L s H PE) : SIM n H PE (cChoice T n (cPart T n L s 5)) 0 (fun _ => 0) (fun op cm => pd op 0 = 0 ∧ cm 0 = 0) (agB 0) (fun p cm => noO T n p 0 cm) (SChoice 5) :=
  sim_choice hn au (sim_test au (sim_sum hn au (sim_prod hn au (sim_part hn au 5 0 rfl))))
theorem adL_n : ∀ (Z : List Int32) (k : Nat) (g : Nat → Int32), k + Z.length ≤ 1000 → ∃ g2, adL Z (k, g) = (k + Z.length, g2) ∧ (∀ i, i < k → g2 i = g i) ∧ ∀ i, i < Z.length → g2 (k + i) = Z.getD i 0
  | [], _, g, _ => ⟨g, rfl, fun _ _ => rfl, fun i hi => absurd hi (Nat.not_lt_zero i)⟩
  | x :: Z, k, g, h => by
    have h : k + (Z.length + 1) ≤ 1000 := h
    obtain ⟨g2, e1, e2, e3⟩ := adL_n Z (k + 1) (upd g k x) (by omega)
    refine ⟨g2, ?_, fun i hi => (e2 i (by omega)).trans (upd_nt g x (by omega)), fun i hi => ?_⟩
    · show adL Z (adS x (k, g)) = (k + (Z.length + 1), g2)
      unfold adS
      rw [if_pos (by show k < 1000; omega)]
      rw [show k + (Z.length + 1) = k + 1 + Z.length from by omega]
      exact e1
    · cases i with
      | zero => exact (e2 k (by omega)).trans (upd_at g k x)
      | succ i =>
        have hi : i + 1 < Z.length + 1 := hi
        rw [show k + (i + 1) = k + 1 + i from by omega]
        exact e3 i (by omega)
theorem lrun_sh (x y z : Int32) (f : Nat → Int32) : ∀ (n : Nat) (q : Nat × (Nat → Int32)), lrun x y z f q (n + 1) = lrun x y z (fun i => f (i + 1)) (lstep x y z (f 0) q) n
  | 0, _ => rfl
  | n + 1, q => by
    show lstep x y z (f (n + 1)) (lrun x y z f q (n + 1)) = lstep x y z (f (n + 1)) (lrun x y z (fun i => f (i + 1)) (lstep x y z (f 0) q) n)
    rw [lrun_sh x y z f n q]
theorem lrun_L (x y z : Int32) : ∀ (Z : List Int32) (f : Nat → Int32) (q : Nat × (Nat → Int32)), (∀ i, i < Z.length → f i = Z.getD i 0) → lrun x y z f q Z.length = lsL x y z Z q
  | [], _, _, _ => rfl
  | c :: Z, f, q, h => by
    show lrun x y z f q (Z.length + 1) = lsL x y z Z (lstep x y z c q)
    rw [lrun_sh, lrun_L x y z Z (fun i => f (i + 1)) _ (fun i hi => h (i + 1) (by show i + 1 < Z.length + 1; omega)), show f 0 = c from h 0 (by show 0 < Z.length + 1; omega)]
theorem wkRun_L (cd : Nat → Int32) : ∀ (Y : List Int32) (a : Nat) (q : wkQ), (∀ i, i < Y.length → cd (a + i) = Y.getD i 0) → wkRun cd a Y.length q = wkL Y q ∧ (wkLO Y q → wkOK cd a Y.length q)
  | [], _, _, _ => ⟨rfl, fun _ => trivial⟩
  | c :: Y, a, q, h => by
    have e0 : cd a = c := h 0 (by show 0 < Y.length + 1; omega)
    obtain ⟨h1, h2⟩ := wkRun_L cd Y (a + 1) (wkStep c q) (fun i hi => by rw [show a + 1 + i = a + (i + 1) from by omega]; exact h (i + 1) (by show i + 1 < Y.length + 1; omega))
    refine ⟨?_, fun k => ?_⟩
    · show wkRun cd (a + 1) Y.length (wkStep (cd a) q) = wkL Y (wkStep c q)
      rw [e0]; exact h1
    · show wkGood (cd a) q.2 ∧ wkOK cd (a + 1) Y.length (wkStep (cd a) q)
      rw [e0]; exact ⟨k.1, h2 k.2⟩
theorem law_both {Y Z : List Int32} (h : SChoice 5 Y Z) : ∃ V : V4, (∀ (f : Nat → Nat → Int32) (L : Nat), f L 2 = nI Z.length → Z.length ≤ 1000 → (∀ i, i < Z.length → f (L + 1) i = Z.getD i 0) → zLaw f L (fun x y z => V (x - x / 24 * 24) (x / 24) y z)) ∧
    ∀ (f : Nat → Nat → Int32) (li a : Nat), a + Y.length ≤ 6000 → f 52 li = nI a → f 53 li = nI (a + Y.length) → (∀ i, i < Y.length → f 54 (a + i) = Y.getD i 0) → zCode f li V := by
  obtain ⟨V, hM, hP⟩ := h
  refine ⟨V, fun f L h1 h2 h3 => ⟨Z.length, h2, h1, fun x y z g => ?_⟩, fun f li a h1 h2 h3 h4 => ⟨a, Y.length, h1, h2, h3, fun g => ?_⟩⟩
  · rw [lrun_L x y z Z _ _ h3]
    obtain ⟨s2, e1, e2, -⟩ := hP x y z 0 g (by omega)
    rw [e1]
    exact e2
  · obtain ⟨w1, w2⟩ := wkRun_L (f 54) Y a (opensF g 0, 0) h4
    obtain ⟨a1, g2, a2, a3, a4, a5⟩ := hM (opensF g 0) 0 (by omega) (fun v => rfl) (by unfold opensF; rw [z2_nt _ _ (by omega), z2_nt _ _ (by omega), z2_nt _ _ (by omega), z2_nt _ _ (by omega), z2_at]) (by unfold opensF; rw [z2_nt _ _ (by omega), z2_nt _ _ (by omega), z2_nt _ _ (by omega), z2_at]) (by unfold opensF; rw [z2_nt _ _ (by omega), z2_nt _ _ (by omega), z2_at]) (by unfold opensF; rw [z2_nt _ _ (by omega), z2_at]) (by unfold opensF; rw [z2_at])
    refine ⟨w2 a1, ?_⟩
    rw [w1, a2]
    show testsF g2 0 57 0 = _
    rw [a5]
    exact fx_c (V := V) (opensF_o g 0 (o := 66) (by omega))
