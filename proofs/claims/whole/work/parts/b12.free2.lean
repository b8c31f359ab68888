/-! THE SAME ANSWERS: free, hour by hour -/
theorem price_n (k : Int32) : ∃ P : Nat, P ≤ 99 ∧ priceV k = nI P := by
  unfold priceV
  by_cases a : k = 1
  · rw [if_pos a]; exact ⟨1, by decide, rfl⟩
  rw [if_neg a]
  by_cases b : k = 2
  · rw [if_pos b]; exact ⟨3, by decide, rfl⟩
  · rw [if_neg b]; exact ⟨2, by decide, rfl⟩
theorem fr_loop {f : Nat → Nat → Int32} {s C R H K U N j P : Nat} {V : Int32 → Int32} {F G : Int32 → Int32 → Int32 → Int32} (h : SRn f s 0 C R H K U) (k : LR f 21 (f 67) H N) (hF : ∀ x y z, F x y z = V x) (hj : j < H) (hP : P ≤ 99) (eP : frL f j = nI P) (q : Int32 × Int32 × Int32) : ∀ (m t : Nat) (ah : Int32) (a b : Nat), t + m ≤ 24 → okv t a → okv t b → lastR ah (frQ f C R H V G j q t).2.2 → (frQ f C R H V G j q t).1 = enc a → (frQ f C R H V G j q t).2.1 = enc b → ∃ a2 : Nat, okv (t + m) a2 ∧ (frcT f s C R H F G (nI P) j m t ah (nI a, nI b)).1 = nI a2 ∧ (frQ f C R H V G j q (t + m)).1 = enc a2 := by
  intro m
  induction m with
  | zero =>
    intro t ah a b _ ha _ _ e1 _
    exact ⟨a, ha, rfl, e1⟩
  | succ m ih =>
    intro t ah a b ht ha hb hl e1 e2
    have hK := h.1.2.2.2.1
    have y8 := (yvO_l V (f 21 8 + nI t)).1
    obtain ⟨a2, b2, c1, c2, c3, c4, c5⟩ := frc_one (m := mset f C R (yvO V (f 21 8 + nI t)) G (f 21 8 + nI t) ((f 21 10 ||| bitI j) &&& (f 21 11 ^^^ (-1))) H j) hl y8 hK hP (by omega) ha hb
    have eK : f 46 2 = nI K := h.2.2.1.2.2.1
    have eM : frM f C R H V G j t = if mset f C R (yvO V (f 21 8 + nI t)) G (f 21 8 + nI t) ((f 21 10 ||| bitI j) &&& (f 21 11 ^^^ (-1))) H j = 0 then 0 else 1 := by
      unfold frM
      rw [LR_hour k, k.2.2.1.1, k.2.2.1.2]
    have eE : frE f j = if nI K < nI P then nI K else nI P := by
      unfold frE
      rw [eP, eK]
    have n1 : (frQ f C R H V G j q (t + 1)).1 = enc a2 := by
      rw [frQ, frS]
      show frZ (frM f C R H V G j t) (frA (frT (frQ f C R H V G j q t).2.2 (yvO V (f 67 138 + nI t))) (frQ f C R H V G j q t).1 (frQ f C R H V G j q t).2.1) (frE f j) (f 46 2) = _
      rw [eM, eE, eK, e1, e2, LR_hour k]
      exact c4
    have n2 : (frQ f C R H V G j q (t + 1)).2.1 = enc b2 := by
      rw [frQ, frS]
      show frN (frM f C R H V G j t) (frL f j) (frA (frT (frQ f C R H V G j q t).2.2 (yvO V (f 67 138 + nI t))) (frQ f C R H V G j q t).1 (frQ f C R H V G j q t).2.1) (frW (frB (frT (frQ f C R H V G j q t).2.2 (yvO V (f 67 138 + nI t))) (frQ f C R H V G j q t).2.1) (frE f j)) = _
      rw [eM, eE, eP, e1, e2, LR_hour k]
      exact c5
    have n3 : (frQ f C R H V G j q (t + 1)).2.2 = 1 + nI (yvO V (f 21 8 + nI t)) := by
      rw [frQ, frS]
      show 1 + nI (yvO V (f 67 138 + nI t)) = _
      rw [LR_hour k]
    obtain ⟨a3, d1, d2, d3⟩ := ih (t + 1) (nI (yvO V (f 21 8 + nI t))) a2 b2 (by omega) c1 c2 (Or.inr ⟨_, y8, rfl, n3⟩) n1 n2
    refine ⟨a3, ?_, ?_, ?_⟩
    · rw [show t + (m + 1) = t + 1 + m from by omega]; exact d1
    · rw [frcT, cyv_e hF, cset_m h hj, show f s 9 = nI K from h.2.1.2.2.1, c3]
      exact d2
    · rw [show t + (m + 1) = t + 1 + m from by omega]; exact d3
theorem an_free {f : Nat → Nat → Int32} {s C R H K U N : Nat} {V : Int32 → Int32} {F G : Int32 → Int32 → Int32 → Int32} (h : SRn f s 0 C R H K U) (k : LR f 21 (f 67) H N) (hF : ∀ x y z, F x y z = V x) (b x : Int32) : freeV f s C R H F G b x = if hOK H b = true then (if (if x < 1 then 0 else if 24 < x then 0 else 1 : Int32) = 0 then -1 else (frQ f C R H V G b.toNatClampNeg (if orN (wedTo (f 67) b.toNatClampNeg) 8 = 0 then 0 else -1, if orN (wedTo (f 67) b.toNatClampNeg) 8 = 0 then -1 else 0, f 67 139) x.toNatClampNeg).1) else -1 := by
  unfold freeV
  by_cases z : hOK H b = true
  · rw [if_pos z, if_pos z]
    by_cases x1 : x < 1
    · rw [if_pos x1, if_pos x1, if_pos rfl]
    rw [if_neg x1, if_neg x1]
    by_cases x2 : 24 < x
    · rw [if_neg (Int32.not_le.mpr x2), if_pos x2, if_pos rfl]
    rw [if_pos (Int32.not_lt.mp x2), if_neg x2, if_neg (show ¬ (1 : Int32) = 0 by decide)]
    obtain ⟨n, hn, rfl⟩ := nI_of2 (x := x) (M := 24) (n := 24) rfl (fun y => x1 (Int32.lt_trans y (by decide))) (Int32.not_lt.mp x2)
    obtain ⟨j, hj, rfl⟩ := hOK_of h.1.2.2.1 z
    have hj8 : j < 8 := Nat.lt_of_lt_of_le hj h.1.2.2.1
    rw [nI_clamp (show j < 2 ^ 31 by omega), nI_clamp (show n < 2 ^ 31 by omega)]
    obtain ⟨-, -, -, r4⟩ := SRn_rows h j hj
    have r4 : f (s + 4) j = f 51 j := r4
    have ew : f 22 j = orN (wedTo (f 67) j) 8 := k.2.2.2.2.1 j hj8
    have eL : (if (f 21 11 >>> (nI j &&& 31)) &&& 1 = 0 then priceV (f (s + 4) j) else f s 9) = frL f j := by
      unfold frL mbit
      rw [r4, k.2.2.1.2, show f s 9 = nI K from h.2.1.2.2.1, show f 46 2 = nI K from h.2.2.1.2.2.1]
      by_cases y : (f 21 11 >>> (nI j &&& 31)) &&& 1 = 0
      · rw [if_pos y, if_pos ((sh01 (by omega) _).mpr y)]
      · rw [if_neg y, if_neg (fun u => y ((sh01 (by omega) _).mp u))]
    obtain ⟨P, hP, eP⟩ : ∃ P : Nat, P ≤ 99 ∧ frL f j = nI P := by
      unfold frL
      split
      · exact price_n _
      · exact ⟨K, h.1.2.2.2.1, h.2.2.1.2.2.1⟩
    rw [eL, eP, ew]
    have hl : lastR (f 21 9) (f 67 139) := k.2.1
    have key : ∀ a b : Nat, okv 0 a → okv 0 b → (if 1000000 ≤ (frcT f s C R H F G (nI P) j n 0 (f 21 9) (nI a, nI b)).1 then -1 else (frcT f s C R H F G (nI P) j n 0 (f 21 9) (nI a, nI b)).1) = (frQ f C R H V G j (enc a, enc b, f 67 139) n).1 := fun a b ha hb => by
      obtain ⟨a2, c1, c2, c3⟩ := fr_loop h k hF hj hP eP (enc a, enc b, f 67 139) n 0 (f 21 9) a b (by omega) ha hb hl rfl rfl
      rw [Nat.zero_add] at c1 c3
      rw [c2, c3, show (1000000 : Int32) = nI 1000000 from rfl]
      rcases c1 with c1 | c1
      · rw [enc_lo (by omega), if_neg (Int32.not_le.mpr (show nI a2 < nI 1000000 from nI_lt (by omega) (by omega)))]
      · rw [enc_hi c1.1, if_pos (show nI 1000000 ≤ nI a2 from nI_le c1.1 (by omega))]
    by_cases y : orN (wedTo (f 67) j) 8 = 0
    · rw [if_pos y, if_pos y, if_pos y, if_pos y]
      exact key 0 1000000 (Or.inl (by omega)) (Or.inr (by omega))
    · rw [if_neg y, if_neg y, if_neg y, if_neg y]
      exact key 1000000 0 (Or.inr (by omega)) (Or.inl (by omega))
  · rw [if_neg z, if_neg z]
