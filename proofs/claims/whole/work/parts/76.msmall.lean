/-! THE MODEL'S SMALL STEPS, in the reader's words -/
theorem tLt {T : Nat → Int32} {n p : Nat} (h : tBeg T n p < n) (hl : isLt (T (tBeg T n p)) = true) : ltr T (tBeg T n p) (tLen T n p) := by
  have hd : ¬ isDg (T (tBeg T n p)) = true := fun z => dg_lt z hl
  have e1 : tEnd T n p = rn isLt T n (tBeg T n p) := by unfold tEnd; rw [if_pos h, if_neg hd, if_pos hl]
  intro i hi
  unfold tLen at hi
  rw [e1] at hi
  exact rn_all (n := n) (p := tBeg T n p) (Nat.le_add_right _ _) (by omega)
theorem t2_iff (T : Nat → Int32) (n p : Nat) : tM T n p = 2 ↔ tC T n p = 2 := by
  unfold tM tC
  by_cases h : tBeg T n p < n
  · rw [if_pos h, if_pos h]
    by_cases hl : isLt (T (tBeg T n p)) = true
    · have hd : ¬ isDg (T (tBeg T n p)) = true := fun z => dg_lt z hl
      rw [if_pos hl, if_neg hd, if_pos hl]
      split <;> decide
    · rw [if_neg hl]
      by_cases hd : isDg (T (tBeg T n p)) = true
      · rw [if_pos hd, if_pos hd]
        split <;> decide
      · rw [if_neg hd, if_neg hd, if_neg hl]
        by_cases hs : isSg (T (tBeg T n p)) = true
        · rw [if_pos hs, if_pos hs]
          unfold isSg at hs
          simp only [Bool.or_eq_true, decide_eq_true_eq] at hs
          rcases hs with ((((((q | q) | q) | q) | q) | q) | q) | q <;> rw [q] <;> decide
        · rw [if_neg hs, if_neg hs]; decide
  · rw [if_neg h, if_neg h] <;> decide
theorem t0_iff (T : Nat → Int32) (n p : Nat) : tM T n p = 0 ↔ tC T n p = 0 := by
  unfold tM tC
  by_cases h : tBeg T n p < n
  · rw [if_pos h, if_pos h]
    by_cases hl : isLt (T (tBeg T n p)) = true
    · have hd : ¬ isDg (T (tBeg T n p)) = true := fun z => dg_lt z hl
      rw [if_pos hl, if_neg hd, if_pos hl]
      split <;> decide
    · rw [if_neg hl]
      by_cases hd : isDg (T (tBeg T n p)) = true
      · rw [if_pos hd, if_pos hd]
        split <;> decide
      · rw [if_neg hd, if_neg hd, if_neg hl]
        by_cases hs : isSg (T (tBeg T n p)) = true
        · rw [if_pos hs, if_pos hs]
          unfold isSg at hs
          simp only [Bool.or_eq_true, decide_eq_true_eq] at hs
          rcases hs with ((((((q | q) | q) | q) | q) | q) | q) | q <;> rw [q] <;> decide
        · rw [if_neg hs, if_neg hs]; decide
  · rw [if_neg h, if_neg h] <;> decide
theorem t1_iff (T : Nat → Int32) (n p : Nat) : tM T n p = 1 ↔ tC T n p = 3 := by
  unfold tM tC
  by_cases h : tBeg T n p < n
  · rw [if_pos h, if_pos h]
    by_cases hl : isLt (T (tBeg T n p)) = true
    · have hd : ¬ isDg (T (tBeg T n p)) = true := fun z => dg_lt z hl
      rw [if_pos hl, if_neg hd, if_pos hl]
      split <;> decide
    · rw [if_neg hl]
      by_cases hd : isDg (T (tBeg T n p)) = true
      · rw [if_pos hd, if_pos hd]
        split <;> decide
      · rw [if_neg hd, if_neg hd, if_neg hl]
        by_cases hs : isSg (T (tBeg T n p)) = true
        · rw [if_pos hs, if_pos hs]
          unfold isSg at hs
          simp only [Bool.or_eq_true, decide_eq_true_eq] at hs
          rcases hs with ((((((q | q) | q) | q) | q) | q) | q) | q <;> rw [q] <;> decide
        · rw [if_neg hs, if_neg hs]; decide
  · rw [if_neg h, if_neg h] <;> decide
theorem sg_iff {T : Nat → Int32} {n p : Nat} {c : Int32} (hc : isSg c = true) : (tM T n p = 3 ∧ T (tBeg T n p) = c) ↔ tC T n p = c := by
  have hc4 : c ≠ 0 ∧ c ≠ 1 ∧ c ≠ 2 ∧ c ≠ 3 := by
    unfold isSg at hc
    simp only [Bool.or_eq_true, decide_eq_true_eq] at hc
    rcases hc with ((((((q | q) | q) | q) | q) | q) | q) | q <;> rw [q] <;> decide
  have n0 : ¬ (0 : Int32) = c := fun e => hc4.1 e.symm
  have n1 : ¬ (1 : Int32) = c := fun e => hc4.2.1 e.symm
  have n2 : ¬ (2 : Int32) = c := fun e => hc4.2.2.1 e.symm
  have n3 : ¬ (3 : Int32) = c := fun e => hc4.2.2.2 e.symm
  unfold tM tC
  by_cases h : tBeg T n p < n
  · rw [if_pos h, if_pos h]
    by_cases hl : isLt (T (tBeg T n p)) = true
    · have hd : ¬ isDg (T (tBeg T n p)) = true := fun z => dg_lt z hl
      rw [if_pos hl, if_neg hd, if_pos hl]
      split
      · simp [n3]
      · simp [n1]
    · rw [if_neg hl]
      by_cases hd : isDg (T (tBeg T n p)) = true
      · rw [if_pos hd, if_pos hd]
        split
        · simp [n2]
        · simp [n1]
      · rw [if_neg hd, if_neg hd, if_neg hl]
        by_cases hs : isSg (T (tBeg T n p)) = true
        · rw [if_pos hs, if_pos hs]; simp
        · rw [if_neg hs, if_neg hs]; simp [n1]
  · rw [if_neg h, if_neg h]; simp [n0]
theorem kM_le {T : Nat → Int32} {a k : Nat} (h : k ≤ 8) : kM T a k = keyM T a k := by unfold kM; rw [if_pos h]
theorem t1_w {T : Nat → Int32} {n p : Nat} (h1 : tM T n p = 1) : tBeg T n p < n ∧ isLt (T (tBeg T n p)) = true ∧ tLen T n p ≤ 8 ∧ tWd T n p = keyM T (tBeg T n p) (tLen T n p) ∧ tW T n p = wOf (keyC T (tBeg T n p) (tLen T n p)) := by
  unfold tM at h1
  by_cases h : tBeg T n p < n
  · rw [if_pos h] at h1
    by_cases hl : isLt (T (tBeg T n p)) = true
    · have hd : ¬ isDg (T (tBeg T n p)) = true := fun z => dg_lt z hl
      rw [if_pos hl] at h1
      by_cases hk : tLen T n p ≤ 8
      · refine ⟨h, hl, hk, ?_, ?_⟩
        · unfold tWd; rw [if_pos ⟨h, hl⟩, kM_le hk]
        · unfold tW; rw [if_pos h, if_neg hd, if_pos hl, if_pos hk]
      · rw [if_neg hk] at h1; exact absurd h1 (by decide)
    · rw [if_neg hl] at h1
      (repeat' split at h1) <;> exact absurd h1 (by decide)
  · rw [if_neg h] at h1; exact absurd h1 (by decide)
theorem tW_3 {T : Nat → Int32} {n p a : Nat} (h : tW T n p = some a) : tC T n p = 3 := by
  unfold tW at h
  unfold tC
  split at h
  · next h1 =>
    rw [if_pos h1]
    split at h
    · cases h
    · next h2 =>
      rw [if_neg h2]
      split at h
      · next h3 =>
        rw [if_pos h3]
        split at h
        · next h4 => rw [if_pos h4]
        · cases h
      · cases h
  · cases h
theorem wd_iff {T : Nat → Int32} {n p i : Nat} (hi : i < 19) : (tM T n p = 1 ∧ tWd T n p = zkM.getD i 0) ↔ tW T n p = some (1000000 + i) := by
  constructor
  · rintro ⟨h1, h2⟩
    obtain ⟨a1, a2, a3, a4, a5⟩ := t1_w h1
    rw [a5, wOf_iff hi, word_iff hi a3 (tLt a1 a2), ← a4]
    exact h2
  · intro h
    have h1 := (t1_iff T n p).mpr (tW_3 h)
    obtain ⟨a1, a2, a3, a4, a5⟩ := t1_w h1
    refine ⟨h1, ?_⟩
    rw [a4, ← word_iff hi a3 (tLt a1 a2), ← wOf_iff hi, ← a5]
    exact h
theorem tTo_n {T : Nat → Int32} {n p : Nat} (h2 : tC T n p = 2) : tTo T n p = numV T (tBeg T n p) (tLen T n p) := by
  have h1 := (t2_iff T n p).mpr h2
  unfold tM at h1
  by_cases h : tBeg T n p < n
  · rw [if_pos h] at h1
    by_cases hl : isLt (T (tBeg T n p)) = true
    · rw [if_pos hl] at h1
      split at h1 <;> exact absurd h1 (by decide)
    · rw [if_neg hl] at h1
      by_cases hd : isDg (T (tBeg T n p)) = true
      · rw [if_pos hd] at h1
        by_cases hk : tLen T n p ≤ 4
        · unfold tTo; rw [if_pos ⟨h, hl, hd⟩]; unfold nM; rw [if_pos hk]
        · rw [if_neg hk] at h1; exact absurd h1 (by decide)
      · rw [if_neg hd] at h1
        split at h1 <;> exact absurd h1 (by decide)
  · rw [if_neg h] at h1; exact absurd h1 (by decide)
def mRs (w : zW) (T : Nat → Int32) (n : Nat) (q : Nat ⊕ Int32) (rv : Option Value) : Prop := (∀ p, q = .inl p → rv = some (.int 1) ∧ mS w T n p) ∧ (∀ k, q = .inr k → rv = some (.int 0) ∧ zI w 44 9 = k)
theorem mRs_l {w : zW} {T : Nat → Int32} {n p : Nat} (h : mS w T n p) : mRs w T n (.inl p) (some (.int 1)) := ⟨fun _ e => by cases e; exact ⟨rfl, h⟩, fun _ e => by cases e⟩
theorem mRs_r {w : zW} {T : Nat → Int32} {n : Nat} {k : Int32} (h : zI w 44 9 = k) : mRs w T n (.inr k) (some (.int 0)) := ⟨fun _ e => (by cases e), fun _ e => by cases e; exact ⟨rfl, h⟩⟩
def mF9 (w w1 : zW) : Prop := w1.1 = w.1 ∧ zR w1 = zR w ∧ (∀ o, o ≠ 44 → zI w1 o = zI w o) ∧ (∀ k, k < 4 ∨ (9 < k ∧ k ≠ 34) → zI w1 44 k = zI w 44 k) ∧ (∀ o k, ¬ (o = 44 ∧ k = 7) → zL w1 o k = zL w o k)
theorem mF9_r (w : zW) : mF9 w w := ⟨rfl, rfl, fun _ _ => rfl, fun _ _ => rfl, fun _ _ _ => rfl⟩
theorem mF9_t {w w1 w2 : zW} (h : mF9 w w1) (k : mF9 w1 w2) : mF9 w w2 := ⟨k.1.trans h.1, k.2.1.trans h.2.1, fun o ho => (k.2.2.1 o ho).trans (h.2.2.1 o ho), fun j hj => (k.2.2.2.1 j hj).trans (h.2.2.2.1 j hj), fun o j hj => (k.2.2.2.2 o j hj).trans (h.2.2.2.2 o j hj)⟩
theorem mF9_F {w w1 : zW} (h : mF w w1) : mF9 w w1 := ⟨h.1, h.2.1, h.2.2.1, fun k hk => h.2.2.2.1 k (by omega), h.2.2.2.2⟩
theorem mF9_I {w : zW} {k : Nat} (x : Int32) (h : k = 9 ∨ k = 34) : mF9 w (zsI w 44 k x) := ⟨rfl, rfl, fun o ho => z2_off _ _ _ ho, fun j hj => z2_k (zI w) 44 (k := k) (b := j) x (by omega), fun _ _ _ => rfl⟩
theorem mK_9 {w w1 : zW} {n : Nat} {T : Nat → Int32} (h : mK w n T) (k : mF9 w w1) : mK w1 n T := ⟨zMo_mv h.1 k.1 k.2.1, (k.2.2.2.1 3 (by decide)).trans h.2.1, h.2.2.1, (k.2.2.1 45 (by decide)).trans h.2.2.2.1, h.2.2.2.2⟩
theorem mS_I {w : zW} {T : Nat → Int32} {n p k : Nat} (h : mS w T n p) (hk : k < 4 ∨ 8 < k) (x : Int32) : mS (zsI w 44 k x) T n p := by
  have e : ∀ j, 4 ≤ j ∧ j ≤ 8 → zI (zsI w 44 k x) 44 j = zI w 44 j := fun j hj => z2_k (zI w) 44 (k := k) (b := j) x (by omega)
  exact ⟨(e 4 (by decide)).trans h.1, (e 5 (by decide)).trans h.2.1, (e 6 (by decide)).trans h.2.2.1, h.2.2.2.1, (e 8 (by decide)).trans h.2.2.2.2.1, h.2.2.2.2.2⟩
theorem c_wd {w : zW} {n p i : Nat} {T : Nat → Int32} (hk : mK w n T) (hS : mS w T n p) (hi : i < 19) {x : Int64} (hx : zkM.getD i 0 = x) (d : Nat) : zS 0 0 d m_Mod_isWord (fun rv w1 => rv = some (.int (if tW T n p = some (1000000 + i) then 1 else 0)) ∧ w1 = w) 0 [(0, .ref 44), (1, .long x)] [] w := by
  refine z_mono ?_ (c_Mod_isWord hk.1 x d)
  intro r w1 h
  refine ⟨h.1.trans ?_, h.2⟩
  rw [hS.2.2.1, hS.2.2.2.1]
  by_cases z : tW T n p = some (1000000 + i)
  · have y := (wd_iff hi).mpr z
    rw [if_pos z, if_pos y.1, if_pos ((lg_cmp_eq _ _).mpr (y.2.trans hx))]
  · rw [if_neg z]
    by_cases y : tM T n p = 1
    · rw [if_pos y, if_neg (fun e => z ((wd_iff hi).mp ⟨y, ((lg_cmp_eq _ _).mp e).trans hx.symm⟩))]
    · rw [if_neg y]
set_option maxRecDepth 100000 in
set_option maxHeartbeats 4000000 in
theorem c_Mod_isSign {w : zW} {n : Nat} {T : Nat → Int32} (hk : mK w n T) {p : Nat} (hS : mS w T n p) {c : Int32} (hc : isSg c = true) (d : Nat) : zS 0 0 d m_Mod_isSign (fun rv w1 => rv = some (.int (if tC T n p = c then 1 else 0)) ∧ w1 = w) 0 [(0, .ref 44), (1, .int c)] [] w := by
  refine z_aload_n (pc := 0) (i := 0) (j := 0) rfl rfl rfl ?_
  refine z_getI (pc := 1) rfl fl_Mod_125 hk.1.1 rfl ?_
  refine z_eqi (y := tM T n p) hS.2.2.1 ?_
  refine z_iconst (pc := 4) (v := 3) rfl (by decide) ?_
  refine z_icmp_ne (pc := 5) (tgt := 25) rfl (by decide) (fun h5 => ?_) (fun h5 => ?_)
  · refine z_iconst (pc := 25) (v := 0) rfl (by decide) ?_
    exact z_zret (pc := 26) rfl rfl (by decide) ⟨by rw [if_neg (fun e => h5 ((sg_iff hc).mpr e).1)], rfl⟩
  · have hB : tBeg T n p < 1000 := by
      have z : tBeg T n p < n := Decidable.byContradiction (fun z => absurd h5 (by unfold tM; rw [if_neg z]; decide))
      have := hk.2.2.1; omega
    refine z_aload_n (pc := 8) (i := 0) (j := 0) rfl rfl rfl ?_
    refine z_getR (pc := 9) (x := 45) rfl fl_Mod_7 hk.1.1 rfl (mr_45 hk.1) ?_
    refine z_aload_n (pc := 12) (i := 0) (j := 0) rfl rfl rfl ?_
    refine z_getI (pc := 13) rfl fl_Mod_115 hk.1.1 rfl ?_
    refine z_eqi (y := nI (tBeg T n p)) hS.2.1 ?_
    refine z_iald (pc := 16) rfl (mk_45 hk.1) (vp_in_nI (n := tBeg T n p) (N := 1000) hB (by decide)) ?_
    refine z_eqi (y := T (tBeg T n p)) (by rw [nI_clamp (by omega), hk.2.2.2.1]) ?_
    refine z_iload_n (pc := 17) (i := 1) (j := 1) rfl rfl rfl ?_
    refine z_icmp_ne (pc := 18) (tgt := 25) rfl (by decide) (fun h18 => ?_) (fun h18 => ?_)
    · refine z_iconst (pc := 25) (v := 0) rfl (by decide) ?_
      exact z_zret (pc := 26) rfl rfl (by decide) ⟨by rw [if_neg (fun e => h18 ((sg_iff hc).mpr e).2)], rfl⟩
    · refine z_iconst (pc := 21) (v := 1) rfl (by decide) ?_
      refine z_goto (pc := 22) (tgt := 26) rfl (by decide) ?_
      exact z_zret (pc := 26) rfl rfl (by decide) ⟨by rw [if_pos ((sg_iff hc).mp ⟨h5, h18⟩)], rfl⟩
set_option maxRecDepth 100000 in
set_option maxHeartbeats 4000000 in
theorem c_Mod_fails {w : zW} {n : Nat} {T : Nat → Int32} (hk : mK w n T) {p : Nat} (hS : mS w T n p) (k : Int32) (d : Nat) : zS 0 0 d m_Mod_fails (fun rv w1 => rv = some (.int 0) ∧ w1 = zsI w 44 9 (k + (16 * nI (tBeg T n p)))) 0 [(0, .ref 44), (1, .int k)] [] w := by
  refine z_aload_n (pc := 0) (i := 0) (j := 0) rfl rfl rfl ?_
  refine z_iload_n (pc := 1) (i := 1) (j := 1) rfl rfl rfl ?_
  refine z_bipush (pc := 2) (v := 16) rfl (by decide) ?_
  refine z_aload_n (pc := 4) (i := 0) (j := 0) rfl rfl rfl ?_
  refine z_getI (pc := 5) rfl fl_Mod_115 hk.1.1 rfl ?_
  refine z_eqi (y := nI (tBeg T n p)) hS.2.1 ?_
  refine z_imul (pc := 8) rfl ?_
  refine z_iadd (pc := 9) rfl ?_
  refine z_putI (pc := 10) rfl fl_Mod_136 hk.1.1 rfl  ?_
  refine z_iconst (pc := 13) (v := 0) rfl (by decide) ?_
  exact z_zret (pc := 14) rfl rfl (by decide) ⟨rfl, rfl⟩
set_option maxRecDepth 100000 in
set_option maxHeartbeats 4000000 in
theorem c_Mod_puts {w : zW} {n : Nat} {T : Nat → Int32} (hk : mK w n T) {j : Nat} (hj : zI w 44 19 = nI j) (hj6 : j < 6000) (c : Int32) (d : Nat) : zS 0 0 d m_Mod_puts (fun rv w1 => rv = none ∧ w1 = zsI (zsI w 54 j c) 44 19 (nI (j + 1))) 0 [(0, .ref 44), (1, .int c)] [] w := by
  refine z_aload_n (pc := 0) (i := 0) (j := 0) rfl rfl rfl ?_
  refine z_getR (pc := 1) (x := 54) rfl fl_Mod_38 hk.1.1 rfl (mr_54 hk.1) ?_
  refine z_aload_n (pc := 4) (i := 0) (j := 0) rfl rfl rfl ?_
  refine z_getI (pc := 5) rfl fl_Mod_139 hk.1.1 rfl ?_
  refine z_eqi (y := nI j) hj ?_
  refine z_iload_n (pc := 8) (i := 1) (j := 1) rfl rfl rfl ?_
  refine z_iast (pc := 9) rfl (mk_54 hk.1) (vp_in_nI (n := j) (N := 6000) hj6 (by decide)) ?_
  refine z_aload_n (pc := 10) (i := 0) (j := 0) rfl rfl rfl ?_
  refine z_dup (pc := 11) rfl rfl ?_
  refine z_getI (pc := 12) rfl fl_Mod_139 hk.1.1 rfl ?_
  refine z_eqi (y := nI j) hj ?_
  refine z_iconst (pc := 15) (v := 1) rfl (by decide) ?_
  refine z_iadd (pc := 16) rfl ?_
  refine z_eqi (y := nI (j + 1)) (nI_1 j) ?_
  refine z_putI (pc := 17) rfl fl_Mod_139 hk.1.1 rfl  ?_
  exact z_vret (pc := 20) rfl rfl ⟨rfl, by rw [nI_clamp (n := j) (by omega)]⟩
set_option maxRecDepth 100000 in
set_option maxHeartbeats 4000000 in
theorem c_Mod_needsNumber {w : zW} {n : Nat} {T : Nat → Int32} (hk : mK w n T) {p : Nat} (hS : mS w T n p) (a b : Int32) (d : Nat) (hd : 2 ≤ d) : zS 0 0 d m_Mod_needsNumber (fun rv w1 => mF9 w w1 ∧ mRs w1 T n (numW T n a b (.inl p)).2 rv ∧ ∀ p1, (numW T n a b (.inl p)).2 = .inl p1 → zI w1 44 34 = (numW T n a b (.inl p)).1) 0 [(0, .ref 44), (1, .int a), (2, .int b)] [] w := by
  refine z_aload_n (pc := 0) (i := 0) (j := 0) rfl rfl rfl ?_
  refine z_getI (pc := 1) rfl fl_Mod_125 hk.1.1 rfl ?_
  refine z_eqi (y := tM T n p) hS.2.2.1 ?_
  refine z_iconst (pc := 4) (v := 2) rfl (by decide) ?_
  refine z_icmp_eq (pc := 5) (tgt := 14) rfl (by decide) (fun h5 => ?_) (fun h5 => ?_)
  · refine z_aload_n (pc := 14) (i := 0) (j := 0) rfl rfl rfl ?_
    refine z_getI (pc := 15) rfl fl_Mod_122 hk.1.1 rfl ?_
    refine z_eqi (y := numV T (tBeg T n p) (tLen T n p)) (hS.2.2.2.2.1.trans (tTo_n ((t2_iff T n p).mp h5))) ?_
    refine z_iload_n (pc := 18) (i := 1) (j := 1) rfl rfl rfl ?_
    refine z_iload_n (pc := 19) (i := 2) (j := 2) rfl rfl rfl ?_
    refine z_cS (pc := 20) (mc1 := 0) (ms1 := 0) (mc2 := 0) (ms2 := 0) (as := [.int (numV T (tBeg T n p) (tLen T n p)), .int a, .int b]) (rest := []) ok_Mod_within rfl rfl cl_Mod_214 (by omega) (Nat.le_of_ble_eq_true rfl) (Nat.le_of_ble_eq_true rfl) (Nat.le_refl _) (Nat.le_refl _) (c_Mod_within (numV T (tBeg T n p) (tLen T n p)) a b 0 _) (fun r1 w1 hp => ?_) rfl rfl
    obtain ⟨rfl, hw1⟩ := hp
    rw [hw1]
    refine ⟨⟨Nat.le_refl _, Or.inl rfl⟩, ?_⟩
    refine z_if_ne (pc := 23) (tgt := 32) rfl (by decide) (fun h23 => ?_) (fun h23 => ?_)
    · refine z_aload_n (pc := 32) (i := 0) (j := 0) rfl rfl rfl ?_
      refine z_aload_n (pc := 33) (i := 0) (j := 0) rfl rfl rfl ?_
      refine z_getI (pc := 34) rfl fl_Mod_122 hk.1.1 rfl ?_
      refine z_eqi (y := numV T (tBeg T n p) (tLen T n p)) (hS.2.2.2.2.1.trans (tTo_n ((t2_iff T n p).mp h5))) ?_
      refine z_putI (pc := 37) rfl fl_Mod_218 hk.1.1 rfl  ?_
      refine z_aload_n (pc := 40) (i := 0) (j := 0) rfl rfl rfl ?_
      refine z_cV (pc := 41) (mc1 := 0) (ms1 := 0) (mc2 := 0) (ms2 := 0) (as := []) (rest := []) (o := 44) rfl rfl hk.1.1 ok_Mod_nextToken rfl rfl cl_Mod_174 (by omega) (Nat.le_of_ble_eq_true rfl) (Nat.le_of_ble_eq_true rfl) (Nat.le_refl _) (Nat.le_refl _) (c_Mod_nextToken (w := zsI w 44 34 (numV T (tBeg T n p) (tLen T n p))) (mK_I hk (by decide) _) (p := tEnd T n p) (tEnd_le hS.2.2.2.2.2) hS.1 1 (by decide)) (fun r1 w8 hp => ?_) rfl rfl
      obtain ⟨rfl, hF8, hS8⟩ := hp
      refine ⟨⟨by rw [hF8.1]; exact Nat.le_refl _, Or.inl (by rw [hF8.1] <;> rfl)⟩, ?_⟩
      refine z_iconst (pc := 44) (v := 1) rfl (by decide) ?_
      have hnum : numW T n a b (.inl p) = if (¬ numV T (tBeg T n p) (tLen T n p) < a ∧ numV T (tBeg T n p) (tLen T n p) ≤ b) then (numV T (tBeg T n p) (tLen T n p), nxt T n (.inl p)) else (a, wrg T n 4 (.inl p)) := by
        unfold numW
        rw [show tkc T n (.inl p) = tC T n p from rfl, if_pos ((t2_iff T n p).mp h5)]
        show (if numV T (tBeg T n p) (tLen T n p) < a then _ else if numV T (tBeg T n p) (tLen T n p) ≤ b then _ else _) = _
        by_cases y1 : numV T (tBeg T n p) (tLen T n p) < a
        · rw [if_pos y1, if_neg (fun e => e.1 y1)]
        · by_cases y2 : numV T (tBeg T n p) (tLen T n p) ≤ b
          · rw [if_neg y1, if_pos y2, if_pos ⟨y1, y2⟩]; rfl
          · rw [if_neg y1, if_neg y2, if_neg (fun e => y2 e.2)]
      have hwi : ¬ numV T (tBeg T n p) (tLen T n p) < a ∧ numV T (tBeg T n p) (tLen T n p) ≤ b := ⟨fun e => h23 (if_pos e), Int32.not_lt.mp (fun e => h23 (by by_cases y1 : numV T (tBeg T n p) (tLen T n p) < a <;> simp [y1, e]))⟩
      exact z_zret (pc := 45) rfl rfl (by decide) ⟨mF9_t (mF9_I _ (Or.inr rfl)) (mF9_F hF8), by rw [show (numW T n a b (.inl p)).2 = .inl (tEnd T n p) from by rw [hnum, if_pos hwi]; rfl]; exact mRs_l hS8, fun p1 e => by rw [hnum, if_pos hwi]; exact (hF8.2.2.2.1 34 (by decide)).trans rfl⟩
    · refine z_aload_n (pc := 26) (i := 0) (j := 0) rfl rfl rfl ?_
      refine z_iconst (pc := 27) (v := 4) rfl (by decide) ?_
      refine z_cV (pc := 28) (mc1 := 0) (ms1 := 0) (mc2 := 0) (ms2 := 0) (as := [.int 4]) (rest := []) (o := 44) rfl rfl hk.1.1 ok_Mod_fails rfl rfl cl_Mod_168 (by omega) (Nat.le_of_ble_eq_true rfl) (Nat.le_of_ble_eq_true rfl) (Nat.le_refl _) (Nat.le_refl _) (c_Mod_fails hk hS 4 0) (fun r1 w9 hp => ?_) rfl rfl
      obtain ⟨rfl, hw9⟩ := hp
      refine ⟨⟨by rw [hw9]; exact Nat.le_refl _, Or.inl (by rw [hw9]; rfl)⟩, ?_⟩
      have hnum : numW T n a b (.inl p) = if (¬ numV T (tBeg T n p) (tLen T n p) < a ∧ numV T (tBeg T n p) (tLen T n p) ≤ b) then (numV T (tBeg T n p) (tLen T n p), nxt T n (.inl p)) else (a, wrg T n 4 (.inl p)) := by
        unfold numW
        rw [show tkc T n (.inl p) = tC T n p from rfl, if_pos ((t2_iff T n p).mp h5)]
        show (if numV T (tBeg T n p) (tLen T n p) < a then _ else if numV T (tBeg T n p) (tLen T n p) ≤ b then _ else _) = _
        by_cases y1 : numV T (tBeg T n p) (tLen T n p) < a
        · rw [if_pos y1, if_neg (fun e => e.1 y1)]
        · by_cases y2 : numV T (tBeg T n p) (tLen T n p) ≤ b
          · rw [if_neg y1, if_pos y2, if_pos ⟨y1, y2⟩]; rfl
          · rw [if_neg y1, if_neg y2, if_neg (fun e => y2 e.2)]
      have hwi : ¬ (¬ numV T (tBeg T n p) (tLen T n p) < a ∧ numV T (tBeg T n p) (tLen T n p) ≤ b) := fun e => absurd h23 (by rw [if_neg e.1, if_neg (Int32.not_lt.mpr e.2)]; decide)
      exact z_zret (pc := 31) rfl rfl (by decide) ⟨by rw [hw9]; exact mF9_I _ (Or.inl rfl), by rw [show (numW T n a b (.inl p)).2 = .inr (4 + 16 * nI (tBeg T n p)) from by rw [hnum, if_neg hwi]; rfl]; exact mRs_r (by rw [hw9]; rfl), fun p1 e => absurd e (by rw [hnum, if_neg hwi]; show ¬ wrg T n 4 (.inl p) = .inl p1; exact wrg_g)⟩
  · refine z_aload_n (pc := 8) (i := 0) (j := 0) rfl rfl rfl ?_
    refine z_iconst (pc := 9) (v := 1) rfl (by decide) ?_
    refine z_cV (pc := 10) (mc1 := 0) (ms1 := 0) (mc2 := 0) (ms2 := 0) (as := [.int 1]) (rest := []) (o := 44) rfl rfl hk.1.1 ok_Mod_fails rfl rfl cl_Mod_168 (by omega) (Nat.le_of_ble_eq_true rfl) (Nat.le_of_ble_eq_true rfl) (Nat.le_refl _) (Nat.le_refl _) (c_Mod_fails hk hS 1 0) (fun r1 w9 hp => ?_) rfl rfl
    obtain ⟨rfl, hw9⟩ := hp
    refine ⟨⟨by rw [hw9]; exact Nat.le_refl _, Or.inl (by rw [hw9]; rfl)⟩, ?_⟩
    exact z_zret (pc := 13) rfl rfl (by decide) ⟨by rw [hw9]; exact mF9_I _ (Or.inl rfl), by rw [show (numW T n a b (.inl p)).2 = .inr (1 + 16 * nI (tBeg T n p)) from by unfold numW; rw [show tkc T n (.inl p) = tC T n p from rfl, if_neg (fun e => h5 ((t2_iff T n p).mpr e))]; rfl]; exact mRs_r (by rw [hw9]; rfl), fun p1 e => absurd e (by unfold numW; rw [show tkc T n (.inl p) = tC T n p from rfl, if_neg (fun e => h5 ((t2_iff T n p).mpr e))]; show ¬ wrg T n 1 (.inl p) = .inl p1; exact wrg_g)⟩
set_option maxRecDepth 100000 in
set_option maxHeartbeats 4000000 in
theorem c_Mod_needsWord {w : zW} {n : Nat} {T : Nat → Int32} (hk : mK w n T) {p i : Nat} (hS : mS w T n p) (hi : i < 19) {x : Int64} (hx : zkM.getD i 0 = x) (d : Nat) (hd : 2 ≤ d) : zS 0 0 d m_Mod_needsWord (fun rv w1 => mF9 w w1 ∧ mRs w1 T n (expW T n (some (1000000 + i)) (.inl p)) rv) 0 [(0, .ref 44), (1, .long x)] [] w := by
  refine z_aload_n (pc := 0) (i := 0) (j := 0) rfl rfl rfl ?_
  refine z_lload_n (pc := 1) (i := 1) (j := 1) rfl rfl rfl ?_
  refine z_cV (pc := 2) (mc1 := 0) (ms1 := 0) (mc2 := 0) (ms2 := 0) (as := [.long x]) (rest := []) (o := 44) rfl rfl hk.1.1 ok_Mod_isWord rfl rfl cl_Mod_160 (by omega) (Nat.le_of_ble_eq_true rfl) (Nat.le_of_ble_eq_true rfl) (Nat.le_refl _) (Nat.le_refl _) (c_wd hk hS hi hx 0) (fun r1 w1 hp => ?_) rfl rfl
  obtain ⟨rfl, hw1⟩ := hp
  rw [hw1]
  refine ⟨⟨Nat.le_refl _, Or.inl rfl⟩, ?_⟩
  refine z_if_ne (pc := 5) (tgt := 14) rfl (by decide) (fun h5 => ?_) (fun h5 => ?_)
  · refine z_aload_n (pc := 14) (i := 0) (j := 0) rfl rfl rfl ?_
    refine z_cV (pc := 15) (mc1 := 0) (ms1 := 0) (mc2 := 0) (ms2 := 0) (as := []) (rest := []) (o := 44) rfl rfl hk.1.1 ok_Mod_nextToken rfl rfl cl_Mod_174 (by omega) (Nat.le_of_ble_eq_true rfl) (Nat.le_of_ble_eq_true rfl) (Nat.le_refl _) (Nat.le_refl _) (c_Mod_nextToken hk (p := tEnd T n p) (tEnd_le hS.2.2.2.2.2) hS.1 1 (by decide)) (fun r1 w8 hp => ?_) rfl rfl
    obtain ⟨rfl, hF8, hS8⟩ := hp
    refine ⟨⟨by rw [hF8.1]; exact Nat.le_refl _, Or.inl (by rw [hF8.1])⟩, ?_⟩
    refine z_iconst (pc := 18) (v := 1) rfl (by decide) ?_
    exact z_zret (pc := 19) rfl rfl (by decide) ⟨mF9_F hF8, by rw [show expW T n (some (1000000 + i)) (.inl p) = .inl (tEnd T n p) from by unfold expW; rw [show tkw T n (.inl p) = tW T n p from rfl, if_pos (Decidable.byContradiction (fun e => h5 (if_neg e)))]; rfl]; exact mRs_l hS8⟩
  · refine z_aload_n (pc := 8) (i := 0) (j := 0) rfl rfl rfl ?_
    refine z_iconst (pc := 9) (v := 1) rfl (by decide) ?_
    refine z_cV (pc := 10) (mc1 := 0) (ms1 := 0) (mc2 := 0) (ms2 := 0) (as := [.int 1]) (rest := []) (o := 44) rfl rfl hk.1.1 ok_Mod_fails rfl rfl cl_Mod_168 (by omega) (Nat.le_of_ble_eq_true rfl) (Nat.le_of_ble_eq_true rfl) (Nat.le_refl _) (Nat.le_refl _) (c_Mod_fails hk hS 1 0) (fun r1 w9 hp => ?_) rfl rfl
    obtain ⟨rfl, hw9⟩ := hp
    refine ⟨⟨by rw [hw9]; exact Nat.le_refl _, Or.inl (by rw [hw9]; rfl)⟩, ?_⟩
    exact z_zret (pc := 13) rfl rfl (by decide) ⟨by rw [hw9]; exact mF9_I _ (Or.inl rfl), by rw [show expW T n (some (1000000 + i)) (.inl p) = .inr (1 + 16 * nI (tBeg T n p)) from by unfold expW; rw [show tkw T n (.inl p) = tW T n p from rfl, if_neg (fun e => absurd h5 (by rw [if_pos e]; decide))]; rfl]; exact mRs_r (by rw [hw9]; rfl)⟩
set_option maxRecDepth 100000 in
set_option maxHeartbeats 4000000 in
theorem c_Mod_ends {w : zW} {n : Nat} {T : Nat → Int32} (hk : mK w n T) {p : Nat} (hS : mS w T n p) (d : Nat) (hd : 2 ≤ d) : zS 0 0 d m_Mod_ends (fun rv w1 => mF9 w w1 ∧ mRs w1 T n (expS T n 59 (.inl p)) rv) 0 [(0, .ref 44)] [] w := by
  refine z_aload_n (pc := 0) (i := 0) (j := 0) rfl rfl rfl ?_
  refine z_bipush (pc := 1) (v := 59) rfl (by decide) ?_
  refine z_cV (pc := 3) (mc1 := 0) (ms1 := 0) (mc2 := 0) (ms2 := 0) (as := [.int 59]) (rest := []) (o := 44) rfl rfl hk.1.1 ok_Mod_isSign rfl rfl cl_Mod_164 (by omega) (Nat.le_of_ble_eq_true rfl) (Nat.le_of_ble_eq_true rfl) (Nat.le_refl _) (Nat.le_refl _) (c_Mod_isSign hk hS (c := 59) (by decide) 0) (fun r1 w1 hp => ?_) rfl rfl
  obtain ⟨rfl, hw1⟩ := hp
  rw [hw1]
  refine ⟨⟨Nat.le_refl _, Or.inl rfl⟩, ?_⟩
  refine z_if_ne (pc := 6) (tgt := 15) rfl (by decide) (fun h6 => ?_) (fun h6 => ?_)
  · refine z_aload_n (pc := 15) (i := 0) (j := 0) rfl rfl rfl ?_
    refine z_cV (pc := 16) (mc1 := 0) (ms1 := 0) (mc2 := 0) (ms2 := 0) (as := []) (rest := []) (o := 44) rfl rfl hk.1.1 ok_Mod_nextToken rfl rfl cl_Mod_174 (by omega) (Nat.le_of_ble_eq_true rfl) (Nat.le_of_ble_eq_true rfl) (Nat.le_refl _) (Nat.le_refl _) (c_Mod_nextToken hk (p := tEnd T n p) (tEnd_le hS.2.2.2.2.2) hS.1 1 (by decide)) (fun r1 w8 hp => ?_) rfl rfl
    obtain ⟨rfl, hF8, hS8⟩ := hp
    refine ⟨⟨by rw [hF8.1]; exact Nat.le_refl _, Or.inl (by rw [hF8.1])⟩, ?_⟩
    refine z_iconst (pc := 19) (v := 1) rfl (by decide) ?_
    exact z_zret (pc := 20) rfl rfl (by decide) ⟨mF9_F hF8, by rw [show expS T n 59 (.inl p) = .inl (tEnd T n p) from by unfold expS; rw [show tkc T n (.inl p) = tC T n p from rfl, if_pos (Decidable.byContradiction (fun e => h6 (if_neg e)))]; rfl]; exact mRs_l hS8⟩
  · refine z_aload_n (pc := 9) (i := 0) (j := 0) rfl rfl rfl ?_
    refine z_iconst (pc := 10) (v := 1) rfl (by decide) ?_
    refine z_cV (pc := 11) (mc1 := 0) (ms1 := 0) (mc2 := 0) (ms2 := 0) (as := [.int 1]) (rest := []) (o := 44) rfl rfl hk.1.1 ok_Mod_fails rfl rfl cl_Mod_168 (by omega) (Nat.le_of_ble_eq_true rfl) (Nat.le_of_ble_eq_true rfl) (Nat.le_refl _) (Nat.le_refl _) (c_Mod_fails hk hS 1 0) (fun r1 w9 hp => ?_) rfl rfl
    obtain ⟨rfl, hw9⟩ := hp
    refine ⟨⟨by rw [hw9]; exact Nat.le_refl _, Or.inl (by rw [hw9]; rfl)⟩, ?_⟩
    exact z_zret (pc := 14) rfl rfl (by decide) ⟨by rw [hw9]; exact mF9_I _ (Or.inl rfl), by rw [show expS T n 59 (.inl p) = .inr (1 + 16 * nI (tBeg T n p)) from by unfold expS; rw [show tkc T n (.inl p) = tC T n p from rfl, if_neg (fun e => absurd h6 (by rw [if_pos e]; decide))]; rfl]; exact mRs_r (by rw [hw9]; rfl)⟩
