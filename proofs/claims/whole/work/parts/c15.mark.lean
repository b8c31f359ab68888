/-! MARK -/
theorem nI_k4 {x : Int32} (h : ¬ (x < 0 ∨ 4 ≤ x)) : ∃ k : Nat, k < 4 ∧ x = nI k := by
  have h4 : x ≤ 3 := by
    have h1 : ¬ 4 ≤ x := fun z => h (Or.inr z)
    have h2 : x.toInt < (4 : Int32).toInt := Int32.lt_iff_toInt_lt.mp (Int32.not_le.mp h1)
    refine Int32.le_iff_toInt_le.mpr ?_
    have e4 : (4 : Int32).toInt = 4 := by decide
    have e3 : (3 : Int32).toInt = 3 := by decide
    omega
  obtain ⟨j, hj, e⟩ := nI_of2 (M := 3) (n := 3) rfl (fun z => h (Or.inl z)) h4
  exact ⟨j, by omega, e⟩
theorem mk_in {x : Int32} {k : Nat} (hk : k < 4) (e : x = nI k) : ¬ (if x < 0 then 0 else if 3 < x then 0 else 1 : Int32) = 0 := by
  subst e
  rcases (show k = 0 ∨ k = 1 ∨ k = 2 ∨ k = 3 by omega) with rfl | rfl | rfl | rfl <;> decide
theorem mk_out {x : Int32} (h : x < 0 ∨ 4 ≤ x) : (if x < 0 then 0 else if 3 < x then 0 else 1 : Int32) = 0 := by
  by_cases a : x < 0
  · rw [if_pos a]
  · rw [if_neg a, if_pos]
    rcases h with h | h
    · exact absurd h a
    · have e4 : (4 : Int32).toInt = 4 := by decide
      have e3 : (3 : Int32).toInt = 3 := by decide
      have := Int32.le_iff_toInt_le.mp h
      exact Int32.lt_iff_toInt_lt.mpr (by omega)
theorem z44_Iv {w : zW} {s N : Nat} (h : Iv w s N) : Iv (zuI w (z2 (zI w) 44 0 0)) s (N + 1000) := by
  refine Iv_keep h (by omega) rfl rfl (fun o a1 a2 a3 a4 a5 a6 a7 a8 a9 => z2_ro _ _ _ a5) ?_
  show z2 (zI w) 44 0 0 44 1 = zI w 44 1
  exact z2_nt (zI w) 0 (Or.inr (by decide))
theorem SRn_cpS {w w1 : zW} {s k r C R H K U : Nat} (h : SRn (zI w) k r C R H K U) (c : cpS w s k w1) (hr : s + 12 ≤ 46 ∨ 55 ≤ s) : SRn (zI w1) s r C R H K U := by
  obtain ⟨n1, n2, f, nu, l1, l2, a1, a2, rfl, fr, b1, b2, b3, b4, b5, b6, b7, b8, b9, b10, b11, b12, b13⟩ := c
  refine SRn_cp h (fun i h1 h2 => ?_) (fun i h1 h2 j hj => ?_) (fun n hn e => ?_) (fun n hn e => ?_) (fun i _ => congrFun (fr 46 (by omega)) _) (fun o h1 h2 i _ => congrFun (fr o (by omega)) _) (fun o ho i _ => congrFun (fr o (by omega)) _) (fun i _ => congrFun (fr 54 (by omega)) _)
  · rcases (show i = 7 ∨ i = 8 ∨ i = 9 ∨ i = 10 ∨ i = 11 by omega) with rfl | rfl | rfl | rfl | rfl
    · exact b9
    · exact b10
    · exact b11
    · exact b12
    · exact b13
  · rcases (show i = 1 ∨ i = 2 ∨ i = 3 ∨ i = 4 by omega) with rfl | rfl | rfl | rfl
    · exact b1 j hj
    · exact b2 j hj
    · exact b3 j hj
    · exact b4 j hj
  · have en : n1 = n := (nI_eq (by omega) (by omega)).mp (a1.symm.trans e)
    subst en
    exact ⟨b6, fun i hi => b5 i hi⟩
  · have en : n2 = n := (nI_eq (by omega) (by omega)).mp (a2.symm.trans e)
    subst en
    exact ⟨b8, fun i hi => b7 i hi⟩
theorem LR_cpL {w w1 : zW} {l k H N M : Nat} {g g2 : Nat → Int32} (h : LR (zI w) k g H N) (hM : N ≤ M) (c : cpL w l k w1) (cg : ∀ j, j < 1344 → g2 j = g j) : LR (zI w1) l g2 H M := by
  obtain ⟨f, rfl, fr, b1, b2, b3, b4, b5, b6, b7, b8, c8, c9, c10, c11, c12⟩ := c
  refine LR_c h hM (fun i h1 h2 => ?_) b1 b2 b3 b4 b5 b6 b7 b8 cg
  rcases (show i = 8 ∨ i = 9 ∨ i = 10 ∨ i = 11 ∨ i = 12 by omega) with rfl | rfl | rfl | rfl | rfl
  · exact c8
  · exact c9
  · exact c10
  · exact c11
  · exact c12
theorem cpS_f {w w1 : zW} {s k : Nat} (c : cpS w s k w1) : w1.1 = w.1 ∧ zR w1 = zR w ∧ ∀ o, (o < s ∨ s + 12 ≤ o) → zI w1 o = zI w o := by
  obtain ⟨n1, n2, f, nu, l1, l2, a1, a2, rfl, fr, -⟩ := c
  exact ⟨rfl, rfl, fr⟩
theorem cpL_f {w w1 : zW} {l k : Nat} (c : cpL w l k w1) : w1.1 = w.1 ∧ zR w1 = zR w ∧ ∀ o, (o < l ∨ l + 9 ≤ o) → zI w1 o = zI w o := by
  obtain ⟨f, rfl, fr, -⟩ := c
  exact ⟨rfl, rfl, fr⟩
theorem lay_rest {f : Nat → Nat → Int32} {fr to k : Nat} (h : 2 + k ≠ to) : (∀ i, i < 5 → laysF f fr to 46 (5 * (2 + k) + i) = f 46 (5 * (2 + k) + i)) ∧ (∀ o, 48 ≤ o → o ≤ 51 → ∀ i, i < 8 → laysF f fr to o (8 * (2 + k) + i) = f o (8 * (2 + k) + i)) ∧ (∀ o, (o = 52 ∨ o = 53) → ∀ i, i < 2 → laysF f fr to o (2 * (2 + k) + i) = f o (2 * (2 + k) + i)) ∧ ∀ i, i < 1000 → laysF f fr to 54 (1000 * (2 + k) + i) = f 54 (1000 * (2 + k) + i) := by
  refine ⟨fun i hi => ?_, fun o h1 h2 i hi => ?_, fun o ho i hi => ?_, fun i hi => ?_⟩
  · rw [laysF_46, fb_put_out (by omega)]
  · rw [laysF_h ⟨h1, h2⟩, fb_put_out (by omega)]
  · exact laysF_Lo ho (by omega)
  · rw [laysF_54, fb_put_out (by omega)]
theorem lay_rest0 {f : Nat → Nat → Int32} {fr to : Nat} (h : 0 ≠ to) : (∀ i, i < 5 → laysF f fr to 46 (5 * 0 + i) = f 46 (5 * 0 + i)) ∧ (∀ o, 48 ≤ o → o ≤ 51 → ∀ i, i < 8 → laysF f fr to o (8 * 0 + i) = f o (8 * 0 + i)) ∧ (∀ o, (o = 52 ∨ o = 53) → ∀ i, i < 2 → laysF f fr to o (2 * 0 + i) = f o (2 * 0 + i)) ∧ ∀ i, i < 1000 → laysF f fr to 54 (1000 * 0 + i) = f 54 (1000 * 0 + i) := by
  refine ⟨fun i hi => ?_, fun o h1 h2 i hi => ?_, fun o ho i hi => ?_, fun i hi => ?_⟩
  · rw [laysF_46, fb_put_out (by omega)]
  · rw [laysF_h ⟨h1, h2⟩, fb_put_out (by omega)]
  · exact laysF_Lo ho (by omega)
  · rw [laysF_54, fb_put_out (by omega)]
theorem Iv.m74 {w : zW} {s N k m : Nat} (h : Iv w s N) (hk : k < 4) (hm : zR w 30 k = some m) : 74 ≤ m ∧ mkS w m ∧ ¬ zI w 72 k = 0 ∧ ∃ C R H K U : Nat, SRn (zI w) (m + 1) (2 + k) C R H K U ∧ LR (zI w) (m + 13) (fun j => zI w 68 (1344 * k + j)) H N := by
  rcases h.2.2.2.1 k hk with ⟨z, -⟩ | ⟨m', C, R, H, K, U, z, z2, z3, z4, z5, z6⟩
  · rw [hm] at z; cases z
  · rw [hm] at z; cases z; exact ⟨z4, z3, z2, C, R, H, K, U, z5, z6⟩
/-- a mark is laid: in a world w0 with a place for it -/
theorem mk_lay {w w0 wa wb : zW} {s N k m : Nat} (h : Iv w s N) (hk : k < 4) (hl : w.1.length ≤ w0.1.length) (hl2 : w0.1.length ≤ w.1.length + 22) (e1 : ∀ (x : Nat) (q : Nat × Nat), w.1[x]? = some q → w0.1[x]? = some q) (eI : ∀ o, o < w.1.length → zI w0 o = zI w o) (eR : ∀ a b, a < w.1.length → ¬ (a = 30 ∧ b = k) → zR w0 a b = zR w a b) (hm : zR w0 30 k = some m) (hS : mkS w0 m) (h74 : 74 ≤ m) (hd : ∀ j mj, j < 4 → j ≠ k → zR w 30 j = some mj → mj + 22 ≤ m ∨ m + 22 ≤ mj) (cS : cpS w0 (m + 1) s wa) (cL : cpL wa (m + 13) 21 wb) : Iv (zuI wb (mkLay (z2 (zI wb) 44 0 0) k)) s (N + 1000) := by
  have hs := h.s
  have h74w := h.len
  obtain ⟨ka, ra, fa⟩ := cpS_f cS
  obtain ⟨kb, rb, fb⟩ := cpL_f cL
  obtain ⟨C, R, H, K, U, t1, t2⟩ := h.2.2.1
  have fo : ∀ o, o < w.1.length → (o < m ∨ m + 22 ≤ o) → zI wb o = zI w o := fun o ho h2 => by rw [fb o (by omega), fa o (by omega), eI o ho]
  have kk : wb.1 = w0.1 := kb.trans ka
  have rr : zR wb = zR w0 := rb.trans ra
  have t1' : SRn (zI w0) s 0 C R H K U := SRn_same t1 (fun o h1 h2 _ _ => eI o (by omega)) (fun o h1 h2 => eI o (by omega))
  have u1 : SRn (zI wb) (m + 1) 0 C R H K U := SRn_same (SRn_cpS t1' cS (by omega)) (fun o h1 h2 _ _ => fb o (by omega)) (fun o h1 h2 => fb o (by omega))
  have t2' : LR (zI wa) 21 (zI w 67) H N := LR_same t2 (Nat.le_refl _) (fun o h1 h2 => by rw [fa o (by omega), eI o (by omega)]) (fun _ _ => rfl)
  have go : ∀ o, o ≠ 44 → o ≠ 72 → z2 (z2 (zI wb) 44 0 0) 72 k 1 o = zI wb o := fun o a b => by rw [z2_ro _ _ _ b, z2_ro _ _ _ a]
  have u2 : SRn (laysF (z2 (z2 (zI wb) 44 0 0) 72 k 1) 0 (2 + k)) (m + 1) (2 + k) C R H K U := SRn_lay (SRn_same u1 (fun o h1 h2 _ _ => go o (by omega) (by omega)) (fun o h1 h2 => go o (by omega) (by omega))) (by decide) (by omega) (by omega) (by omega)
  have lo : ∀ o, o < 46 ∨ o = 47 ∨ 54 < o → o ≠ 44 → o ≠ 72 → o ≠ 68 → mkLay (z2 (zI wb) 44 0 0) k o = zI wb o := fun o h1 h2 h3 h4 => by
    unfold mkLay
    rw [zr_o _ _ h4, laysF_o h1, go o h2 h3]
  have lp : ∀ o, 46 ≤ o → o ≤ 54 → mkLay (z2 (zI wb) 44 0 0) k o = laysF (z2 (z2 (zI wb) 44 0 0) 72 k 1) 0 (2 + k) o := fun o h1 h2 => by
    unfold mkLay
    rw [zr_o _ _ (by omega)]
  have e44 : mkLay (z2 (zI wb) 44 0 0) k 44 1 = zI wb 44 1 := by
    unfold mkLay
    rw [zr_o _ _ (by decide), laysF_o (by omega), z2_ro _ _ _ (by decide), z2_nt _ _ (by omega)]
  have e72 : ∀ j, mkLay (z2 (zI wb) 44 0 0) k 72 j = if j = k then 1 else zI wb 72 j := fun j => by
    unfold mkLay
    rw [zr_o _ _ (by decide), laysF_o (by omega), z2_row, z2_ro _ _ _ (by decide)]
  have e68 : mkLay (z2 (zI wb) 44 0 0) k 68 = fb_put (zI wb 68) (fun j => zI wb 67 j) (1344 * k) 1344 := by
    unfold mkLay
    rw [zr_h, laysF_o (o := 68) (by omega), laysF_o (o := 67) (by omega), go 68 (by decide) (by decide), go 67 (by decide) (by decide)]
    refine fb_put_cong (fun _ _ => rfl) (fun i _ => ?_)
    rw [Nat.zero_add]
  have gw : zI (zuI wb (mkLay (z2 (zI wb) 44 0 0) k)) = mkLay (z2 (zI wb) 44 0 0) k := rfl
  have e1' : ∀ (x : Nat) (q : Nat × Nat), w.1[x]? = some q → (zuI wb (mkLay (z2 (zI wb) 44 0 0) k)).1[x]? = some q := fun x q z => by
    show wb.1[x]? = some q
    rw [kk]
    exact e1 x q z
  have rm : ∀ a b, a < w.1.length → ¬ (a = 30 ∧ b = k) → zR (zuI wb (mkLay (z2 (zI wb) 44 0 0) k)) a b = zR w a b := fun a b ha hb => by
    show zR wb a b = _
    rw [rr]
    exact eR a b ha hb
  generalize hW : zuI wb (mkLay (z2 (zI wb) 44 0 0) k) = W2 at gw e1' rm ⊢
  have k2 : W2.1 = w0.1 := by rw [← hW]; exact kk
  have r2 : zR W2 = zR w0 := by rw [← hW]; exact rr
  have no : ∀ o, (o < 44 ∨ o = 45 ∨ o = 47 ∨ 54 < o) → o ≠ 72 → o ≠ 68 → o < w.1.length → (o < m ∨ m + 22 ≤ o) → zI W2 o = zI w o := fun o h1 h2 h3 h4 h5 => by rw [gw, lo o (by omega) (by omega) h2 h3, fo o h4 h5]
  obtain ⟨n, q1, q2, q3, q4, q5⟩ := h.2.1
  obtain ⟨v1, v2, v3, v4, v5, v6, v7, v8⟩ := h.1.2.2.2
  refine ⟨⟨zX_ex h.1.1 e1' (fun a ha b => rm a b (by omega) (by omega)), ⟨e1' _ _ h.1.2.1.1, fun q hq => ⟨e1' _ _ (h.1.2.1.2 q hq).1, (rm 44 _ (by omega) (by omega)).trans (h.1.2.1.2 q hq).2⟩⟩, e1' _ _ h.1.2.2.1, e1' _ _ v1, (rm 3 0 (by omega) (by omega)).trans v2, (rm 3 1 (by omega) (by omega)).trans v3, e1' _ _ v4, (rm 1 0 (by omega) (by omega)).trans v5, e1' _ _ v6, zSt_ex v7 e1' (fun a b h1 h2 => rm a b (by omega) (by omega)), v8⟩, ⟨n, q1, ?_, ?_, ?_, fun i hi => ?_⟩, ⟨C, R, H, K, U, ?_, ?_⟩, fun j hj => ?_, ?_, ?_⟩
  · rw [no 1 (by omega) (by decide) (by decide) (by omega) (by omega)]; exact q2
  · rw [gw, e44, fo 44 (by omega) (by omega)]; exact q3
  · rw [no 45 (by omega) (by decide) (by decide) (by omega) (by omega), no 2 (by omega) (by decide) (by decide) (by omega) (by omega)]; exact q4
  · rw [no 2 (by omega) (by decide) (by decide) (by omega) (by omega)]; exact q5 i hi
  · obtain ⟨l1, l2, l3, l4⟩ := lay_rest0 (f := z2 (z2 (zI wb) 44 0 0) 72 k 1) (fr := 0) (to := 2 + k) (by omega)
    refine SRn_keep t1 (fun o h1 h2 _ _ _ => no o (by omega) (by omega) (by omega) (by omega) (by omega)) (fun i hi => ?_) (fun o h1 h2 i hi => ?_) (fun o ho i hi => ?_) (fun i hi => ?_)
    · rw [gw, lp 46 (by decide) (by decide), l1 i hi, go 46 (by decide) (by decide), fo 46 (by omega) (by omega)]
    · rw [gw, lp o (by omega) (by omega), l2 o h1 h2 i hi, go o (by omega) (by omega), fo o (by omega) (by omega)]
    · rw [gw, lp o (by omega) (by omega), l3 o ho i hi, go o (by omega) (by omega), fo o (by omega) (by omega)]
    · rw [gw, lp 54 (by decide) (by decide), l4 i hi, go 54 (by decide) (by decide), fo 54 (by omega) (by omega)]
  · refine LR_same t2 (by omega) (fun o h1 h2 => no o (by omega) (by omega) (by omega) (by omega) (by omega)) (fun i _ => ?_)
    rw [no 67 (by omega) (by decide) (by decide) (by omega) (by omega)]
  · by_cases e : j = k
    · subst e
      refine Or.inr ⟨m, C, R, H, K, U, by rw [r2]; exact hm, ?_, ?_, h74, ?_, ?_⟩
      · rw [gw, e72, if_pos rfl]; decide
      · obtain ⟨z1, z2, z3, z4, z5, z6, z7⟩ := hS
        exact ⟨z1, by rw [k2]; exact z2, by rw [k2]; exact z3, by rw [r2]; exact z4, by rw [r2]; exact z5, zSt_ex z6 (fun a q z => by rw [k2]; exact z) (fun a b _ _ => by rw [r2]), zLf_ex z7 (fun a q z => by rw [k2]; exact z) (fun b => by rw [r2])⟩
      · refine SRn_same u2 (fun o h1 h2 _ _ => ?_) (fun o h1 h2 => ?_)
        · rw [gw, lo o (by omega) (by omega) (by omega) (by omega), laysF_o (by omega), go o (by omega) (by omega)]
        · rw [gw, lp o h1 h2]
      · have u3 : LR (zI wb) (m + 13) (zI w 67) H (N + 1000) := LR_cpL t2' (by omega) cL (fun _ _ => rfl)
        refine LR_same u3 (Nat.le_refl _) (fun o h1 h2 => ?_) (fun i hi => ?_)
        · rw [gw, lo o (by omega) (by omega) (by omega) (by omega)]
        · rw [gw, e68, fb_put_in (by omega) (by omega), Nat.add_sub_cancel_left, fo 67 (by omega) (by omega)]
    · obtain ⟨l1, l2, l3, l4⟩ := lay_rest (f := z2 (z2 (zI wb) 44 0 0) 72 k 1) (fr := 0) (to := 2 + k) (k := j) (by omega)
      refine mk_keep (h.2.2.2.1 j hj) hj (by omega) e1' (fun a b z => rm a b (by omega) (by omega)) (fun mj hmj o h1 h2 => ?_) ?_ (fun i hi => ?_) (fun i hi => ?_) (fun o h1 h2 i hi => ?_) (fun o ho i hi => ?_) (fun i hi => ?_)
      · obtain ⟨g1, g2, -⟩ := h.m74 hj hmj
        have := hd j mj hj e hmj
        have := g2.2.1
        exact no o (by omega) (by omega) (by omega) (by omega) (by omega)
      · rw [gw, e72, if_neg e, fo 72 (by omega) (by omega)]
      · rw [gw, e68, fb_put_out (by omega), fo 68 (by omega) (by omega)]
      · rw [gw, lp 46 (by decide) (by decide), l1 i hi, go 46 (by decide) (by decide), fo 46 (by omega) (by omega)]
      · rw [gw, lp o (by omega) (by omega), l2 o h1 h2 i hi, go o (by omega) (by omega), fo o (by omega) (by omega)]
      · rw [gw, lp o (by omega) (by omega), l3 o ho i hi, go o (by omega) (by omega), fo o (by omega) (by omega)]
      · rw [gw, lp 54 (by decide) (by decide), l4 i hi, go 54 (by decide) (by decide), fo 54 (by omega) (by omega)]
  · intro i j a b hi hj hij za zb
    rw [r2] at za zb
    by_cases ei : i = k
    · subst ei
      rw [hm] at za
      cases za
      rw [eR 30 j (by omega) (by omega)] at zb
      have := hd j b hj (fun z => hij z.symm) zb
      omega
    · rw [eR 30 i (by omega) (by omega)] at za
      by_cases ej : j = k
      · subst ej
        rw [hm] at zb
        cases zb
        exact hd i a hi ei za
      · rw [eR 30 j (by omega) (by omega)] at zb
        exact h.2.2.2.2.1 i j a b hi hj hij za zb
  · rw [k2]
    have := h.2.2.2.2.2
    omega
