/-! HOURS, FEED -/
theorem op_hours {w : zW} {s N : Nat} (h : Iv w s N) (hN : N ≤ 511000) (b : Int32) : Op w N m_SW_hours m_Mod_hours [(1, .int b)] := by
  have hs := h.s
  obtain ⟨C, R, H, K, U, t1, t2⟩ := h.2.2.1
  obtain ⟨V, F, G, hi, hm, hst, hF⟩ := SRn_fn t1
  have hH := t1.1.2.2.1
  refine op_of h hN (c_SW_hours h.1.1 hi hst (J := hrJ (zI w) s C R H K U N V G) (hrJ_0 t1 t2) (hrJ_n h.s hF) b 139 (by decide)) (fun r1 w1 hp => ?_)
  obtain ⟨f, rfl, hp⟩ := hp
  rcases hp with ⟨z, rfl, rfl⟩ | ⟨z1, z2, j, -, rfl⟩
  · have e0 : (if b < 1 then 0 else if 1000 < b then 0 else 1 : Int32) = 0 := by
      rcases z with z | z
      · rw [if_pos z]
      · by_cases y : b < 1
        · rw [if_pos y]
        · rw [if_neg y, if_pos (Int32.not_le.mp z)]
    have cm := c_Mod_hours (w := zuI w (zI w)) h.1.2.1 hm b 139 (by decide)
    rw [if_pos e0, if_pos e0] at cm
    refine ⟨_, rfl, rfl, zS_P (fun r2 w2 hq => ?_) cm⟩
    obtain ⟨g, rfl, rfl, hg⟩ := hq
    refine ⟨rfl, rfl, s, Iv_keep h (by omega) rfl rfl (fun o a1 a2 a3 a4 a5 a6 a7 a8 a9 => ?_) (hg.2.2.1 1 (by decide) (by decide))⟩
    by_cases e : o = 67
    · rw [e]; exact hg.2.1
    · exact hg.1 o (by omega) a5 e a8 a9
  · have e0 : ¬ (if b < 1 then 0 else if 1000 < b then 0 else 1 : Int32) = 0 := by
      rw [if_neg z1, if_neg (Int32.not_lt.mpr z2)]
      decide
    obtain ⟨n, hn, e⟩ := nI_of2 (M := 1000) (n := 1000) rfl (fun z => z1 (Int32.lt_trans z (by decide))) z2
    rw [e, nI_clamp (show n < 2 ^ 31 by omega)] at j
    have fr := j.2.2
    have me : mE (zI w) (zI (zuI w f)) := mE_o (fun o a _ => fr o (by omega) (by omega) (by omega))
    have cm := c_Mod_hours (w := zuI w f) h.1.2.1 (zMi_o hm (fun o a _ => fr o (by omega) (by omega) (by omega))) b 139 (by decide)
    rw [if_neg e0, if_neg e0, hrsR_f _ _ _ _ _ me, e, nI_clamp (show n < 2 ^ 31 by omega)] at cm
    rw [← e] at cm
    refine ⟨_, rfl, rfl, zS_P (fun r2 w2 hq => ?_) cm⟩
    obtain ⟨g, rfl, rfl, hg⟩ := hq
    refine ⟨by rw [an_hours j (by omega)], rfl, s, Iv_life h (by omega) rfl rfl (fun o a1 a2 a3 a4 a5 a6 a7 a8 a9 => ?_) ?_ (fun C2 R2 H2 K2 U2 p1 l => ?_)⟩
    · exact (hg.1 o (by omega) a5 (by omega) a8 a9).trans (fr o a1 a2 (by omega))
    · exact (hg.2.2.1 1 (by decide) (by decide)).trans (congrFun (fr 44 (by omega) (by omega) (by omega)) 1)
    · have eH : H2 = H := (nI_eq (by have := p1.1.2.2.1; omega) (by omega)).mp (p1.2.1.2.2.2.2.symm.trans t1.2.1.2.2.2.2)
      subst eH
      have e67 : g 67 = hrsR (zI w) C R H2 V G n := hg.2.1
      refine LR_same (j.1 (by omega)) (by omega) (fun o h1 h2 => hg.1 o (by omega) (by omega) (by omega) (by omega) (by omega)) (fun i _ => ?_)
      show g 67 i = _
      rw [e67]
theorem tp_tok {q : Nat × (Nat → Int32)} (h : ∀ k, k < q.1 → tok (q.2 k) = true) (c : Int32) : ∀ k, k < (tpush q c).1 → tok ((tpush q c).2 k) = true := by
  unfold tpush
  by_cases z : tok c = true ∧ q.1 < 1000
  · rw [if_pos z]
    intro k hk
    have hk : k < q.1 + 1 := hk
    show tok (upd q.2 q.1 c k) = true
    by_cases e : k = q.1
    · rw [e, upd_at]; exact z.1
    · rw [upd_nt _ _ e]; exact h k (by omega)
  · rw [if_neg z]; exact h
theorem tb_tok (x : Int64) : ∀ (n : Nat) (q : Nat × (Nat → Int32)), (∀ k, k < q.1 → tok (q.2 k) = true) → ∀ k, k < (tbytes x n q).1 → tok ((tbytes x n q).2 k) = true
  | 0, _, h => h
  | n + 1, q, h => tb_tok x n _ (tp_tok h _)
theorem zTp_o {w : zW} {q : Nat × (Nat → Int32)} {o : Nat} (h1 : o ≠ 1) (h2 : o ≠ 2) : zI (zTp w 1 2 q) o = zI w o := by
  show (if o = 2 then q.2 else z2 (zI w) 1 1 (nI q.1) o) = _
  rw [if_neg h2, z2_ro _ _ _ h1]
theorem zTp_1 {w : zW} {q : Nat × (Nat → Int32)} : zI (zTp w 1 2 q) 1 1 = nI q.1 := by
  show (if 1 = 2 then q.2 else z2 (zI w) 1 1 (nI q.1) 1) 1 = _
  rw [if_neg (by decide), z2_at]
theorem op_feed {w : zW} {s N : Nat} (h : Iv w s N) (hN : N ≤ 511000) (a b c : Int64) : Op w N m_SW_feed m_Mod_feed [(1, .long a), (3, .long b), (5, .long c)] := by
  have hs := h.s
  obtain ⟨n, n1, n2, n3, n4, n5⟩ := h.2.1
  refine op_of h hN (c_SW_feed h.1.1 n2 n1 a b c 139 (by decide)) (fun r1 w1 hp => ?_)
  obtain ⟨rfl, hw⟩ := hp
  have hle : (tbytes c 8 (tbytes b 8 (tbytes a 8 (n, zI w 2)))).1 ≤ 1000 := tbytes_le c 8 _ (tbytes_le b 8 _ (tbytes_le a 8 _ n1))
  have htk := tb_tok c 8 _ (tb_tok b 8 _ (tb_tok a 8 (n, zI w 2) n5))
  have cm := c_Mod_feed (w := w1) (by rw [hw]; exact h.1.2.1) a b c (n, zI w 2) n1 (by rw [hw, zTp_o (by decide) (by decide)]; exact n4) (by rw [hw, zTp_o (by decide) (by decide)]; exact n3) 139
  rw [fdQ_24] at cm
  generalize tbytes c 8 (tbytes b 8 (tbytes a 8 (n, zI w 2))) = q at hw hle htk cm ⊢
  refine ⟨_, rfl, by rw [hw]; rfl, zS_P (fun r2 w2 hq => ?_) cm⟩
  obtain ⟨g, rfl, rfl, g45, g44, hg, gk, -⟩ := hq
  have e2 : g 2 = q.2 := (hg 2 (by decide) (by decide)).trans (by rw [hw]; exact zTp_2 _ _)
  have e1 : g 1 1 = nI q.1 := (congrFun (hg 1 (by decide) (by decide)) 1).trans (by rw [hw]; exact zTp_1)
  have eo : ∀ o, o ≠ 44 → o ≠ 45 → o ≠ 1 → o ≠ 2 → g o = zI w o := fun o a1 a2 a3 a4 => (hg o a1 a2).trans (by rw [hw]; exact zTp_o a3 a4)
  refine ⟨rfl, rfl, s, Iv_all h (by omega) (by rw [hw]; rfl) (by rw [hw]; rfl) (fun o a1 a2 a3 a4 a5 a6 a7 a8 a9 b1 b2 b3 => eo o a5 b3 b1 b2) ⟨q.1, hle, e1, g44, g45.trans e2.symm, fun k hk => ?_⟩ (fun C R H K U _ l => ?_)⟩
  · show tok (g 2 k) = true
    rw [e2]
    exact htk k hk
  · refine LR_same l (by omega) (fun o h1 h2 => eo o (by omega) (by omega) (by omega) (by omega)) (fun i _ => ?_)
    show g 67 i = _
    rw [eo 67 (by decide) (by decide) (by decide) (by decide)]
/-! the rows that a draft leaves alone -/
section DrO
variable {T : Nat → Int32} {n s o : Nat} {D : rDt}
theorem dStmt_o (hs : 3 < s) (h3 : o ≠ 3) (ho : o < s ∨ s + 12 ≤ o) : (dStmt T n s D).2.1 o = D.2.1 o := by
  by_cases h0 : tkw T n D.1 = some 1000000
  · rw [(dS_e (dS_0 (s := s) h0)).2.1, df2 rfl, z2_ro _ _ _ (by omega), z2_ro _ _ _ (by omega), z2_ro _ _ _ h3]
  by_cases h1 : tkw T n D.1 = some 1000001
  · rw [(dS_e (dS_1 (s := s) h0 h1)).2.1, dlg2 rfl, zr_o _ _ (by omega), z2_ro _ _ _ (by omega), z2_ro _ _ _ h3]
  by_cases h2 : tkw T n D.1 = some 1000002
  · rw [(dS_e (dS_2 (s := s) h0 h1 h2)).2.1, dlg2 rfl, zr_o _ _ (by omega), z2_ro _ _ _ (by omega), z2_ro _ _ _ h3]
  by_cases h4 : tkw T n D.1 = some 1000003
  · rw [(dS_e (dS_3 (s := s) h0 h1 h2 h4)).2.1, dc2 rfl, z2_ro _ _ _ (by omega), z2_ro _ _ _ h3]
  by_cases h5 : tkw T n D.1 = some 1000004
  · rw [(dS_e (dS_4 (s := s) h0 h1 h2 h4 h5)).2.1, dt2 rfl, z2_ro _ _ _ (by omega), z2_ro _ _ _ h3]
  by_cases h6 : tkw T n D.1 = some 1000005
  · rw [(dS_e (dS_5 (s := s) h0 h1 h2 h4 h5 h6)).2.1]
    have e : (dHouse T n s D).2.1 = hF5 T n s D ∨ (dHouse T n s D).2.1 = D.2.1 := by
      unfold dHouse
      exact ite_21
    rcases e with e | e
    · rw [e]
      unfold hF5
      rw [z2_ro _ _ _ (by omega), z2_ro _ _ _ (by omega), z2_ro _ _ _ (by omega), z2_ro _ _ _ (by omega), z2_ro _ _ _ (by omega)]
    · rw [e]
  rw [(dS_e (dS_6 (s := s) h0 h1 h2 h4 h5 h6)).2.1]
end DrO
theorem dAll_o {T : Nat → Int32} {n s o : Nat} (hs : 3 < s) (h3 : o ≠ 3) (ho : o < s ∨ s + 12 ≤ o) : ∀ (m : Nat) (D : rDt), (dAll T n s m D).2.1 o = D.2.1 o
  | 0, _ => rfl
  | m + 1, D => by
    have e : dAll T n s (m + 1) D = D ∨ dAll T n s (m + 1) D = dAll T n s m (dStmt T n s D) := by
      show (if fltS D.1 = 0 then (if tkc T n D.1 = 0 then D else dAll T n s m (dStmt T n s D)) else D) = D ∨ (if fltS D.1 = 0 then (if tkc T n D.1 = 0 then D else dAll T n s m (dStmt T n s D)) else D) = dAll T n s m (dStmt T n s D)
      by_cases a : fltS D.1 = 0
      · rw [if_pos a]
        by_cases b : tkc T n D.1 = 0
        · rw [if_pos b]; exact Or.inl rfl
        · rw [if_neg b]; exact Or.inr rfl
      · rw [if_neg a]; exact Or.inl rfl
    rcases e with e | e
    · rw [e]
    · rw [e, dAll_o hs h3 ho m, dStmt_o hs h3 ho]
/-- a life at its beginning -/
theorem LR_zero {f : Nat → Nat → Int32} {l : Nat} {g : Nat → Int32} {H N : Nat} (c8 : f l 8 = 0) (c9 : f l 9 = -1) (c10 : f l 10 = 0) (c11 : f l 11 = 0) (c12 : f l 12 = 0) (r1 : ∀ j, j < 8 → f (l + 1) j = 0) (r2 : ∀ j, j < 64 → f (l + 2) j = 0) (r3 : ∀ j, j < 64 → f (l + 3) j = 0) (r4 : ∀ j, j < 8 → f (l + 4) j = 0) (r5 : ∀ j, j < 1152 → f (l + 5) j = 0) (hg : ∀ j, j < 1344 → g j = 0) : LR f l g H N := by
  refine ⟨⟨0, Nat.zero_le _, c8, hg 138 (by decide)⟩, Or.inl ⟨c9, hg 139 (by decide)⟩, ⟨(hg 136 (by decide)).trans c10.symm, (hg 137 (by decide)).trans c11.symm⟩, ⟨0, by decide, c12, hg 140 (by decide), fun k hk => absurd hk (Nat.not_lt_zero k)⟩, fun a ha => ?_, fun a b ha hb => ⟨0, Nat.zero_le _, hg _ (by omega), hg _ (by omega), fun _ => rfl, fun _ => r2 _ (by omega)⟩, fun a b ha hb => ⟨0, Nat.zero_le _, hg _ (by omega), hg _ (by omega), fun _ => rfl, ?_⟩, fun k hk => (hg _ (by omega)).trans (r4 k hk).symm, fun k p hk hp => ⟨0, Nat.zero_le _, r5 _ (by omega), hg _ (by omega)⟩⟩
  · rw [r1 a ha, wedTo_c (g := fun _ => 0) (g2 := g) (fun b hb => hg _ (by omega)) 8 (Nat.le_refl _)]
    refine (set8_ext (wed_8 (fun _ => 0) a) set8_0 (fun i hi => ?_)).symm
    rw [wed_tb (fun _ => 0) a 8 (Nat.le_refl _) i (by omega), tb_0]
    refine decide_eq_false (fun u => u.2 ?_)
    show (0 : Int32) ≤ 0
    decide
  · rw [r3 _ (by omega)]
    split <;> rfl
