/-! THE MODEL'S STATEMENTS: wind and plume -/
section DLaw
variable {T : Nat → Int32} {n s L k : Nat} {q : Nat ⊕ Int32} {F : Nat → Nat → Int32} {N : Nat → Int64}
theorem lw_pair {t : Int32} : lwQ T n s L (dOnce T n k t (q, F, N)) = cChoice T n (cPart T n L s 5) (onceS T n t q, (0, z2 F 3 k 1 (L + 1))) := rfl
theorem dl1 : (dLaw T n s L k (q, F, N)).1 = (cChoice T n (cPart T n L s 5) (onceS T n (F 3 k) q, (0, z2 F 3 k 1 (L + 1)))).1 := (show (dLaw T n s L k (q, F, N)).1 = (lwQ T n s L (dOnce T n k (F 3 k) (q, F, N))).1 from rfl).trans (congrArg Prod.fst lw_pair)
theorem dl2 : (dLaw T n s L k (q, F, N)).2.1 = zr (z2 (z2 F 3 k 1) L 2 (nI (cChoice T n (cPart T n L s 5) (onceS T n (F 3 k) q, (0, z2 F 3 k 1 (L + 1)))).2.1)) (L + 1) (cChoice T n (cPart T n L s 5) (onceS T n (F 3 k) q, (0, z2 F 3 k 1 (L + 1)))).2.2 := (show (dLaw T n s L k (q, F, N)).2.1 = zr (z2 (z2 F 3 k 1) L 2 (nI (lwQ T n s L (dOnce T n k (F 3 k) (q, F, N))).2.1)) (L + 1) (lwQ T n s L (dOnce T n k (F 3 k) (q, F, N))).2.2 from rfl).trans (congrArg (fun X : rQt => zr (z2 (z2 F 3 k 1) L 2 (nI X.2.1)) (L + 1) X.2.2) lw_pair)
end DLaw
theorem chc {T : Nat → Int32} {n : Nat} {c : Int32} {pt : rQt → rQt} {q q2 : rQt} (h : q = q2) : expS T n c (cChoice T n pt q).1 = expS T n c (cChoice T n pt q2).1 := by subst h; rfl
theorem ch2 {T : Nat → Int32} {n : Nat} {pt : rQt → rQt} {q q2 : rQt} {X : Nat × (Nat → Int32)} (h : q = q2) (k : (cChoice T n pt q2).2 = X) : (cChoice T n pt q).2 = X := by subst h; exact k
theorem zrz {G : Nat → Nat → Int32} {L : Nat} {X : Nat × (Nat → Int32)} {m : Nat} {g : Nat → Int32} (h : X = (m, g)) : zr (z2 G L 2 (nI X.1)) (L + 1) X.2 = zr (z2 G L 2 (nI m)) (L + 1) g := by subst h; rfl
section ParseR
variable {T : Nat → Int32} {n L s : Nat}
theorem cPart_r {k : Int32} {X : Nat × (Nat → Int32)} : ∀ m, cPart T n L s m (.inr k, X) = (.inr k, X)
  | 0 => by
    show (if isOp T n L s (.inr k, X) = true then _ else qW T n 1 (.inr k, X)) = _
    rw [if_neg (by unfold isOp; rw [show fctS T n L s (.inr k) = 0 from fct_none, show tkc T n (.inr k) = 1 from rfl, show tkw T n (.inr k) = none from rfl]; decide)]
    rfl
  | m + 1 => by
    show (if isOp T n L s (.inr k, X) = true then _ else qW T n 1 (.inr k, X)) = _
    rw [if_neg (by unfold isOp; rw [show fctS T n L s (.inr k) = 0 from fct_none, show tkc T n (.inr k) = 1 from rfl, show tkw T n (.inr k) = none from rfl]; decide)]
    rfl
theorem cChoice_r {k : Int32} {X : Nat × (Nat → Int32)} (m : Nat) : cChoice T n (cPart T n L s m) (.inr k, X) = (.inr k, X) := by
  have e1 : cProd T n (cPart T n L s m) (.inr k, X) = (.inr k, X) := by
    unfold cProd
    rw [cPart_r m, whl_r (fun j X => rfl) 1000 _ k rfl]
  have e2 : cSum T n (cPart T n L s m) (.inr k, X) = (.inr k, X) := by
    unfold cSum
    rw [e1, whl_r (fun j X => rfl) 1000 _ k rfl]
  have e3 : cTest T n (cPart T n L s m) (.inr k, X) = (.inr k, X) := by
    unfold cTest
    rw [e2]
    exact if_neg (by show ¬ ((1 : Int32) = 60 ∨ (1 : Int32) = 61); decide)
  unfold cChoice
  rw [e3, whl_r (fun j X => rfl) 1000 _ k rfl]
end ParseR
theorem L47_R {w w1 : zW} (h : rdsF w w1) : zL w1 47 = zL w 47 := funext fun k => h.2.2.2.2.1 47 k (by omega)
theorem mFS_R {S : Nat → Nat → Prop} {w w1 : zW} (h : rdsF w w1) (hs : ∀ o k, (s9 o k ∨ (o = 44 ∧ k = 19) ∨ (o = 54 ∧ 1000 ≤ k ∧ k < 2000) ∨ o = 55 ∨ o = 56) → S o k) : mFS S w w1 := by
  refine ⟨h.1, h.2.1, fun o k hk => ?_, fun o k h1 h2 => h.2.2.2.2.1 o k h2⟩
  have hk2 : ¬ (s9 o k ∨ (o = 44 ∧ k = 19) ∨ (o = 54 ∧ 1000 ≤ k ∧ k < 2000) ∨ o = 55 ∨ o = 56) := fun z => hk (hs o k z)
  by_cases z : o = 44
  · subst z
    exact h.2.2.2.1 k (by unfold s9 at hk2; omega)
  · by_cases y : o = 54
    · subst y
      exact h.2.2.2.2.2 k (by omega)
    · exact congrFun (h.2.2.1 o z y (by omega) (by omega)) k
theorem putL_lo (f : Nat → Int32) {j i : Nat} (Y : List Int32) (h : i < j) : putL f j Y i = f i := if_neg (by omega)
theorem putL_at (f : Nat → Int32) (j : Nat) (Y : List Int32) {i : Nat} (h : i < Y.length) : putL f j Y (j + i) = Y.getD i 0 := by
  unfold putL
  rw [if_pos (by omega), Nat.add_sub_cancel_left]
theorem sl_0 (o k : Nat) (z : (fun o k => s9 o k ∨ (o = 44 ∧ (k = 19 ∨ k = 21)) ∨ ((o = 52 ∨ o = 53) ∧ k = 2) ∨ (o = 54 ∧ 1000 ≤ k ∧ k < 2000) ∨ o = 55 ∨ o = 56) o k) : mFx o k := by
  unfold s9 at z
  unfold mFx
  omega
set_option maxRecDepth 100000 in
set_option maxHeartbeats 800000 in
theorem c_Mod_law0_ {w : zW} {n s p j : Nat} {T : Nat → Int32} {F : Nat → Nat → Int32} {N : Nat → Int64} {D2 : rDt} (d1 : D2.1 = expS T n 59 (cChoice T n (cPart T n (s + 6) s 5) (onceS T n (F 3 11) (.inl p), (0, z2 F 3 11 1 ((s + 6) + 1)))).1) (d2 : D2.2.1 = zr (z2 (z2 F 3 11 1) (s + 6) 2 (nI (cChoice T n (cPart T n (s + 6) s 5) (onceS T n (F 3 11) (.inl p), (0, z2 F 3 11 1 ((s + 6) + 1)))).2.1)) ((s + 6) + 1) (cChoice T n (cPart T n (s + 6) s 5) (onceS T n (F 3 11) (.inl p), (0, z2 F 3 11 1 ((s + 6) + 1)))).2.2) (d3 : D2.2.2 = N) (hk_w : mK w n T) (hS : mS w T n p) (h : DR w T s j F N) (hs : 3 < s) (hj : j ≤ 1000 + p) (d : Nat) (hd : 3 ≤ d) : zS 0 0 d m_Mod_readsLaw (stP T n s p w D2) 0 [(0, .ref 44), (1, .int 0)] [] w := by
  obtain ⟨C, R, H, K, U, hDN⟩ := h
  have hj1 : 1000 ≤ j := hDN.2.2.2.2.2.2.2.1
  have hj19 : zI w 44 19 = nI j := hDN.2.2.2.2.2.2.2.2
  have hn1 := hk_w.2.2.1
  have hpn0 : p ≤ n := hS.2.2.2.2.2
  rcases hDN.2.2.2.2.2.1 with ⟨b1, a2, a3, -, -⟩ | ⟨b1, a, Y, -, hY1, -, ha, a5, a6, -, -, -⟩
  · have hkt := mK_I hk_w (k := 21) (by decide) 0
    have hSt := mS_I hS (k := 21) (by omega) 0
    have eq0 : (onceS T n (F 3 11) (.inl p), (0, z2 F 3 11 1 ((s + 6) + 1))) = ((.inl (tEnd T n p), (0, F ((s + 6) + 1))) : rQt) := by rw [onceS_0 b1, z2_ro _ _ _ (by omega)]
    have eD : D2.1 = expS T n 59 (cChoice T n (cPart T n (s + 6) s 5) (.inl (tEnd T n p), (0, F ((s + 6) + 1)))).1 := d1.trans (chc eq0)
    refine z_aload_n (pc := 0) (i := 0) (j := 0) rfl rfl rfl ?_
    refine z_getR (pc := 1) (x := 53) rfl fl_Mod_35 hk_w.1.1 rfl (mr_53 hk_w.1) ?_
    refine z_iconst (pc := 4) (v := 2) rfl (by decide) ?_
    refine z_iload_n (pc := 5) (i := 1) (j := 1) rfl rfl rfl ?_
    refine z_iadd (pc := 6) rfl ?_
    refine z_eqi (y := 2) rfl ?_
    refine z_iald (pc := 7) rfl (mk_53 hk_w.1) (vp_in_nI (n := 2) (by decide) (by decide)) ?_
    refine z_eqi (y := nI 1000) a3 ?_
    refine z_aload_n (pc := 8) (i := 0) (j := 0) rfl rfl rfl ?_
    refine z_getR (pc := 9) (x := 52) rfl fl_Mod_32 hk_w.1.1 rfl (mr_52 hk_w.1) ?_
    refine z_iconst (pc := 12) (v := 2) rfl (by decide) ?_
    refine z_iload_n (pc := 13) (i := 1) (j := 1) rfl rfl rfl ?_
    refine z_iadd (pc := 14) rfl ?_
    refine z_eqi (y := 2) rfl ?_
    refine z_iald (pc := 15) rfl (mk_52 hk_w.1) (vp_in_nI (n := 2) (by decide) (by decide)) ?_
    refine z_eqi (y := nI 1000) a2 ?_
    refine z_icmp_le (pc := 16) (tgt := 25) rfl (by decide) (fun h16 => ?_) (fun h16 => ?_)
    · refine z_aload_n (pc := 25) (i := 0) (j := 0) rfl rfl rfl ?_
      refine z_iload_n (pc := 26) (i := 1) (j := 1) rfl rfl rfl ?_
      refine z_iconst (pc := 27) (v := 1) rfl (by decide) ?_
      refine z_icmp_ne (pc := 28) (tgt := 35) rfl (by decide) (fun h28 => ?_) (fun h28 => ?_)
      · refine z_iconst (pc := 35) (v := 0) rfl (by decide) ?_
        refine z_putZ (pc := 36) rfl fl_Mod_146 hk_w.1.1 rfl (by decide) ?_
        refine z_aload_n (pc := 39) (i := 0) (j := 0) rfl rfl rfl ?_
        refine z_cV (pc := 40) (mc1 := 0) (ms1 := 0) (mc2 := 0) (ms2 := 0) (as := []) (rest := []) (o := 44) rfl rfl hk_w.1.1 ok_Mod_nextToken rfl rfl cl_Mod_174 (by omega) (Nat.le_of_ble_eq_true rfl) (Nat.le_of_ble_eq_true rfl) (Nat.le_refl _) (Nat.le_refl _) (c_Mod_nextToken (w := zsI w 44 21 0) hkt (p := tEnd T n p) (tEnd_le hS.2.2.2.2.2) hSt.1 1 (by decide)) (fun r1 w31 hp => ?_) rfl rfl
        obtain ⟨rfl, hF31, hS31⟩ := hp
        refine ⟨⟨by rw [hF31.1]; exact Nat.le_refl _, Or.inl (by rw [hF31.1] <;> rfl)⟩, ?_⟩
        have hk_w31 := mK_F hkt hF31
        have hN31 : mFS (fun o k => s9 o k ∨ (o = 44 ∧ (k = 19 ∨ k = 21)) ∨ ((o = 52 ∨ o = 53) ∧ k = 2) ∨ (o = 54 ∧ 1000 ≤ k ∧ k < 2000) ∨ o = 55 ∨ o = 56) w w31 := mFS_t (mFS_I _ (Or.inr (Or.inl ⟨rfl, Or.inr rfl⟩))) (mFS_9 (mF9_F hF31) (fun o k z => Or.inl z))
        have h47_31 : zL w31 47 = zL w 47 := (L47_9 (mF9_F hF31)).trans rfl
        have z19 : zI w31 44 19 = nI j := (hF31.2.2.2.1 19 (by decide)).trans hj19
        have z21 : zI w31 44 21 = 0 := hF31.2.2.2.1 21 (by decide)
        refine z_aload_n (pc := 43) (i := 0) (j := 0) rfl rfl rfl ?_
        refine z_getR (pc := 44) (x := 52) rfl fl_Mod_32 hk_w31.1.1 rfl (mr_52 hk_w31.1) ?_
        refine z_iconst (pc := 47) (v := 2) rfl (by decide) ?_
        refine z_iload_n (pc := 48) (i := 1) (j := 1) rfl rfl rfl ?_
        refine z_iadd (pc := 49) rfl ?_
        refine z_eqi (y := 2) rfl ?_
        refine z_aload_n (pc := 50) (i := 0) (j := 0) rfl rfl rfl ?_
        refine z_getI (pc := 51) rfl fl_Mod_139 hk_w31.1.1 rfl ?_
        refine z_eqi (y := nI j) z19 ?_
        refine z_iast (pc := 54) rfl (mk_52 hk_w31.1) (vp_in_nI (n := 2) (by decide) (by decide)) ?_
        refine z_aload_n (pc := 55) (i := 0) (j := 0) rfl rfl rfl ?_
        refine z_cV (pc := 56) (mc1 := 0) (ms1 := 0) (mc2 := 0) (ms2 := 0) (as := []) (rest := []) (o := 44) rfl rfl hk_w31.1.1 ok_Mod_reads rfl rfl cl_Mod_235 (by omega) (Nat.le_of_ble_eq_true rfl) (Nat.le_of_ble_eq_true rfl) (Nat.le_refl _) (Nat.le_refl _) (c_Mod_reads (w0 := zsI w31 52 (2 : Int32).toNatClampNeg (nI j)) (L := (s + 6)) (s := s) (j0 := j) (mK_o hk_w31 _ _ (by decide) (by decide)) (mS_o hS31 (by decide) _) (Or.inl ⟨z21, by omega⟩) z19 hj1 (by have := tBeg_ge T n p; have := tEnd_ge T n p; omega) (0, F ((s + 6) + 1)) 2 (by decide)) (fun r1 w32 hp => ?_) rfl rfl
        obtain ⟨hF32, hR32, hG32⟩ := hp
        refine ⟨⟨by rw [hF32.1]; exact Nat.le_refl _, Or.inl (by rw [hF32.1] <;> rfl)⟩, ?_⟩
        rcases q_or (expS T n 59 (cChoice T n (cPart T n (s + 6) s 5) (.inl (tEnd T n p), (0, F ((s + 6) + 1)))).1) with ⟨k32, hq32⟩ | ⟨p32, hq32⟩
        · skip
          obtain ⟨rfl, h932⟩ := hR32.2 _ hq32
          have hk_w32 := mK_R (mK_o hk_w31 _ _ (by decide) (by decide)) hF32
          have hN32 : mFS (fun o k => s9 o k ∨ (o = 44 ∧ (k = 19 ∨ k = 21)) ∨ ((o = 52 ∨ o = 53) ∧ k = 2) ∨ (o = 54 ∧ 1000 ≤ k ∧ k < 2000) ∨ o = 55 ∨ o = 56) w w32 := mFS_t (mFS_t hN31 (mFS_I _ (Or.inr (Or.inr (Or.inl ⟨Or.inl rfl, rfl⟩))))) (mFS_R hF32 (fun o k z => by unfold s9 at z ⊢; omega))
          have h47_32 : zL w32 47 = zL w 47 := (L47_R hF32).trans (Eq.trans rfl h47_31)
          refine z_if_ne (pc := 59) (tgt := 64) rfl (by decide) (fun h59 => ?_) (fun h59 => ?_)
          · first | exact absurd h59 (by decide) | exact absurd (by decide) h59
          · refine z_iconst (pc := 62) (v := 0) rfl (by decide) ?_
            exact z_zret (pc := 63) rfl rfl (by decide) (stP_bad (mFS_m hN32 sl_0) h932 (eD.trans hq32))
        · skip
          obtain ⟨rfl, hS32⟩ := hR32.1 _ hq32
          have hk_w32 := mK_R (mK_o hk_w31 _ _ (by decide) (by decide)) hF32
          have hN32 : mFS (fun o k => s9 o k ∨ (o = 44 ∧ (k = 19 ∨ k = 21)) ∨ ((o = 52 ∨ o = 53) ∧ k = 2) ∨ (o = 54 ∧ 1000 ≤ k ∧ k < 2000) ∨ o = 55 ∨ o = 56) w w32 := mFS_t (mFS_t hN31 (mFS_I _ (Or.inr (Or.inr (Or.inl ⟨Or.inl rfl, rfl⟩))))) (mFS_R hF32 (fun o k z => by unfold s9 at z ⊢; omega))
          have h47_32 : zL w32 47 = zL w 47 := (L47_R hF32).trans (Eq.trans rfl h47_31)
          obtain ⟨Y, Z, hY, hZ, hX2, h19, hb, h54, hpn, hplt⟩ := hG32 _ hq32
          refine z_if_ne (pc := 59) (tgt := 64) rfl (by decide) (fun h59 => ?_) (fun h59 => ?_)
          · refine z_aload_n (pc := 64) (i := 0) (j := 0) rfl rfl rfl ?_
            refine z_getR (pc := 65) (x := 53) rfl fl_Mod_35 hk_w32.1.1 rfl (mr_53 hk_w32.1) ?_
            refine z_iconst (pc := 68) (v := 2) rfl (by decide) ?_
            refine z_iload_n (pc := 69) (i := 1) (j := 1) rfl rfl rfl ?_
            refine z_iadd (pc := 70) rfl ?_
            refine z_eqi (y := 2) rfl ?_
            refine z_aload_n (pc := 71) (i := 0) (j := 0) rfl rfl rfl ?_
            refine z_getI (pc := 72) rfl fl_Mod_139 hk_w32.1.1 rfl ?_
            refine z_eqi (y := nI (j + Y.length)) h19 ?_
            refine z_iast (pc := 75) rfl (mk_53 hk_w32.1) (vp_in_nI (n := 2) (by decide) (by decide)) ?_
            have hN6 : mFS (fun o k => s9 o k ∨ (o = 44 ∧ (k = 19 ∨ k = 21)) ∨ ((o = 52 ∨ o = 53) ∧ k = 2) ∨ (o = 54 ∧ 1000 ≤ k ∧ k < 2000) ∨ o = 55 ∨ o = 56) w (zsI w32 53 (2 : Int32).toNatClampNeg (nI (j + Y.length))) := mFS_t hN32 (mFS_I _ (Or.inr (Or.inr (Or.inl ⟨Or.inr rfl, rfl⟩))))
            skip
            obtain ⟨V, v1, v2⟩ := law_both hY
            obtain ⟨g2, y1, y2, y3⟩ := adL_n Z 0 (F ((s + 6) + 1)) (by omega)
            have ex2 := (ch2 eq0 hX2).trans (y1.trans (by rw [Nat.zero_add]))
            have eF : D2.2.1 = zr (z2 (z2 F 3 11 1) (s + 6) 2 (nI Z.length)) ((s + 6) + 1) g2 := d2.trans (zrz ex2)
            have hYn := SChoice_ne hY
            have e : ∀ o i, ¬ ((fun o k => s9 o k ∨ (o = 44 ∧ (k = 19 ∨ k = 21)) ∨ ((o = 52 ∨ o = 53) ∧ k = 2) ∨ (o = 54 ∧ 1000 ≤ k ∧ k < 2000) ∨ o = 55 ∨ o = 56)) o i → zI (zsI w32 53 (2 : Int32).toNatClampNeg (nI (j + Y.length))) o i = zI w o i := hN6.2.2.1
            have zq : ∀ o i, o ≠ (s + 6) + 1 → ¬ (o = (s + 6) ∧ i = 2) → ¬ (o = 3 ∧ i = 11) → zr (z2 (z2 F 3 11 1) (s + 6) 2 (nI Z.length)) ((s + 6) + 1) g2 o i = F o i := fun o i q1 q2 q3 => by
              show (if o = (s + 6) + 1 then g2 else _) i = _
              rw [if_neg q1, z2_nt _ _ (by omega), z2_nt _ _ (by omega)]
            have r54 : ∀ i, zI (zsI w32 53 (2 : Int32).toNatClampNeg (nI (j + Y.length))) 54 i = putL (zI w31 54) j Y i := fun i => (zI_nt w32 _ (Or.inl (by decide))).trans ((congrFun h54 i).trans rfl)
            have r54w : ∀ i, zI w31 54 i = zI w 54 i := fun i => (congrFun (hF31.2.2.1 54 (by decide)) i).trans rfl
            have hfin : DR (zsI w32 53 (2 : Int32).toNatClampNeg (nI (j + Y.length))) T s (j + Y.length) D2.2.1 D2.2.2 := by
              rw [eF, d3]
              obtain ⟨c1, c2, c3, c4, c5, c6, c7, c8, c9⟩ := hDN
              refine ⟨C, R, H, K, U, c1, ⟨(zq _ _ (by omega) (by omega) (by omega)).trans c2.1, (zq _ _ (by omega) (by omega) (by omega)).trans c2.2.1, (zq _ _ (by omega) (by omega) (by omega)).trans c2.2.2.1, (zq _ _ (by omega) (by omega) (by omega)).trans c2.2.2.2.1, (zq _ _ (by omega) (by omega) (by omega)).trans c2.2.2.2.2⟩, ⟨(e 46 5 (by unfold s9; omega)).trans c3.1, (e 46 6 (by unfold s9; omega)).trans c3.2.1, (e 46 7 (by unfold s9; omega)).trans c3.2.2.1, (e 46 8 (by unfold s9; omega)).trans c3.2.2.2.1, (e 46 9 (by unfold s9; omega)).trans c3.2.2.2.2⟩, fun h hh => ?_, ?_, ?_, ?_, by omega, ?_⟩
              · exact dHs_c (c4 h hh) (zq _ _ (by omega) (by omega) (by omega)) (zq _ _ (by omega) (by omega) (by omega)) (zq _ _ (by omega) (by omega) (by omega)) (zq _ _ (by omega) (by omega) (by omega)) rfl (e _ _ (by unfold s9; omega)) (e _ _ (by unfold s9; omega)) (e _ _ (by unfold s9; omega)) (e _ _ (by unfold s9; omega)) (congrFun h47_32 h)
              · exact ⟨by rw [zq _ _ (by omega) (by omega) (by omega)]; exact c5.1, by rw [zq _ _ (by omega) (by omega) (by omega)]; exact c5.2.1, by rw [zq _ _ (by omega) (by omega) (by omega)]; exact c5.2.2.1, by rw [zq 3 10 (by omega) (by omega) (by omega), zq 3 13 (by omega) (by omega) (by omega), zq 3 14 (by omega) (by omega) (by omega)]; exact (e 44 20 (by unfold s9; omega)).trans c5.2.2.2⟩
              · refine Or.inr ⟨?_, j, Y, V, hYn, by omega, Nat.le_refl _, ?_, ?_, fun i hi => (r54 (j + i)).trans (putL_at _ _ _ hi), v2, v1 _ (s + 6) ?_ (by omega) (fun i hi => ?_)⟩
                · show (if 3 = (s + 6) + 1 then g2 else _) 11 = _
                  rw [if_neg (by omega), z2_nt _ _ (by omega), z2_at]
                · exact (zI_nt w32 _ (Or.inl (by decide))).trans ((congrFun (hF32.2.2.1 52 (by decide) (by decide) (by decide) (by decide)) 2).trans rfl)
                · rfl
                · show (if (s + 6) = (s + 6) + 1 then g2 else _) 2 = _
                  rw [if_neg (by omega), z2_at]
                · show (if (s + 6) + 1 = (s + 6) + 1 then g2 else _) i = _
                  rw [if_pos rfl]
                  have := y3 i hi
                  rw [Nat.zero_add] at this
                  exact this
              · exact dL_c c7 (zq _ _ (by omega) (by omega) (by omega)) (zq _ _ (by omega) (by omega) (by omega)) (funext fun i => zq _ i (by omega) (by omega) (by omega)) (e _ _ (by unfold s9; omega)) (e _ _ (by unfold s9; omega)) (fun i h1 h2 => (r54 i).trans ((putL_lo _ _ h2).trans (r54w i))) (by omega)
              · exact (zI_nt w32 _ (Or.inl (by decide))).trans h19
            refine z_iconst (pc := 76) (v := 1) rfl (by decide) ?_
            exact z_zret (pc := 77) rfl rfl (by decide) (stP_good (mFS_m hN6 sl_0) (mS_o hS32 (by decide) _) (eD.trans hq32) (by have := tBeg_ge T n p; have := tEnd_ge T n p; omega) ⟨j + Y.length, hfin, hb⟩)
          · first | exact absurd h59 (by decide) | exact absurd (by decide) h59
      · first | exact absurd h28 (by decide) | exact absurd (by decide) h28
    · exact absurd (Int32.le_refl _) h16
  · have hbad : D2.1 = .inr (flA T n 3 p) := by
      rw [d1, onceS_1 (by rw [b1]; decide), cChoice_r, expS_r (by decide)]
    refine z_aload_n (pc := 0) (i := 0) (j := 0) rfl rfl rfl ?_
    refine z_getR (pc := 1) (x := 53) rfl fl_Mod_35 hk_w.1.1 rfl (mr_53 hk_w.1) ?_
    refine z_iconst (pc := 4) (v := 2) rfl (by decide) ?_
    refine z_iload_n (pc := 5) (i := 1) (j := 1) rfl rfl rfl ?_
    refine z_iadd (pc := 6) rfl ?_
    refine z_eqi (y := 2) rfl ?_
    refine z_iald (pc := 7) rfl (mk_53 hk_w.1) (vp_in_nI (n := 2) (by decide) (by decide)) ?_
    refine z_eqi (y := nI (a + Y.length)) a6 ?_
    refine z_aload_n (pc := 8) (i := 0) (j := 0) rfl rfl rfl ?_
    refine z_getR (pc := 9) (x := 52) rfl fl_Mod_32 hk_w.1.1 rfl (mr_52 hk_w.1) ?_
    refine z_iconst (pc := 12) (v := 2) rfl (by decide) ?_
    refine z_iload_n (pc := 13) (i := 1) (j := 1) rfl rfl rfl ?_
    refine z_iadd (pc := 14) rfl ?_
    refine z_eqi (y := 2) rfl ?_
    refine z_iald (pc := 15) rfl (mk_52 hk_w.1) (vp_in_nI (n := 2) (by decide) (by decide)) ?_
    refine z_eqi (y := nI a) a5 ?_
    refine z_icmp_le (pc := 16) (tgt := 25) rfl (by decide) (fun h16 => ?_) (fun h16 => ?_)
    · exact absurd h16 (nI_ge (by omega) (by omega))
    · refine z_aload_n (pc := 19) (i := 0) (j := 0) rfl rfl rfl ?_
      refine z_iconst (pc := 20) (v := 3) rfl (by decide) ?_
      refine z_cV (pc := 21) (mc1 := 0) (ms1 := 0) (mc2 := 0) (ms2 := 0) (as := [.int 3]) (rest := []) (o := 44) rfl rfl hk_w.1.1 ok_Mod_fails rfl rfl cl_Mod_168 (by omega) (Nat.le_of_ble_eq_true rfl) (Nat.le_of_ble_eq_true rfl) (Nat.le_refl _) (Nat.le_refl _) (c_Mod_fails (w := w) hk_w hS 3 0) (fun r1 w1 hp => ?_) rfl rfl
      obtain ⟨rfl, hw1⟩ := hp
      rw [hw1]
      refine ⟨⟨Nat.le_refl _, Or.inl rfl⟩, ?_⟩
      exact z_zret (pc := 24) rfl rfl (by decide) (stP_bad (mFS_m (mFS_I (S := (fun o k => s9 o k ∨ (o = 44 ∧ (k = 19 ∨ k = 21)) ∨ ((o = 52 ∨ o = 53) ∧ k = 2) ∨ (o = 54 ∧ 1000 ≤ k ∧ k < 2000) ∨ o = 55 ∨ o = 56)) _ (Or.inl ⟨rfl, by omega⟩)) sl_0) rfl hbad)
theorem sl_1 (o k : Nat) (z : (fun o k => s9 o k ∨ (o = 44 ∧ (k = 19 ∨ k = 21)) ∨ ((o = 52 ∨ o = 53) ∧ k = 3) ∨ (o = 54 ∧ 1000 ≤ k ∧ k < 2000) ∨ o = 55 ∨ o = 56) o k) : mFx o k := by
  unfold s9 at z
  unfold mFx
  omega
set_option maxRecDepth 100000 in
set_option maxHeartbeats 800000 in
theorem c_Mod_law1_ {w : zW} {n s p j : Nat} {T : Nat → Int32} {F : Nat → Nat → Int32} {N : Nat → Int64} {D2 : rDt} (d1 : D2.1 = expS T n 59 (cChoice T n (cPart T n (s + 9) s 5) (onceS T n (F 3 12) (.inl p), (0, z2 F 3 12 1 ((s + 9) + 1)))).1) (d2 : D2.2.1 = zr (z2 (z2 F 3 12 1) (s + 9) 2 (nI (cChoice T n (cPart T n (s + 9) s 5) (onceS T n (F 3 12) (.inl p), (0, z2 F 3 12 1 ((s + 9) + 1)))).2.1)) ((s + 9) + 1) (cChoice T n (cPart T n (s + 9) s 5) (onceS T n (F 3 12) (.inl p), (0, z2 F 3 12 1 ((s + 9) + 1)))).2.2) (d3 : D2.2.2 = N) (hk_w : mK w n T) (hS : mS w T n p) (h : DR w T s j F N) (hs : 3 < s) (hj : j ≤ 1000 + p) (d : Nat) (hd : 3 ≤ d) : zS 0 0 d m_Mod_readsLaw (stP T n s p w D2) 0 [(0, .ref 44), (1, .int 1)] [] w := by
  obtain ⟨C, R, H, K, U, hDN⟩ := h
  have hj1 : 1000 ≤ j := hDN.2.2.2.2.2.2.2.1
  have hj19 : zI w 44 19 = nI j := hDN.2.2.2.2.2.2.2.2
  have hn1 := hk_w.2.2.1
  have hpn0 : p ≤ n := hS.2.2.2.2.2
  rcases hDN.2.2.2.2.2.2.1 with ⟨b1, a2, a3, -, -⟩ | ⟨b1, a, Y, -, hY1, -, ha, a5, a6, -, -, -⟩
  · have hkt := mK_I hk_w (k := 21) (by decide) 1
    have hSt := mS_I hS (k := 21) (by omega) 1
    have eq0 : (onceS T n (F 3 12) (.inl p), (0, z2 F 3 12 1 ((s + 9) + 1))) = ((.inl (tEnd T n p), (0, F ((s + 9) + 1))) : rQt) := by rw [onceS_0 b1, z2_ro _ _ _ (by omega)]
    have eD : D2.1 = expS T n 59 (cChoice T n (cPart T n (s + 9) s 5) (.inl (tEnd T n p), (0, F ((s + 9) + 1)))).1 := d1.trans (chc eq0)
    refine z_aload_n (pc := 0) (i := 0) (j := 0) rfl rfl rfl ?_
    refine z_getR (pc := 1) (x := 53) rfl fl_Mod_35 hk_w.1.1 rfl (mr_53 hk_w.1) ?_
    refine z_iconst (pc := 4) (v := 2) rfl (by decide) ?_
    refine z_iload_n (pc := 5) (i := 1) (j := 1) rfl rfl rfl ?_
    refine z_iadd (pc := 6) rfl ?_
    refine z_eqi (y := 3) rfl ?_
    refine z_iald (pc := 7) rfl (mk_53 hk_w.1) (vp_in_nI (n := 3) (by decide) (by decide)) ?_
    refine z_eqi (y := nI 1000) a3 ?_
    refine z_aload_n (pc := 8) (i := 0) (j := 0) rfl rfl rfl ?_
    refine z_getR (pc := 9) (x := 52) rfl fl_Mod_32 hk_w.1.1 rfl (mr_52 hk_w.1) ?_
    refine z_iconst (pc := 12) (v := 2) rfl (by decide) ?_
    refine z_iload_n (pc := 13) (i := 1) (j := 1) rfl rfl rfl ?_
    refine z_iadd (pc := 14) rfl ?_
    refine z_eqi (y := 3) rfl ?_
    refine z_iald (pc := 15) rfl (mk_52 hk_w.1) (vp_in_nI (n := 3) (by decide) (by decide)) ?_
    refine z_eqi (y := nI 1000) a2 ?_
    refine z_icmp_le (pc := 16) (tgt := 25) rfl (by decide) (fun h16 => ?_) (fun h16 => ?_)
    · refine z_aload_n (pc := 25) (i := 0) (j := 0) rfl rfl rfl ?_
      refine z_iload_n (pc := 26) (i := 1) (j := 1) rfl rfl rfl ?_
      refine z_iconst (pc := 27) (v := 1) rfl (by decide) ?_
      refine z_icmp_ne (pc := 28) (tgt := 35) rfl (by decide) (fun h28 => ?_) (fun h28 => ?_)
      · first | exact absurd h28 (by decide) | exact absurd (by decide) h28
      · refine z_iconst (pc := 31) (v := 1) rfl (by decide) ?_
        refine z_goto (pc := 32) (tgt := 36) rfl (by decide) ?_
        refine z_putZ (pc := 36) rfl fl_Mod_146 hk_w.1.1 rfl (by decide) ?_
        refine z_aload_n (pc := 39) (i := 0) (j := 0) rfl rfl rfl ?_
        refine z_cV (pc := 40) (mc1 := 0) (ms1 := 0) (mc2 := 0) (ms2 := 0) (as := []) (rest := []) (o := 44) rfl rfl hk_w.1.1 ok_Mod_nextToken rfl rfl cl_Mod_174 (by omega) (Nat.le_of_ble_eq_true rfl) (Nat.le_of_ble_eq_true rfl) (Nat.le_refl _) (Nat.le_refl _) (c_Mod_nextToken (w := zsI w 44 21 1) hkt (p := tEnd T n p) (tEnd_le hS.2.2.2.2.2) hSt.1 1 (by decide)) (fun r1 w31 hp => ?_) rfl rfl
        obtain ⟨rfl, hF31, hS31⟩ := hp
        refine ⟨⟨by rw [hF31.1]; exact Nat.le_refl _, Or.inl (by rw [hF31.1] <;> rfl)⟩, ?_⟩
        have hk_w31 := mK_F hkt hF31
        have hN31 : mFS (fun o k => s9 o k ∨ (o = 44 ∧ (k = 19 ∨ k = 21)) ∨ ((o = 52 ∨ o = 53) ∧ k = 3) ∨ (o = 54 ∧ 1000 ≤ k ∧ k < 2000) ∨ o = 55 ∨ o = 56) w w31 := mFS_t (mFS_I _ (Or.inr (Or.inl ⟨rfl, Or.inr rfl⟩))) (mFS_9 (mF9_F hF31) (fun o k z => Or.inl z))
        have h47_31 : zL w31 47 = zL w 47 := (L47_9 (mF9_F hF31)).trans rfl
        have z19 : zI w31 44 19 = nI j := (hF31.2.2.2.1 19 (by decide)).trans hj19
        have z21 : zI w31 44 21 = 1 := hF31.2.2.2.1 21 (by decide)
        refine z_aload_n (pc := 43) (i := 0) (j := 0) rfl rfl rfl ?_
        refine z_getR (pc := 44) (x := 52) rfl fl_Mod_32 hk_w31.1.1 rfl (mr_52 hk_w31.1) ?_
        refine z_iconst (pc := 47) (v := 2) rfl (by decide) ?_
        refine z_iload_n (pc := 48) (i := 1) (j := 1) rfl rfl rfl ?_
        refine z_iadd (pc := 49) rfl ?_
        refine z_eqi (y := 3) rfl ?_
        refine z_aload_n (pc := 50) (i := 0) (j := 0) rfl rfl rfl ?_
        refine z_getI (pc := 51) rfl fl_Mod_139 hk_w31.1.1 rfl ?_
        refine z_eqi (y := nI j) z19 ?_
        refine z_iast (pc := 54) rfl (mk_52 hk_w31.1) (vp_in_nI (n := 3) (by decide) (by decide)) ?_
        refine z_aload_n (pc := 55) (i := 0) (j := 0) rfl rfl rfl ?_
        refine z_cV (pc := 56) (mc1 := 0) (ms1 := 0) (mc2 := 0) (ms2 := 0) (as := []) (rest := []) (o := 44) rfl rfl hk_w31.1.1 ok_Mod_reads rfl rfl cl_Mod_235 (by omega) (Nat.le_of_ble_eq_true rfl) (Nat.le_of_ble_eq_true rfl) (Nat.le_refl _) (Nat.le_refl _) (c_Mod_reads (w0 := zsI w31 52 (3 : Int32).toNatClampNeg (nI j)) (L := (s + 9)) (s := s) (j0 := j) (mK_o hk_w31 _ _ (by decide) (by decide)) (mS_o hS31 (by decide) _) (Or.inr ⟨z21, rfl⟩) z19 hj1 (by have := tBeg_ge T n p; have := tEnd_ge T n p; omega) (0, F ((s + 9) + 1)) 2 (by decide)) (fun r1 w32 hp => ?_) rfl rfl
        obtain ⟨hF32, hR32, hG32⟩ := hp
        refine ⟨⟨by rw [hF32.1]; exact Nat.le_refl _, Or.inl (by rw [hF32.1] <;> rfl)⟩, ?_⟩
        rcases q_or (expS T n 59 (cChoice T n (cPart T n (s + 9) s 5) (.inl (tEnd T n p), (0, F ((s + 9) + 1)))).1) with ⟨k32, hq32⟩ | ⟨p32, hq32⟩
        · skip
          obtain ⟨rfl, h932⟩ := hR32.2 _ hq32
          have hk_w32 := mK_R (mK_o hk_w31 _ _ (by decide) (by decide)) hF32
          have hN32 : mFS (fun o k => s9 o k ∨ (o = 44 ∧ (k = 19 ∨ k = 21)) ∨ ((o = 52 ∨ o = 53) ∧ k = 3) ∨ (o = 54 ∧ 1000 ≤ k ∧ k < 2000) ∨ o = 55 ∨ o = 56) w w32 := mFS_t (mFS_t hN31 (mFS_I _ (Or.inr (Or.inr (Or.inl ⟨Or.inl rfl, rfl⟩))))) (mFS_R hF32 (fun o k z => by unfold s9 at z ⊢; omega))
          have h47_32 : zL w32 47 = zL w 47 := (L47_R hF32).trans (Eq.trans rfl h47_31)
          refine z_if_ne (pc := 59) (tgt := 64) rfl (by decide) (fun h59 => ?_) (fun h59 => ?_)
          · first | exact absurd h59 (by decide) | exact absurd (by decide) h59
          · refine z_iconst (pc := 62) (v := 0) rfl (by decide) ?_
            exact z_zret (pc := 63) rfl rfl (by decide) (stP_bad (mFS_m hN32 sl_1) h932 (eD.trans hq32))
        · skip
          obtain ⟨rfl, hS32⟩ := hR32.1 _ hq32
          have hk_w32 := mK_R (mK_o hk_w31 _ _ (by decide) (by decide)) hF32
          have hN32 : mFS (fun o k => s9 o k ∨ (o = 44 ∧ (k = 19 ∨ k = 21)) ∨ ((o = 52 ∨ o = 53) ∧ k = 3) ∨ (o = 54 ∧ 1000 ≤ k ∧ k < 2000) ∨ o = 55 ∨ o = 56) w w32 := mFS_t (mFS_t hN31 (mFS_I _ (Or.inr (Or.inr (Or.inl ⟨Or.inl rfl, rfl⟩))))) (mFS_R hF32 (fun o k z => by unfold s9 at z ⊢; omega))
          have h47_32 : zL w32 47 = zL w 47 := (L47_R hF32).trans (Eq.trans rfl h47_31)
          obtain ⟨Y, Z, hY, hZ, hX2, h19, hb, h54, hpn, hplt⟩ := hG32 _ hq32
          refine z_if_ne (pc := 59) (tgt := 64) rfl (by decide) (fun h59 => ?_) (fun h59 => ?_)
          · refine z_aload_n (pc := 64) (i := 0) (j := 0) rfl rfl rfl ?_
            refine z_getR (pc := 65) (x := 53) rfl fl_Mod_35 hk_w32.1.1 rfl (mr_53 hk_w32.1) ?_
            refine z_iconst (pc := 68) (v := 2) rfl (by decide) ?_
            refine z_iload_n (pc := 69) (i := 1) (j := 1) rfl rfl rfl ?_
            refine z_iadd (pc := 70) rfl ?_
            refine z_eqi (y := 3) rfl ?_
            refine z_aload_n (pc := 71) (i := 0) (j := 0) rfl rfl rfl ?_
            refine z_getI (pc := 72) rfl fl_Mod_139 hk_w32.1.1 rfl ?_
            refine z_eqi (y := nI (j + Y.length)) h19 ?_
            refine z_iast (pc := 75) rfl (mk_53 hk_w32.1) (vp_in_nI (n := 3) (by decide) (by decide)) ?_
            have hN6 : mFS (fun o k => s9 o k ∨ (o = 44 ∧ (k = 19 ∨ k = 21)) ∨ ((o = 52 ∨ o = 53) ∧ k = 3) ∨ (o = 54 ∧ 1000 ≤ k ∧ k < 2000) ∨ o = 55 ∨ o = 56) w (zsI w32 53 (3 : Int32).toNatClampNeg (nI (j + Y.length))) := mFS_t hN32 (mFS_I _ (Or.inr (Or.inr (Or.inl ⟨Or.inr rfl, rfl⟩))))
            skip
            obtain ⟨V, v1, v2⟩ := law_both hY
            obtain ⟨g2, y1, y2, y3⟩ := adL_n Z 0 (F ((s + 9) + 1)) (by omega)
            have ex2 := (ch2 eq0 hX2).trans (y1.trans (by rw [Nat.zero_add]))
            have eF : D2.2.1 = zr (z2 (z2 F 3 12 1) (s + 9) 2 (nI Z.length)) ((s + 9) + 1) g2 := d2.trans (zrz ex2)
            have hYn := SChoice_ne hY
            have e : ∀ o i, ¬ ((fun o k => s9 o k ∨ (o = 44 ∧ (k = 19 ∨ k = 21)) ∨ ((o = 52 ∨ o = 53) ∧ k = 3) ∨ (o = 54 ∧ 1000 ≤ k ∧ k < 2000) ∨ o = 55 ∨ o = 56)) o i → zI (zsI w32 53 (3 : Int32).toNatClampNeg (nI (j + Y.length))) o i = zI w o i := hN6.2.2.1
            have zq : ∀ o i, o ≠ (s + 9) + 1 → ¬ (o = (s + 9) ∧ i = 2) → ¬ (o = 3 ∧ i = 12) → zr (z2 (z2 F 3 12 1) (s + 9) 2 (nI Z.length)) ((s + 9) + 1) g2 o i = F o i := fun o i q1 q2 q3 => by
              show (if o = (s + 9) + 1 then g2 else _) i = _
              rw [if_neg q1, z2_nt _ _ (by omega), z2_nt _ _ (by omega)]
            have r54 : ∀ i, zI (zsI w32 53 (3 : Int32).toNatClampNeg (nI (j + Y.length))) 54 i = putL (zI w31 54) j Y i := fun i => (zI_nt w32 _ (Or.inl (by decide))).trans ((congrFun h54 i).trans rfl)
            have r54w : ∀ i, zI w31 54 i = zI w 54 i := fun i => (congrFun (hF31.2.2.1 54 (by decide)) i).trans rfl
            have hfin : DR (zsI w32 53 (3 : Int32).toNatClampNeg (nI (j + Y.length))) T s (j + Y.length) D2.2.1 D2.2.2 := by
              rw [eF, d3]
              obtain ⟨c1, c2, c3, c4, c5, c6, c7, c8, c9⟩ := hDN
              refine ⟨C, R, H, K, U, c1, ⟨(zq _ _ (by omega) (by omega) (by omega)).trans c2.1, (zq _ _ (by omega) (by omega) (by omega)).trans c2.2.1, (zq _ _ (by omega) (by omega) (by omega)).trans c2.2.2.1, (zq _ _ (by omega) (by omega) (by omega)).trans c2.2.2.2.1, (zq _ _ (by omega) (by omega) (by omega)).trans c2.2.2.2.2⟩, ⟨(e 46 5 (by unfold s9; omega)).trans c3.1, (e 46 6 (by unfold s9; omega)).trans c3.2.1, (e 46 7 (by unfold s9; omega)).trans c3.2.2.1, (e 46 8 (by unfold s9; omega)).trans c3.2.2.2.1, (e 46 9 (by unfold s9; omega)).trans c3.2.2.2.2⟩, fun h hh => ?_, ?_, ?_, ?_, by omega, ?_⟩
              · exact dHs_c (c4 h hh) (zq _ _ (by omega) (by omega) (by omega)) (zq _ _ (by omega) (by omega) (by omega)) (zq _ _ (by omega) (by omega) (by omega)) (zq _ _ (by omega) (by omega) (by omega)) rfl (e _ _ (by unfold s9; omega)) (e _ _ (by unfold s9; omega)) (e _ _ (by unfold s9; omega)) (e _ _ (by unfold s9; omega)) (congrFun h47_32 h)
              · exact ⟨by rw [zq _ _ (by omega) (by omega) (by omega)]; exact c5.1, by rw [zq _ _ (by omega) (by omega) (by omega)]; exact c5.2.1, by rw [zq _ _ (by omega) (by omega) (by omega)]; exact c5.2.2.1, by rw [zq 3 10 (by omega) (by omega) (by omega), zq 3 13 (by omega) (by omega) (by omega), zq 3 14 (by omega) (by omega) (by omega)]; exact (e 44 20 (by unfold s9; omega)).trans c5.2.2.2⟩
              · exact dL_c c6 (zq _ _ (by omega) (by omega) (by omega)) (zq _ _ (by omega) (by omega) (by omega)) (funext fun i => zq _ i (by omega) (by omega) (by omega)) (e _ _ (by unfold s9; omega)) (e _ _ (by unfold s9; omega)) (fun i h1 h2 => (r54 i).trans ((putL_lo _ _ h2).trans (r54w i))) (by omega)
              · refine Or.inr ⟨?_, j, Y, V, hYn, by omega, Nat.le_refl _, ?_, ?_, fun i hi => (r54 (j + i)).trans (putL_at _ _ _ hi), v2, v1 _ (s + 9) ?_ (by omega) (fun i hi => ?_)⟩
                · show (if 3 = (s + 9) + 1 then g2 else _) 12 = _
                  rw [if_neg (by omega), z2_nt _ _ (by omega), z2_at]
                · exact (zI_nt w32 _ (Or.inl (by decide))).trans ((congrFun (hF32.2.2.1 52 (by decide) (by decide) (by decide) (by decide)) 3).trans rfl)
                · rfl
                · show (if (s + 9) = (s + 9) + 1 then g2 else _) 2 = _
                  rw [if_neg (by omega), z2_at]
                · show (if (s + 9) + 1 = (s + 9) + 1 then g2 else _) i = _
                  rw [if_pos rfl]
                  have := y3 i hi
                  rw [Nat.zero_add] at this
                  exact this
              · exact (zI_nt w32 _ (Or.inl (by decide))).trans h19
            refine z_iconst (pc := 76) (v := 1) rfl (by decide) ?_
            exact z_zret (pc := 77) rfl rfl (by decide) (stP_good (mFS_m hN6 sl_1) (mS_o hS32 (by decide) _) (eD.trans hq32) (by have := tBeg_ge T n p; have := tEnd_ge T n p; omega) ⟨j + Y.length, hfin, hb⟩)
          · first | exact absurd h59 (by decide) | exact absurd (by decide) h59
    · exact absurd (Int32.le_refl _) h16
  · have hbad : D2.1 = .inr (flA T n 3 p) := by
      rw [d1, onceS_1 (by rw [b1]; decide), cChoice_r, expS_r (by decide)]
    refine z_aload_n (pc := 0) (i := 0) (j := 0) rfl rfl rfl ?_
    refine z_getR (pc := 1) (x := 53) rfl fl_Mod_35 hk_w.1.1 rfl (mr_53 hk_w.1) ?_
    refine z_iconst (pc := 4) (v := 2) rfl (by decide) ?_
    refine z_iload_n (pc := 5) (i := 1) (j := 1) rfl rfl rfl ?_
    refine z_iadd (pc := 6) rfl ?_
    refine z_eqi (y := 3) rfl ?_
    refine z_iald (pc := 7) rfl (mk_53 hk_w.1) (vp_in_nI (n := 3) (by decide) (by decide)) ?_
    refine z_eqi (y := nI (a + Y.length)) a6 ?_
    refine z_aload_n (pc := 8) (i := 0) (j := 0) rfl rfl rfl ?_
    refine z_getR (pc := 9) (x := 52) rfl fl_Mod_32 hk_w.1.1 rfl (mr_52 hk_w.1) ?_
    refine z_iconst (pc := 12) (v := 2) rfl (by decide) ?_
    refine z_iload_n (pc := 13) (i := 1) (j := 1) rfl rfl rfl ?_
    refine z_iadd (pc := 14) rfl ?_
    refine z_eqi (y := 3) rfl ?_
    refine z_iald (pc := 15) rfl (mk_52 hk_w.1) (vp_in_nI (n := 3) (by decide) (by decide)) ?_
    refine z_eqi (y := nI a) a5 ?_
    refine z_icmp_le (pc := 16) (tgt := 25) rfl (by decide) (fun h16 => ?_) (fun h16 => ?_)
    · exact absurd h16 (nI_ge (by omega) (by omega))
    · refine z_aload_n (pc := 19) (i := 0) (j := 0) rfl rfl rfl ?_
      refine z_iconst (pc := 20) (v := 3) rfl (by decide) ?_
      refine z_cV (pc := 21) (mc1 := 0) (ms1 := 0) (mc2 := 0) (ms2 := 0) (as := [.int 3]) (rest := []) (o := 44) rfl rfl hk_w.1.1 ok_Mod_fails rfl rfl cl_Mod_168 (by omega) (Nat.le_of_ble_eq_true rfl) (Nat.le_of_ble_eq_true rfl) (Nat.le_refl _) (Nat.le_refl _) (c_Mod_fails (w := w) hk_w hS 3 0) (fun r1 w1 hp => ?_) rfl rfl
      obtain ⟨rfl, hw1⟩ := hp
      rw [hw1]
      refine ⟨⟨Nat.le_refl _, Or.inl rfl⟩, ?_⟩
      exact z_zret (pc := 24) rfl rfl (by decide) (stP_bad (mFS_m (mFS_I (S := (fun o k => s9 o k ∨ (o = 44 ∧ (k = 19 ∨ k = 21)) ∨ ((o = 52 ∨ o = 53) ∧ k = 3) ∨ (o = 54 ∧ 1000 ≤ k ∧ k < 2000) ∨ o = 55 ∨ o = 56)) _ (Or.inl ⟨rfl, by omega⟩)) sl_1) rfl hbad)
