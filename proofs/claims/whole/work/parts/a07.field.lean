/-! THE MODEL'S STATEMENTS: field, cold, turns -/
theorem q_or (q : Nat ⊕ Int32) : (∃ k, q = .inr k) ∨ ∃ p, q = .inl p := by
  cases q with
  | inl p => exact Or.inr ⟨p, rfl⟩
  | inr k => exact Or.inl ⟨k, rfl⟩
theorem nwc {T : Nat → Int32} {n : Nat} {a b : Int32} {q0 q1 q2 : Nat ⊕ Int32} (h1 : q0 = q1) (h2 : (numW T n a b q1).2 = q2) : (numW T n a b q0).2 = q2 := by subst h1; exact h2
theorem nwv {T : Nat → Int32} {n : Nat} {a b v : Int32} {q0 q1 : Nat ⊕ Int32} (h1 : q0 = q1) (h2 : (numW T n a b q1).1 = v) : (numW T n a b q0).1 = v := by subst h1; exact h2
theorem exc {T : Nat → Int32} {n : Nat} {c : Int32} {q0 q1 q2 : Nat ⊕ Int32} (h1 : q0 = q1) (h2 : expS T n c q1 = q2) : expS T n c q0 = q2 := by subst h1; exact h2
theorem ewc {T : Nat → Int32} {n : Nat} {c : Option Nat} {q0 q1 q2 : Nat ⊕ Int32} (h1 : q0 = q1) (h2 : expW T n c q1 = q2) : expW T n c q0 = q2 := by subst h1; exact h2
theorem z2z {G : Nat → Nat → Int32} {s a b : Nat} {x x2 y y2 : Int32} (h1 : x = x2) (h2 : y = y2) : z2 (z2 G s a x) s b y = z2 (z2 G s a x2) s b y2 := by subst h1; subst h2; rfl
theorem z1z {G : Nat → Nat → Int32} {s a : Nat} {x x2 : Int32} (h1 : x = x2) : z2 G s a x = z2 G s a x2 := by subst h1; rfl
theorem s9_x (o k : Nat) (h : s9 o k) : mFx o k := by unfold s9 at h; unfold mFx; omega
theorem L47_9 {w w1 : zW} (h : mF9 w w1) : zL w1 47 = zL w 47 := funext fun k => h.2.2.2.2 47 k (by omega)
theorem stP_bad {T : Nat → Int32} {n s p : Nat} {w w1 : zW} {D : rDt} {k : Int32} (hF : mFR w w1) (h9 : zI w1 44 9 = k) (e : D.1 = .inr k) : stP T n s p w D (some (.int 0)) w1 := ⟨hF, by rw [e]; exact mRs_r h9, fun p1 e1 => by rw [e] at e1; cases e1⟩
theorem stP_good {T : Nat → Int32} {n s p p1 : Nat} {w w1 : zW} {D : rDt} (hF : mFR w w1) (hS : mS w1 T n p1) (e : D.1 = .inl p1) (hp : p < p1) (hD : ∃ j, DR w1 T s j D.2.1 D.2.2 ∧ j ≤ 1000 + p1) : stP T n s p w D (some (.int 1)) w1 := ⟨hF, by rw [e]; exact mRs_l hS, fun p2 e1 => by rw [e] at e1; obtain rfl := Sum.inl.inj e1; exact ⟨hp, hS.2.2.2.2.2, hD⟩⟩
theorem mK_o {w : zW} {n : Nat} {T : Nat → Int32} (h : mK w n T) {o : Nat} (k : Nat) (x : Int32) (h1 : o ≠ 44) (h2 : o ≠ 45) : mK (zsI w o k x) n T := ⟨h.1, (zI_nt w x (Or.inl (fun e => h1 e.symm))).trans h.2.1, h.2.2.1, (zI_ne w k x (fun e => h2 e.symm)).trans h.2.2.2.1, h.2.2.2.2⟩
theorem c_twice {w : zW} (hm : zMo w) {x b v : Int32} (hb : (if (zI w 44 20 >>> (x &&& 31)) &&& 1 = 1 then 1 else 0 : Int32) = b) (hv : b = 0 → zI w 44 20 ||| (1 <<< (x &&& 31)) = v) (d : Nat) : zS 0 0 d m_Mod_isTwice (fun rv w1 => rv = some (.int b) ∧ w1 = if b = 0 then zsI w 44 20 v else w) 0 [(0, .ref 44), (1, .int x)] [] w := by
  refine z_mono ?_ (c_Mod_isTwice ⟨hm, trivial⟩ x d)
  intro r w1 h
  refine ⟨h.1.trans (by rw [hb]), h.2.trans ?_⟩
  by_cases q : (zI w 44 20 >>> (x &&& 31)) &&& 1 = 1
  · rw [if_pos q] at hb ⊢
    rw [if_neg (by rw [← hb]; decide)]
  · rw [if_neg q] at hb ⊢
    rw [if_pos hb.symm, hv hb.symm]
theorem onceS_0 {T : Nat → Int32} {n p : Nat} {t : Int32} (h : t = 0) : onceS T n t (.inl p) = .inl (tEnd T n p) := if_pos h
theorem onceS_1 {T : Nat → Int32} {n p : Nat} {t : Int32} (h : ¬ t = 0) : onceS T n t (.inl p) = .inr (flA T n 3 p) := if_neg h
theorem sf_x (o k : Nat) (z : (fun o k => s9 o k ∨ (o = 44 ∧ k = 20) ∨ (o = 46 ∧ (k = 5 ∨ k = 6))) o k) : mFx o k := by
  unfold s9 at z
  unfold mFx
  omega
theorem nxt_le {T : Nat → Int32} {n p p1 : Nat} (h : nxt T n (.inl p) = .inl p1) : p ≤ p1 := by
  obtain rfl := Sum.inl.inj h
  exact Nat.le_trans (tBeg_ge T n p) (tEnd_ge T n p)
theorem numW_le {T : Nat → Int32} {n p p1 : Nat} {a b : Int32} (h : (numW T n a b (.inl p)).2 = .inl p1) : p ≤ p1 := by
  obtain ⟨-, -, -, h4⟩ := numW_g h
  exact nxt_le (h4.symm.trans h)
theorem expS_le {T : Nat → Int32} {n p p1 : Nat} {c : Int32} (h : expS T n c (.inl p) = .inl p1) : p ≤ p1 := by
  unfold expS at h
  by_cases q : tkc T n (.inl p) = c
  · rw [if_pos q] at h; exact nxt_le h
  · rw [if_neg q] at h; cases h
theorem expS_lt {T : Nat → Int32} {n p p1 : Nat} (h : expS T n 59 (.inl p) = .inl p1) : p < p1 := by
  unfold expS at h
  by_cases q : tkc T n (.inl p) = 59
  · rw [if_pos q] at h
    obtain rfl := Sum.inl.inj h
    have h1 := tEnd_lt (T := T) (n := n) (p := p) (tC_lt (by rw [show tC T n p = 59 from q]; decide))
    have h2 := tBeg_ge T n p
    omega
  · rw [if_neg q] at h; cases h
theorem expW_le {T : Nat → Int32} {n p p1 : Nat} {c : Option Nat} (h : expW T n c (.inl p) = .inl p1) : p ≤ p1 := by
  unfold expW at h
  split at h
  · exact nxt_le h
  · cases h
theorem pchain_f {T : Nat → Int32} {n p a b c : Nat} {x y u v : Int32} (h1 : (numW T n x y (.inl (tEnd T n p))).2 = .inl a) (h2 : (numW T n u v (.inl a)).2 = .inl b) (h3 : expS T n 59 (.inl b) = .inl c) : p < c := by
  have := numW_le h1
  have := numW_le h2
  have := expS_lt h3
  have := tBeg_ge T n p
  have := tEnd_ge T n p
  omega
set_option maxRecDepth 100000 in
set_option maxHeartbeats 400000 in
theorem c_readsField_ {w : zW} {n s p j : Nat} {T : Nat → Int32} {F : Nat → Nat → Int32} {N : Nat → Int64} {D2 : rDt} (d1 : D2.1 = expS T n 59 (numW T n 1 12 (numW T n 1 12 (onceS T n (fTold s F) (.inl p))).2).2) (d2 : D2.2.1 = z2 (z2 (z2 F 3 10 1) s 7 (numW T n 1 12 (onceS T n (fTold s F) (.inl p))).1) s 8 (numW T n 1 12 (numW T n 1 12 (onceS T n (fTold s F) (.inl p))).2).1) (d3 : D2.2.2 = N) (hk_w : mK w n T) (hS : mS w T n p) (h : DR w T s j F N) (hs : 3 < s) (hj : j ≤ 1000 + p) (d : Nat) (hd : 3 ≤ d) : zS 0 0 d m_Mod_readsField (stP T n s p w D2) 0 [(0, .ref 44)] [] w := by
  obtain ⟨C, R, H, K, U, hDN⟩ := h
  have a2 := hDN.2.1
  have hH8 := hDN.1.2.2.1
  have hC : dC w F := hDN.2.2.2.2.1
  have hkt := mK_I hk_w (k := 20) (by decide) (1 + 4 * F 3 13 + 8 * F 3 14)
  have hSt := mS_I hS (k := 20) (by omega) (1 + 4 * F 3 13 + 8 * F 3 14)
  have h469 : zI w 46 9 = nI H := hDN.2.2.1.2.2.2.2
  have hb0 : fTold s F ≠ 0 → D2.1 = .inr (flA T n 3 p) := fun z => d1.trans (exc (nwc (nwc (onceS_1 z) numW_r) numW_r) (expS_r (by decide)))
  by_cases ht : F 3 10 = 0
  · have hbad2 : ¬ nI H ≤ 0 → D2.1 = .inr (flA T n 3 p) := fun z => hb0 (by unfold fTold; rw [if_pos ht, if_neg (by rw [a2.2.2.2.2]; exact z)]; decide)
    refine z_aload_n (pc := 0) (i := 0) (j := 0) rfl rfl rfl ?_
    refine z_iconst (pc := 1) (v := 0) rfl (by decide) ?_
    refine z_cV (pc := 2) (mc1 := 0) (ms1 := 0) (mc2 := 0) (ms2 := 0) (as := [.int 0]) (rest := []) (o := 44) rfl rfl hk_w.1.1 ok_Mod_isTwice rfl rfl cl_Mod_224 (by omega) (Nat.le_of_ble_eq_true rfl) (Nat.le_of_ble_eq_true rfl) (Nat.le_refl _) (Nat.le_refl _) (c_twice hk_w.1 (x := 0) (b := F 3 10) (v := 1 + 4 * F 3 13 + 8 * F 3 14) (told_0 hC).1 (told_0 hC).2 0) (fun r1 w1 hp => ?_) rfl rfl
    obtain ⟨rfl, hw1⟩ := hp
    rw [if_pos ht] at hw1
    rw [hw1]
    refine ⟨⟨Nat.le_refl _, Or.inl rfl⟩, ?_⟩
    refine z_if_ne (pc := 5) (tgt := 18) rfl (by decide) (fun h5 => ?_) (fun h5 => ?_)
    · exact absurd ht h5
    · refine z_aload_n (pc := 8) (i := 0) (j := 0) rfl rfl rfl ?_
      refine z_getR (pc := 9) (x := 46) rfl fl_Mod_13 hk_w.1.1 rfl (mr_46 hk_w.1) ?_
      refine z_bipush (pc := 12) (v := 9) rfl (by decide) ?_
      refine z_iald (pc := 14) rfl (mk_46 hk_w.1) (vp_in_nI (n := 9) (by decide) (by decide)) ?_
      refine z_eqi (y := nI H) (by exact h469) ?_
      refine z_if_le (pc := 15) (tgt := 24) rfl (by decide) (fun h15 => ?_) (fun h15 => ?_)
      · refine z_aload_n (pc := 24) (i := 0) (j := 0) rfl rfl rfl ?_
        refine z_cV (pc := 25) (mc1 := 0) (ms1 := 0) (mc2 := 0) (ms2 := 0) (as := []) (rest := []) (o := 44) rfl rfl hk_w.1.1 ok_Mod_nextToken rfl rfl cl_Mod_174 (by omega) (Nat.le_of_ble_eq_true rfl) (Nat.le_of_ble_eq_true rfl) (Nat.le_refl _) (Nat.le_refl _) (c_Mod_nextToken (w := zsI w 44 20 (1 + 4 * F 3 13 + 8 * F 3 14)) hkt (p := tEnd T n p) (tEnd_le hS.2.2.2.2.2) hSt.1 1 (by decide)) (fun r1 w31 hp => ?_) rfl rfl
        obtain ⟨rfl, hF31, hS31⟩ := hp
        refine ⟨⟨by rw [hF31.1]; exact Nat.le_refl _, Or.inl (by rw [hF31.1] <;> rfl)⟩, ?_⟩
        have hH0 : H = 0 := Decidable.byContradiction (fun z => absurd h15 (nI_nle (Nat.pos_of_ne_zero z) (by omega)))
        have hk_w31 := mK_F hkt hF31
        have hN31 : mFS (fun o k => s9 o k ∨ (o = 44 ∧ k = 20) ∨ (o = 46 ∧ (k = 5 ∨ k = 6))) w w31 := mFS_t (mFS_I _ (Or.inr (Or.inl ⟨rfl, rfl⟩))) (mFS_9 (mF9_F hF31) (fun o k z => Or.inl z))
        have h47_31 : zL w31 47 = zL w 47 := (L47_9 (mF9_F hF31)).trans rfl
        have e31 := onceS_0 (T := T) (n := n) (p := p) (t := fTold s F) (by unfold fTold; rw [if_pos ht, if_pos (by rw [a2.2.2.2.2, hH0]; decide)])
        refine z_aload_n (pc := 28) (i := 0) (j := 0) rfl rfl rfl ?_
        refine z_iconst (pc := 29) (v := 1) rfl (by decide) ?_
        refine z_bipush (pc := 30) (v := 12) rfl (by decide) ?_
        refine z_cV (pc := 32) (mc1 := 0) (ms1 := 0) (mc2 := 0) (ms2 := 0) (as := [.int 1, .int 12]) (rest := []) (o := 44) rfl rfl hk_w31.1.1 ok_Mod_needsNumber rfl rfl cl_Mod_227 (by omega) (Nat.le_of_ble_eq_true rfl) (Nat.le_of_ble_eq_true rfl) (Nat.le_refl _) (Nat.le_refl _) (c_Mod_needsNumber (w := w31) hk_w31 hS31 1 12 2 (by decide)) (fun r1 w32 hp => ?_) rfl rfl
        obtain ⟨hF32, hR32, hG32⟩ := hp
        refine ⟨⟨by rw [hF32.1]; exact Nat.le_refl _, Or.inl (by rw [hF32.1] <;> rfl)⟩, ?_⟩
        rcases q_or ((numW T n 1 12 (.inl (tEnd T n p))).2) with ⟨k32, hq32⟩ | ⟨p32, hq32⟩
        · skip
          obtain ⟨rfl, h932⟩ := hR32.2 _ hq32
          have hk_w32 := mK_9 hk_w31 hF32
          have hN32 : mFS (fun o k => s9 o k ∨ (o = 44 ∧ k = 20) ∨ (o = 46 ∧ (k = 5 ∨ k = 6))) w w32 := mFS_t hN31 (mFS_9 hF32 (fun o k z => Or.inl z))
          have h47_32 : zL w32 47 = zL w 47 := (L47_9 hF32).trans h47_31
          refine z_if_ne (pc := 35) (tgt := 40) rfl (by decide) (fun h35 => ?_) (fun h35 => ?_)
          · first | exact absurd h35 (by decide) | exact absurd (by decide) h35
          · refine z_iconst (pc := 38) (v := 0) rfl (by decide) ?_
            exact z_zret (pc := 39) rfl rfl (by decide) (stP_bad (mFS_m hN32 sf_x) h932 (d1.trans (exc (nwc (nwc e31 hq32) numW_r) (expS_r (by decide)))))
        · skip
          obtain ⟨rfl, hS32⟩ := hR32.1 _ hq32
          have hk_w32 := mK_9 hk_w31 hF32
          have hN32 : mFS (fun o k => s9 o k ∨ (o = 44 ∧ k = 20) ∨ (o = 46 ∧ (k = 5 ∨ k = 6))) w w32 := mFS_t hN31 (mFS_9 hF32 (fun o k z => Or.inl z))
          have h47_32 : zL w32 47 = zL w 47 := (L47_9 hF32).trans h47_31
          obtain ⟨c, hc1, hc2, hc⟩ := numW_v (a := 1) (b := 12) (by decide) (by decide) hq32
          refine z_if_ne (pc := 35) (tgt := 40) rfl (by decide) (fun h35 => ?_) (fun h35 => ?_)
          · refine z_aload_n (pc := 40) (i := 0) (j := 0) rfl rfl rfl ?_
            refine z_getR (pc := 41) (x := 46) rfl fl_Mod_13 hk_w32.1.1 rfl (mr_46 hk_w32.1) ?_
            refine z_iconst (pc := 44) (v := 5) rfl (by decide) ?_
            refine z_aload_n (pc := 45) (i := 0) (j := 0) rfl rfl rfl ?_
            refine z_getI (pc := 46) rfl fl_Mod_218 hk_w32.1.1 rfl ?_
            refine z_eqi (y := nI c) ((hG32 _ hq32).trans hc) ?_
            refine z_iast (pc := 49) rfl (mk_46 hk_w32.1) (vp_in_nI (n := 5) (by decide) (by decide)) ?_
            refine z_aload_n (pc := 50) (i := 0) (j := 0) rfl rfl rfl ?_
            refine z_iconst (pc := 51) (v := 1) rfl (by decide) ?_
            refine z_bipush (pc := 52) (v := 12) rfl (by decide) ?_
            refine z_cV (pc := 54) (mc1 := 0) (ms1 := 0) (mc2 := 0) (ms2 := 0) (as := [.int 1, .int 12]) (rest := []) (o := 44) rfl rfl hk_w32.1.1 ok_Mod_needsNumber rfl rfl cl_Mod_227 (by omega) (Nat.le_of_ble_eq_true rfl) (Nat.le_of_ble_eq_true rfl) (Nat.le_refl _) (Nat.le_refl _) (c_Mod_needsNumber (w := zsI w32 46 (5 : Int32).toNatClampNeg (nI c)) (mK_o hk_w32 _ _ (by decide) (by decide)) (mS_o hS32 (by decide) _) 1 12 2 (by decide)) (fun r1 w33 hp => ?_) rfl rfl
            obtain ⟨hF33, hR33, hG33⟩ := hp
            refine ⟨⟨by rw [hF33.1]; exact Nat.le_refl _, Or.inl (by rw [hF33.1] <;> rfl)⟩, ?_⟩
            rcases q_or ((numW T n 1 12 (.inl p32)).2) with ⟨k33, hq33⟩ | ⟨p33, hq33⟩
            · skip
              obtain ⟨rfl, h933⟩ := hR33.2 _ hq33
              have hk_w33 := mK_9 (mK_o hk_w32 _ _ (by decide) (by decide)) hF33
              have hN33 : mFS (fun o k => s9 o k ∨ (o = 44 ∧ k = 20) ∨ (o = 46 ∧ (k = 5 ∨ k = 6))) w w33 := mFS_t (mFS_t hN32 (mFS_I _ (Or.inr (Or.inr ⟨rfl, Or.inl rfl⟩)))) (mFS_9 hF33 (fun o k z => Or.inl z))
              have h47_33 : zL w33 47 = zL w 47 := (L47_9 hF33).trans h47_32
              refine z_if_ne (pc := 57) (tgt := 62) rfl (by decide) (fun h57 => ?_) (fun h57 => ?_)
              · first | exact absurd h57 (by decide) | exact absurd (by decide) h57
              · refine z_iconst (pc := 60) (v := 0) rfl (by decide) ?_
                exact z_zret (pc := 61) rfl rfl (by decide) (stP_bad (mFS_m hN33 sf_x) h933 (d1.trans (exc (nwc (nwc e31 hq32) hq33) (expS_r (by decide)))))
            · skip
              obtain ⟨rfl, hS33⟩ := hR33.1 _ hq33
              have hk_w33 := mK_9 (mK_o hk_w32 _ _ (by decide) (by decide)) hF33
              have hN33 : mFS (fun o k => s9 o k ∨ (o = 44 ∧ k = 20) ∨ (o = 46 ∧ (k = 5 ∨ k = 6))) w w33 := mFS_t (mFS_t hN32 (mFS_I _ (Or.inr (Or.inr ⟨rfl, Or.inl rfl⟩)))) (mFS_9 hF33 (fun o k z => Or.inl z))
              have h47_33 : zL w33 47 = zL w 47 := (L47_9 hF33).trans h47_32
              obtain ⟨r, hr1, hr2, hr⟩ := numW_v (a := 1) (b := 12) (by decide) (by decide) hq33
              refine z_if_ne (pc := 57) (tgt := 62) rfl (by decide) (fun h57 => ?_) (fun h57 => ?_)
              · refine z_aload_n (pc := 62) (i := 0) (j := 0) rfl rfl rfl ?_
                refine z_getR (pc := 63) (x := 46) rfl fl_Mod_13 hk_w33.1.1 rfl (mr_46 hk_w33.1) ?_
                refine z_bipush (pc := 66) (v := 6) rfl (by decide) ?_
                refine z_aload_n (pc := 68) (i := 0) (j := 0) rfl rfl rfl ?_
                refine z_getI (pc := 69) rfl fl_Mod_218 hk_w33.1.1 rfl ?_
                refine z_eqi (y := nI r) ((hG33 _ hq33).trans hr) ?_
                refine z_iast (pc := 72) rfl (mk_46 hk_w33.1) (vp_in_nI (n := 6) (by decide) (by decide)) ?_
                refine z_aload_n (pc := 73) (i := 0) (j := 0) rfl rfl rfl ?_
                refine z_cV (pc := 74) (mc1 := 0) (ms1 := 0) (mc2 := 0) (ms2 := 0) (as := []) (rest := []) (o := 44) rfl rfl hk_w33.1.1 ok_Mod_ends rfl rfl cl_Mod_231 (by omega) (Nat.le_of_ble_eq_true rfl) (Nat.le_of_ble_eq_true rfl) (Nat.le_refl _) (Nat.le_refl _) (c_Mod_ends (w := zsI w33 46 (6 : Int32).toNatClampNeg (nI r)) (mK_o hk_w33 _ _ (by decide) (by decide)) (mS_o hS33 (by decide) _) 2 (by decide)) (fun r1 w34 hp => ?_) rfl rfl
                obtain ⟨hF34, hR34⟩ := hp
                refine ⟨⟨by rw [hF34.1]; exact Nat.le_refl _, Or.inl (by rw [hF34.1] <;> rfl)⟩, ?_⟩
                rcases q_or (expS T n 59 (.inl p33)) with ⟨k34, hq34⟩ | ⟨p34, hq34⟩
                · skip
                  obtain ⟨rfl, h934⟩ := hR34.2 _ hq34
                  have hN34 : mFS (fun o k => s9 o k ∨ (o = 44 ∧ k = 20) ∨ (o = 46 ∧ (k = 5 ∨ k = 6))) w w34 := mFS_t (mFS_t hN33 (mFS_I _ (Or.inr (Or.inr ⟨rfl, Or.inr rfl⟩)))) (mFS_9 hF34 (fun o k z => Or.inl z))
                  have h47_34 : zL w34 47 = zL w 47 := (L47_9 hF34).trans h47_33
                  have eD : D2.1 = expS T n 59 (.inl p33) := d1.trans (exc (nwc (nwc e31 hq32) hq33) rfl)
                  exact z_zret (pc := 77) rfl rfl (by decide) (stP_bad (mFS_m hN34 sf_x) h934 (eD.trans hq34))
                · skip
                  obtain ⟨rfl, hS34⟩ := hR34.1 _ hq34
                  have hN34 : mFS (fun o k => s9 o k ∨ (o = 44 ∧ k = 20) ∨ (o = 46 ∧ (k = 5 ∨ k = 6))) w w34 := mFS_t (mFS_t hN33 (mFS_I _ (Or.inr (Or.inr ⟨rfl, Or.inr rfl⟩)))) (mFS_9 hF34 (fun o k z => Or.inl z))
                  have h47_34 : zL w34 47 = zL w 47 := (L47_9 hF34).trans h47_33
                  have eD : D2.1 = expS T n 59 (.inl p33) := d1.trans (exc (nwc (nwc e31 hq32) hq33) rfl)
                  have q3 := tEnd_ge T n p
                  have eF : D2.2.1 = z2 (z2 (z2 F 3 10 1) s 7 (nI c)) s 8 (nI r) := d2.trans (z2z (nwv e31 hc) (nwv (nwc e31 hq32) hr))
                  have z5 : zI w34 46 5 = nI c := (congrFun (hF34.2.2.1 46 (by decide)) 5).trans ((congrFun (hF33.2.2.1 46 (by decide)) 5))
                  have z6 : zI w34 46 6 = nI r := congrFun (hF34.2.2.1 46 (by decide)) 6
                  have z20 : zI w34 44 20 = 1 + 4 * F 3 13 + 8 * F 3 14 := (hF34.2.2.2.1 20 (by decide)).trans ((hF33.2.2.2.1 20 (by decide)).trans ((hF32.2.2.2.1 20 (by decide)).trans (hF31.2.2.2.1 20 (by decide))))
                  have hp34 : p < p34 := pchain_f hq32 hq33 hq34
                  exact z_zret (pc := 77) rfl rfl (by decide) (stP_good (mFS_m hN34 sf_x) hS34 (eD.trans hq34) hp34 ⟨j, by rw [eF, d3]; exact ⟨c, r, H, K, U, DN_field hDN hs hH0 ⟨hc1, hc2⟩ ⟨hr1, hr2⟩ hN34 h47_34 z5 z6 z20⟩, by omega⟩)
              · first | exact absurd h57 (by decide) | exact absurd (by decide) h57
          · first | exact absurd h35 (by decide) | exact absurd (by decide) h35
      · refine z_aload_n (pc := 18) (i := 0) (j := 0) rfl rfl rfl ?_
        refine z_iconst (pc := 19) (v := 3) rfl (by decide) ?_
        refine z_cV (pc := 20) (mc1 := 0) (ms1 := 0) (mc2 := 0) (ms2 := 0) (as := [.int 3]) (rest := []) (o := 44) rfl rfl hk_w.1.1 ok_Mod_fails rfl rfl cl_Mod_168 (by omega) (Nat.le_of_ble_eq_true rfl) (Nat.le_of_ble_eq_true rfl) (Nat.le_refl _) (Nat.le_refl _) (c_Mod_fails (w := zsI w 44 20 (1 + 4 * F 3 13 + 8 * F 3 14)) hkt hSt 3 0) (fun r1 w1 hp => ?_) rfl rfl
        obtain ⟨rfl, hw1⟩ := hp
        rw [hw1]
        refine ⟨⟨Nat.le_refl _, Or.inl rfl⟩, ?_⟩
        exact z_zret (pc := 23) rfl rfl (by decide) (stP_bad (mFS_m (mFS_t (mFS_I (S := (fun o k => s9 o k ∨ (o = 44 ∧ k = 20) ∨ (o = 46 ∧ (k = 5 ∨ k = 6)))) _ (Or.inr (Or.inl ⟨rfl, rfl⟩))) (mFS_I _ (Or.inl ⟨rfl, by omega⟩))) sf_x) rfl (hbad2 h15))
  · have hbad : D2.1 = .inr (flA T n 3 p) := hb0 (by unfold fTold; rw [if_neg ht]; decide)
    refine z_aload_n (pc := 0) (i := 0) (j := 0) rfl rfl rfl ?_
    refine z_iconst (pc := 1) (v := 0) rfl (by decide) ?_
    refine z_cV (pc := 2) (mc1 := 0) (ms1 := 0) (mc2 := 0) (ms2 := 0) (as := [.int 0]) (rest := []) (o := 44) rfl rfl hk_w.1.1 ok_Mod_isTwice rfl rfl cl_Mod_224 (by omega) (Nat.le_of_ble_eq_true rfl) (Nat.le_of_ble_eq_true rfl) (Nat.le_refl _) (Nat.le_refl _) (c_twice hk_w.1 (x := 0) (b := F 3 10) (v := 1 + 4 * F 3 13 + 8 * F 3 14) (told_0 hC).1 (told_0 hC).2 0) (fun r1 w1 hp => ?_) rfl rfl
    obtain ⟨rfl, hw1⟩ := hp
    rw [if_neg ht] at hw1
    rw [hw1]
    refine ⟨⟨Nat.le_refl _, Or.inl rfl⟩, ?_⟩
    refine z_if_ne (pc := 5) (tgt := 18) rfl (by decide) (fun h5 => ?_) (fun h5 => ?_)
    · refine z_aload_n (pc := 18) (i := 0) (j := 0) rfl rfl rfl ?_
      refine z_iconst (pc := 19) (v := 3) rfl (by decide) ?_
      refine z_cV (pc := 20) (mc1 := 0) (ms1 := 0) (mc2 := 0) (ms2 := 0) (as := [.int 3]) (rest := []) (o := 44) rfl rfl hk_w.1.1 ok_Mod_fails rfl rfl cl_Mod_168 (by omega) (Nat.le_of_ble_eq_true rfl) (Nat.le_of_ble_eq_true rfl) (Nat.le_refl _) (Nat.le_refl _) (c_Mod_fails (w := w) hk_w hS 3 0) (fun r1 w1 hp => ?_) rfl rfl
      obtain ⟨rfl, hw1⟩ := hp
      rw [hw1]
      refine ⟨⟨Nat.le_refl _, Or.inl rfl⟩, ?_⟩
      exact z_zret (pc := 23) rfl rfl (by decide) (stP_bad (mFS_m (mFS_I (S := (fun o k => s9 o k ∨ (o = 44 ∧ k = 20) ∨ (o = 46 ∧ (k = 5 ∨ k = 6)))) _ (Or.inl ⟨rfl, by omega⟩)) sf_x) rfl hbad)
    · exact absurd h5 ht
theorem c_Mod_readsField {w : zW} {n s p j : Nat} {T : Nat → Int32} {F : Nat → Nat → Int32} {N : Nat → Int64} (hk_w : mK w n T) (hS : mS w T n p) (h : DR w T s j F N) (hs : 3 < s) (hj : j ≤ 1000 + p) (d : Nat) (hd : 3 ≤ d) : zS 0 0 d m_Mod_readsField (stP T n s p w (expS T n 59 (dField T n s (.inl p, F, N)).1, (dField T n s (.inl p, F, N)).2)) 0 [(0, .ref 44)] [] w := c_readsField_ rfl rfl rfl hk_w hS h hs hj d hd
