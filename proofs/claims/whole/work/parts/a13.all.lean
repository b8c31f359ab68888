/-! THE MODEL READS ALL: statement by statement, as the object's draft says -/
section DGen
variable {T : Nat → Int32} {n s L k : Nat} {D : rDt} {q : Nat ⊕ Int32}
theorem df1 (h : D.1 = q) : (dField T n s D).1 = (numW T n 1 12 (numW T n 1 12 (onceS T n (fTold s D.2.1) q)).2).2 := by subst h; rfl
theorem df2 (h : D.1 = q) : (dField T n s D).2.1 = z2 (z2 (z2 D.2.1 3 10 1) s 7 (numW T n 1 12 (onceS T n (fTold s D.2.1) q)).1) s 8 (numW T n 1 12 (numW T n 1 12 (onceS T n (fTold s D.2.1) q)).2).1 := by subst h; rfl
theorem df3 : (dField T n s D).2.2 = D.2.2 := rfl
theorem dc1 (h : D.1 = q) : (dCold T n s D).1 = (numW T n 0 99 (onceS T n (D.2.1 3 13) q)).2 := by subst h; rfl
theorem dc2 (h : D.1 = q) : (dCold T n s D).2.1 = z2 (z2 D.2.1 3 13 1) s 9 (numW T n 0 99 (onceS T n (D.2.1 3 13) q)).1 := by subst h; rfl
theorem dc3 : (dCold T n s D).2.2 = D.2.2 := rfl
theorem dt1 (h : D.1 = q) : (dTurn T n s D).1 = (numW T n 0 10 (onceS T n (D.2.1 3 14) q)).2 := by subst h; rfl
theorem dt2 (h : D.1 = q) : (dTurn T n s D).2.1 = z2 (z2 D.2.1 3 14 1) s 10 (numW T n 0 10 (onceS T n (D.2.1 3 14) q)).1 := by subst h; rfl
theorem dt3 : (dTurn T n s D).2.2 = D.2.2 := rfl
theorem dlg1 (h : D.1 = q) : (dLaw T n s L k D).1 = (cChoice T n (cPart T n L s 5) (onceS T n (D.2.1 3 k) q, (0, z2 D.2.1 3 k 1 (L + 1)))).1 := by
  obtain ⟨q0, F, N⟩ := D
  have h : q0 = q := h
  subst h
  exact dl1
theorem dlg2 (h : D.1 = q) : (dLaw T n s L k D).2.1 = zr (z2 (z2 D.2.1 3 k 1) L 2 (nI (cChoice T n (cPart T n L s 5) (onceS T n (D.2.1 3 k) q, (0, z2 D.2.1 3 k 1 (L + 1)))).2.1)) (L + 1) (cChoice T n (cPart T n L s 5) (onceS T n (D.2.1 3 k) q, (0, z2 D.2.1 3 k 1 (L + 1)))).2.2 := by
  obtain ⟨q0, F, N⟩ := D
  have h : q0 = q := h
  subst h
  exact dl2
theorem dlg3 : (dLaw T n s L k D).2.2 = D.2.2 := rfl
theorem dS_e {E : rDt} (h : dStm T n s D = E) : (dStmt T n s D).1 = expS T n 59 E.1 ∧ (dStmt T n s D).2.1 = E.2.1 ∧ (dStmt T n s D).2.2 = E.2.2 := by subst h; exact ⟨rfl, rfl, rfl⟩
theorem dS_0 (h : tkw T n D.1 = some 1000000) : dStm T n s D = dField T n s D := if_pos h
theorem dS_1 (h0 : ¬ tkw T n D.1 = some 1000000) (h : tkw T n D.1 = some 1000001) : dStm T n s D = dLaw T n s (s + 6) 11 D := (if_neg h0).trans (if_pos h)
theorem dS_2 (h0 : ¬ tkw T n D.1 = some 1000000) (h1 : ¬ tkw T n D.1 = some 1000001) (h : tkw T n D.1 = some 1000002) : dStm T n s D = dLaw T n s (s + 9) 12 D := (if_neg h0).trans ((if_neg h1).trans (if_pos h))
theorem dS_3 (h0 : ¬ tkw T n D.1 = some 1000000) (h1 : ¬ tkw T n D.1 = some 1000001) (h2 : ¬ tkw T n D.1 = some 1000002) (h : tkw T n D.1 = some 1000003) : dStm T n s D = dCold T n s D := (if_neg h0).trans ((if_neg h1).trans ((if_neg h2).trans (if_pos h)))
theorem dS_4 (h0 : ¬ tkw T n D.1 = some 1000000) (h1 : ¬ tkw T n D.1 = some 1000001) (h2 : ¬ tkw T n D.1 = some 1000002) (h3 : ¬ tkw T n D.1 = some 1000003) (h : tkw T n D.1 = some 1000004) : dStm T n s D = dTurn T n s D := (if_neg h0).trans ((if_neg h1).trans ((if_neg h2).trans ((if_neg h3).trans (if_pos h))))
theorem dS_5 (h0 : ¬ tkw T n D.1 = some 1000000) (h1 : ¬ tkw T n D.1 = some 1000001) (h2 : ¬ tkw T n D.1 = some 1000002) (h3 : ¬ tkw T n D.1 = some 1000003) (h4 : ¬ tkw T n D.1 = some 1000004) (h : tkw T n D.1 = some 1000005) : dStm T n s D = dHouse T n s D := (if_neg h0).trans ((if_neg h1).trans ((if_neg h2).trans ((if_neg h3).trans ((if_neg h4).trans (if_pos h)))))
theorem dS_6 (h0 : ¬ tkw T n D.1 = some 1000000) (h1 : ¬ tkw T n D.1 = some 1000001) (h2 : ¬ tkw T n D.1 = some 1000002) (h3 : ¬ tkw T n D.1 = some 1000003) (h4 : ¬ tkw T n D.1 = some 1000004) (h5 : ¬ tkw T n D.1 = some 1000005) : dStm T n s D = (wrg T n 1 D.1, D.2) := (if_neg h0).trans ((if_neg h1).trans ((if_neg h2).trans ((if_neg h3).trans ((if_neg h4).trans (if_neg h5)))))
end DGen
section StAll
variable {w : zW} {n s p j : Nat} {T : Nat → Int32} {D : rDt}
theorem st_field (hD : D.1 = .inl p) (hw : tkw T n D.1 = some 1000000) (hk : mK w n T) (hS : mS w T n p) (h : DR w T s j D.2.1 D.2.2) (hs : 3 < s) (hj : j ≤ 1000 + p) (d : Nat) (hd : 3 ≤ d) : zS 0 0 d m_Mod_readsField (stP T n s p w (dStmt T n s D)) 0 [(0, .ref 44)] [] w := by
  obtain ⟨e1, e2, e3⟩ := dS_e (dS_0 (s := s) hw)
  rw [df1 hD] at e1
  rw [df2 hD] at e2
  exact c_readsField_ e1 e2 e3 hk hS h hs hj d hd
theorem st_wind (hD : D.1 = .inl p) (h0 : ¬ tkw T n D.1 = some 1000000) (hw : tkw T n D.1 = some 1000001) (hk : mK w n T) (hS : mS w T n p) (h : DR w T s j D.2.1 D.2.2) (hs : 3 < s) (hj : j ≤ 1000 + p) (d : Nat) (hd : 3 ≤ d) : zS 0 0 d m_Mod_readsLaw (stP T n s p w (dStmt T n s D)) 0 [(0, .ref 44), (1, .int 0)] [] w := by
  obtain ⟨e1, e2, e3⟩ := dS_e (dS_1 (s := s) h0 hw)
  rw [dlg1 hD] at e1
  rw [dlg2 hD] at e2
  exact c_Mod_law0_ e1 e2 e3 hk hS h hs hj d hd
theorem st_plume (hD : D.1 = .inl p) (h0 : ¬ tkw T n D.1 = some 1000000) (h1 : ¬ tkw T n D.1 = some 1000001) (hw : tkw T n D.1 = some 1000002) (hk : mK w n T) (hS : mS w T n p) (h : DR w T s j D.2.1 D.2.2) (hs : 3 < s) (hj : j ≤ 1000 + p) (d : Nat) (hd : 3 ≤ d) : zS 0 0 d m_Mod_readsLaw (stP T n s p w (dStmt T n s D)) 0 [(0, .ref 44), (1, .int 1)] [] w := by
  obtain ⟨e1, e2, e3⟩ := dS_e (dS_2 (s := s) h0 h1 hw)
  rw [dlg1 hD] at e1
  rw [dlg2 hD] at e2
  exact c_Mod_law1_ e1 e2 e3 hk hS h hs hj d hd
theorem st_cold (hD : D.1 = .inl p) (h0 : ¬ tkw T n D.1 = some 1000000) (h1 : ¬ tkw T n D.1 = some 1000001) (h2 : ¬ tkw T n D.1 = some 1000002) (hw : tkw T n D.1 = some 1000003) (hk : mK w n T) (hS : mS w T n p) (h : DR w T s j D.2.1 D.2.2) (hs : 3 < s) (hj : j ≤ 1000 + p) (d : Nat) (hd : 3 ≤ d) : zS 0 0 d m_Mod_readsOne (stP T n s p w (dStmt T n s D)) 0 [(0, .ref 44), (1, .int 2), (2, .int 99)] [] w := by
  obtain ⟨e1, e2, e3⟩ := dS_e (dS_3 (s := s) h0 h1 h2 hw)
  rw [dc1 hD] at e1
  rw [dc2 hD] at e2
  exact c_Mod_cold_ e1 e2 e3 hk hS h hs hj d hd
theorem st_turns (hD : D.1 = .inl p) (h0 : ¬ tkw T n D.1 = some 1000000) (h1 : ¬ tkw T n D.1 = some 1000001) (h2 : ¬ tkw T n D.1 = some 1000002) (h3 : ¬ tkw T n D.1 = some 1000003) (hw : tkw T n D.1 = some 1000004) (hk : mK w n T) (hS : mS w T n p) (h : DR w T s j D.2.1 D.2.2) (hs : 3 < s) (hj : j ≤ 1000 + p) (d : Nat) (hd : 3 ≤ d) : zS 0 0 d m_Mod_readsOne (stP T n s p w (dStmt T n s D)) 0 [(0, .ref 44), (1, .int 3), (2, .int 10)] [] w := by
  obtain ⟨e1, e2, e3⟩ := dS_e (dS_4 (s := s) h0 h1 h2 h3 hw)
  rw [dt1 hD] at e1
  rw [dt2 hD] at e2
  exact c_Mod_turns_ e1 e2 e3 hk hS h hs hj d hd
theorem st_house (hD : D.1 = .inl p) (h0 : ¬ tkw T n D.1 = some 1000000) (h1 : ¬ tkw T n D.1 = some 1000001) (h2 : ¬ tkw T n D.1 = some 1000002) (h3 : ¬ tkw T n D.1 = some 1000003) (h4 : ¬ tkw T n D.1 = some 1000004) (hw : tkw T n D.1 = some 1000005) (hk : mK w n T) (hS : mS w T n p) (h : DR w T s j D.2.1 D.2.2) (hs : 3 < s) (hj : j ≤ 1000 + p) (d : Nat) (hd : 3 ≤ d) : zS 0 0 d m_Mod_readsHouse (stP T n s p w (dStmt T n s D)) 0 [(0, .ref 44)] [] w := by
  obtain ⟨e1, e2, e3⟩ := dS_e (dS_5 (s := s) h0 h1 h2 h3 h4 hw)
  rw [dHouse_1] at e1
  obtain ⟨C, R, H, K, U, hDN⟩ := h
  have a1 := hDN.1
  have a2 := hDN.2.1
  have eN : hNo s D = H := by unfold hNo; rw [a2.2.2.2.2]; exact nI_clamp (by omega)
  refine c_readsHouse_ (Q2 := hQ2 T n s D) (Q3 := newS T n D.2.2 H (hQ2 T n s D)) (Q4 := hQ4 T n s D) (cl := hCl T n s D) (rq := hRw T n s D) (Q7 := hQ7 T n s D) (Q8 := expW T n (some 1000007) (hQ7 T n s D)) (hi := hHi T n s D) (QE := hQe T n s D) hDN (fun hH => ?_) (fun hH => ?_) rfl ?_ ?_ ?_ ?_ rfl rfl rfl e1 (fun p1 hq => ?_) hk hS hs hj d hd
  · unfold hQ2
    rw [if_pos (by rw [a2.2.2.2.2]; exact nI_lt hH (by decide)), hD]
    rfl
  · unfold hQ2
    rw [if_neg (by rw [a2.2.2.2.2]; exact nI_nlt (a := H) (b := 8) (by omega) (by omega)), hD]
    rfl
  · unfold hQ4; rw [eN]
  · unfold hCl; rw [a2.1, nI_m1 a1.1.1]
  · unfold hRw; rw [a2.2.1, nI_m1 a1.2.1.1]
  · unfold hQ7; rw [eN]
  · have e : dHouse T n s D = (hQe T n s D, hF5 T n s D, vp_updL D.2.2 (hNo s D) (keyS T n (hQ2 T n s D))) := by
      unfold dHouse
      exact if_pos (by rw [hq]; rfl)
    rw [e] at e2 e3
    rw [eN] at e3
    refine ⟨e2.trans ?_, e3⟩
    show hF5 T n s D = _
    unfold hF5 hKd
    rw [eN]
end StAll
def raP (T : Nat → Int32) (n s : Nat) (w0 : zW) (D : rDt) (rv : Option Value) (w1 : zW) : Prop := mFR w0 w1 ∧ (∀ p1, D.1 = .inl p1 → rv = some (.int 1) ∧ ∃ j, j ≤ 2000 ∧ DR w1 T s j D.2.1 D.2.2) ∧ ∀ k, D.1 = .inr k → rv = some (.int 0) ∧ zI w1 44 9 = k
theorem dAll_e {T : Nat → Int32} {n s m p : Nat} {D : rDt} (hD : D.1 = .inl p) (h : tC T n p = 0) : dAll T n s (m + 1) D = D := by
  show (if fltS D.1 = 0 then (if tkc T n D.1 = 0 then D else dAll T n s m (dStmt T n s D)) else D) = D
  rw [hD]
  rw [if_pos (show fltS (.inl p) = 0 from rfl), if_pos (show tkc T n (.inl p) = 0 from h)]
theorem dAll_s {T : Nat → Int32} {n s m p : Nat} {D : rDt} (hD : D.1 = .inl p) (h : ¬ tC T n p = 0) : dAll T n s (m + 1) D = dAll T n s m (dStmt T n s D) := by
  show (if fltS D.1 = 0 then (if tkc T n D.1 = 0 then D else dAll T n s m (dStmt T n s D)) else D) = _
  rw [hD]
  rw [if_pos (show fltS (.inl p) = 0 from rfl), if_neg (show ¬ tkc T n (.inl p) = 0 from h)]
theorem dAll_b {T : Nat → Int32} {n s : Nat} {k : Int32} (hk : k ≠ 0) : ∀ (m : Nat) {D : rDt}, D.1 = .inr k → dAll T n s m D = D
  | 0, _, _ => rfl
  | m + 1, D, hD => by
    show (if fltS D.1 = 0 then (if tkc T n D.1 = 0 then D else dAll T n s m (dStmt T n s D)) else D) = D
    rw [hD]
    rw [if_neg (show ¬ fltS (.inr k) = 0 from hk)]
set_option maxRecDepth 100000 in
set_option maxHeartbeats 800000 in
theorem l_readsAll {T : Nat → Int32} {n s dd : Nat} {w0 : zW} (hs : 3 < s) (hn : n ≤ 1000) (hdd : 4 ≤ dd) : ∀ (m : Nat) (w : zW) (p j : Nat) (D : rDt), n + 1 ≤ p + m → D.1 = .inl p → mFR w0 w → mK w n T → mS w T n p → DR w T s j D.2.1 D.2.2 → j ≤ 1000 + p → zS 0 0 dd m_Mod_readsAll (raP T n s w0 (dAll T n s m D)) 39 [(0, .ref 44)] [] w := by
  intro m
  induction m with
  | zero =>
    intro w p j D hm hD h0 hk_w hS hDR hj
    have := hS.2.2.2.2.2
    omega
  | succ m ih =>
    intro w p j D hm hD h0 hk_w hS hDR hj
    have hpn0 : p ≤ n := hS.2.2.2.2.2
    have hend : tC T n p = 0 → raP T n s w0 (dAll T n s (m + 1) D) (some (.int 1)) w := fun z => by
      rw [dAll_e hD z]
      exact ⟨h0, fun p1 _ => ⟨rfl, j, by omega, hDR⟩, fun k e => by rw [hD] at e; cases e⟩
    by_cases hc : tC T n p = 0
    · skip
      refine z_aload_n (pc := 39) (i := 0) (j := 0) rfl rfl rfl ?_
      refine z_getI (pc := 40) rfl fl_Mod_125 hk_w.1.1 rfl ?_
      refine z_eqi (y := tM T n p) hS.2.2.1 ?_
      refine z_if_eq (pc := 43) (tgt := 171) rfl (by decide) (fun h43 => ?_) (fun h43 => ?_)
      · refine z_iconst (pc := 171) (v := 1) rfl (by decide) ?_
        exact z_zret (pc := 172) rfl rfl (by decide) (hend hc)
      · exact absurd ((t0_iff T n p).mpr hc) h43
    have hok : okS n (dStmt T n s D).1 := by
      obtain ⟨q0, F0, N0⟩ := D
      have hD : q0 = .inl p := hD
      rw [hD]
      exact dStmt_ok hn hpn0
    rw [dAll_s hD hc]
    generalize hE : dStmt T n s D = E at hok
    have hbad : ∀ (k1 : Int32) {w1 : zW}, E.1 = .inr k1 → mFR w w1 → zI w1 44 9 = k1 → raP T n s w0 (dAll T n s m E) (some (.int 0)) w1 := fun k1 w1 hq hF h9 => by
      rw [dAll_b (hok.2 k1 hq) m hq]
      exact ⟨mFS_t h0 hF, fun p1 e => (by rw [hq] at e; cases e), fun k e => by rw [hq] at e; exact ⟨rfl, h9.trans (Sum.inr.inj e)⟩⟩
    have hgood : ∀ (p1 : Nat), E.1 = .inl p1 → ∀ (w1 : zW), mFR w w1 → mS w1 T n p1 → p < p1 → p1 ≤ n → ∀ j1, DR w1 T s j1 E.2.1 E.2.2 → j1 ≤ 1000 + p1 → zS 0 0 dd m_Mod_readsAll (raP T n s w0 (dAll T n s m E)) 39 [(0, .ref 44)] [] w1 := fun p1 hq w1 hF hS1 hlt hpn j1 hDR1 hj1 => ih w1 p1 j1 E (by omega) hq (mFS_t h0 hF) ⟨zMo_mv hk_w.1 hF.1 hF.2.1, (hF.2.2.1 44 3 (by unfold mFx; omega)).trans hk_w.2.1, hk_w.2.2.1, (funext fun i => hF.2.2.1 45 i (by unfold mFx; omega)).trans hk_w.2.2.2.1, hk_w.2.2.2.2⟩ hS1 hDR1 hj1
    have K161 : ∀ (rv : Option Value) (w1 : zW), stP T n s p w E rv w1 → zS 0 0 dd m_Mod_readsAll (raP T n s w0 (dAll T n s m E)) 161 [(0, .ref 44)] (rv.toList ++ []) w1 := by
      intro rv w1 h
      rcases q_or E.1 with ⟨k1, hq⟩ | ⟨p1, hq⟩
      · obtain ⟨rfl, h91⟩ := h.2.1.2 k1 hq
        refine z_istore_n (pc := 161) (i := 1) (ls' := [(0, .ref 44), (1, .int 0)]) rfl rfl (by decide) rfl ?_
        refine z_iload_n (pc := 162) (i := 1) (j := 1) rfl rfl rfl ?_
        refine z_if_ne (pc := 163) (tgt := 168) rfl (by decide) (fun h163 => ?_) (fun h163 => ?_)
        · first | exact absurd h163 (by decide) | exact absurd (by decide) h163
        · refine z_iconst (pc := 166) (v := 0) rfl (by decide) ?_
          exact z_zret (pc := 167) rfl rfl (by decide) (hbad k1 hq h.1 h91)
      · obtain ⟨rfl, hS1⟩ := h.2.1.1 p1 hq
        obtain ⟨hlt, hpn, j1, hDR1, hj1⟩ := h.2.2 p1 hq
        refine z_istore_n (pc := 161) (i := 1) (ls' := [(0, .ref 44), (1, .int 1)]) rfl rfl (by decide) rfl ?_
        refine z_iload_n (pc := 162) (i := 1) (j := 1) rfl rfl rfl ?_
        refine z_if_ne (pc := 163) (tgt := 168) rfl (by decide) (fun h163 => ?_) (fun h163 => ?_)
        · refine z_goto (pc := 168) (tgt := 39) rfl (by decide) ?_
          refine z_drop (ls' := [(0, .ref 44)]) (by simp) ?_
          exact hgood p1 hq w1 h.1 hS1 hlt hpn j1 hDR1 hj1
        · first | exact absurd h163 (by decide) | exact absurd (by decide) h163
    clear hgood hbad ih
    refine z_aload_n (pc := 39) (i := 0) (j := 0) rfl rfl rfl ?_
    refine z_getI (pc := 40) rfl fl_Mod_125 hk_w.1.1 rfl ?_
    refine z_eqi (y := tM T n p) hS.2.2.1 ?_
    refine z_if_eq (pc := 43) (tgt := 171) rfl (by decide) (fun h43 => ?_) (fun h43 => ?_)
    · exact absurd ((t0_iff T n p).mp h43) hc
    · refine z_aload_n (pc := 46) (i := 0) (j := 0) rfl rfl rfl ?_
      refine z_ldc2 (pc := 47) (v := 3369766) rfl kl_Mod_190 ?_
      refine z_cV (pc := 50) (mc1 := 0) (ms1 := 0) (mc2 := 0) (ms2 := 0) (as := [.long 3369766]) (rest := []) (o := 44) rfl rfl hk_w.1.1 ok_Mod_isWord rfl rfl cl_Mod_160 (by omega) (Nat.le_of_ble_eq_true rfl) (Nat.le_of_ble_eq_true rfl) (Nat.le_refl _) (Nat.le_refl _) (c_wd hk_w hS (i := 0) (by decide) (x := 3369766) rfl 0) (fun r1 w1 hp => ?_) rfl rfl
      obtain ⟨rfl, hw1⟩ := hp
      rw [hw1]
      refine ⟨⟨Nat.le_refl _, Or.inl rfl⟩, ?_⟩
      refine z_if_eq (pc := 53) (tgt := 63) rfl (by decide) (fun h53 => ?_) (fun h53 => ?_)
      · refine z_aload_n (pc := 63) (i := 0) (j := 0) rfl rfl rfl ?_
        refine z_ldc2 (pc := 64) (v := 459652) rfl kl_Mod_192 ?_
        refine z_cV (pc := 67) (mc1 := 0) (ms1 := 0) (mc2 := 0) (ms2 := 0) (as := [.long 459652]) (rest := []) (o := 44) rfl rfl hk_w.1.1 ok_Mod_isWord rfl rfl cl_Mod_160 (by omega) (Nat.le_of_ble_eq_true rfl) (Nat.le_of_ble_eq_true rfl) (Nat.le_refl _) (Nat.le_refl _) (c_wd hk_w hS (i := 1) (by decide) (x := 459652) rfl 0) (fun r1 w1 hp => ?_) rfl rfl
        obtain ⟨rfl, hw1⟩ := hp
        rw [hw1]
        refine ⟨⟨Nat.le_refl _, Or.inl rfl⟩, ?_⟩
        refine z_if_eq (pc := 70) (tgt := 81) rfl (by decide) (fun h70 => ?_) (fun h70 => ?_)
        · refine z_aload_n (pc := 81) (i := 0) (j := 0) rfl rfl rfl ?_
          refine z_ldc2 (pc := 82) (v := 8754917) rfl kl_Mod_194 ?_
          refine z_cV (pc := 85) (mc1 := 0) (ms1 := 0) (mc2 := 0) (ms2 := 0) (as := [.long 8754917]) (rest := []) (o := 44) rfl rfl hk_w.1.1 ok_Mod_isWord rfl rfl cl_Mod_160 (by omega) (Nat.le_of_ble_eq_true rfl) (Nat.le_of_ble_eq_true rfl) (Nat.le_refl _) (Nat.le_refl _) (c_wd hk_w hS (i := 2) (by decide) (x := 8754917) rfl 0) (fun r1 w1 hp => ?_) rfl rfl
          obtain ⟨rfl, hw1⟩ := hp
          rw [hw1]
          refine ⟨⟨Nat.le_refl _, Or.inl rfl⟩, ?_⟩
          refine z_if_eq (pc := 88) (tgt := 99) rfl (by decide) (fun h88 => ?_) (fun h88 => ?_)
          · refine z_aload_n (pc := 99) (i := 0) (j := 0) rfl rfl rfl ?_
            refine z_ldc2 (pc := 100) (v := 70312) rfl kl_Mod_196 ?_
            refine z_cV (pc := 103) (mc1 := 0) (ms1 := 0) (mc2 := 0) (ms2 := 0) (as := [.long 70312]) (rest := []) (o := 44) rfl rfl hk_w.1.1 ok_Mod_isWord rfl rfl cl_Mod_160 (by omega) (Nat.le_of_ble_eq_true rfl) (Nat.le_of_ble_eq_true rfl) (Nat.le_refl _) (Nat.le_refl _) (c_wd hk_w hS (i := 3) (by decide) (x := 70312) rfl 0) (fun r1 w1 hp => ?_) rfl rfl
            obtain ⟨rfl, hw1⟩ := hp
            rw [hw1]
            refine ⟨⟨Nat.le_refl _, Or.inl rfl⟩, ?_⟩
            refine z_if_eq (pc := 106) (tgt := 119) rfl (by decide) (fun h106 => ?_) (fun h106 => ?_)
            · refine z_aload_n (pc := 119) (i := 0) (j := 0) rfl rfl rfl ?_
              refine z_ldc2 (pc := 120) (v := 11055682) rfl kl_Mod_198 ?_
              refine z_cV (pc := 123) (mc1 := 0) (ms1 := 0) (mc2 := 0) (ms2 := 0) (as := [.long 11055682]) (rest := []) (o := 44) rfl rfl hk_w.1.1 ok_Mod_isWord rfl rfl cl_Mod_160 (by omega) (Nat.le_of_ble_eq_true rfl) (Nat.le_of_ble_eq_true rfl) (Nat.le_refl _) (Nat.le_refl _) (c_wd hk_w hS (i := 4) (by decide) (x := 11055682) rfl 0) (fun r1 w1 hp => ?_) rfl rfl
              obtain ⟨rfl, hw1⟩ := hp
              rw [hw1]
              refine ⟨⟨Nat.le_refl _, Or.inl rfl⟩, ?_⟩
              refine z_if_eq (pc := 126) (tgt := 139) rfl (by decide) (fun h126 => ?_) (fun h126 => ?_)
              · refine z_aload_n (pc := 139) (i := 0) (j := 0) rfl rfl rfl ?_
                refine z_ldc2 (pc := 140) (v := 4562600) rfl kl_Mod_200 ?_
                refine z_cV (pc := 143) (mc1 := 0) (ms1 := 0) (mc2 := 0) (ms2 := 0) (as := [.long 4562600]) (rest := []) (o := 44) rfl rfl hk_w.1.1 ok_Mod_isWord rfl rfl cl_Mod_160 (by omega) (Nat.le_of_ble_eq_true rfl) (Nat.le_of_ble_eq_true rfl) (Nat.le_refl _) (Nat.le_refl _) (c_wd hk_w hS (i := 5) (by decide) (x := 4562600) rfl 0) (fun r1 w1 hp => ?_) rfl rfl
                obtain ⟨rfl, hw1⟩ := hp
                rw [hw1]
                refine ⟨⟨Nat.le_refl _, Or.inl rfl⟩, ?_⟩
                refine z_if_eq (pc := 146) (tgt := 156) rfl (by decide) (fun h146 => ?_) (fun h146 => ?_)
                · refine z_aload_n (pc := 156) (i := 0) (j := 0) rfl rfl rfl ?_
                  refine z_iconst (pc := 157) (v := 1) rfl (by decide) ?_
                  refine z_cV (pc := 158) (mc1 := 0) (ms1 := 0) (mc2 := 0) (ms2 := 0) (as := [.int 1]) (rest := []) (o := 44) rfl rfl hk_w.1.1 ok_Mod_fails rfl rfl cl_Mod_168 (by omega) (Nat.le_of_ble_eq_true rfl) (Nat.le_of_ble_eq_true rfl) (Nat.le_refl _) (Nat.le_refl _) (c_Mod_fails (w := w) hk_w hS 1 0) (fun r1 w1 hp => ?_) rfl rfl
                  obtain ⟨rfl, hw1⟩ := hp
                  rw [hw1]
                  refine ⟨⟨Nat.le_refl _, Or.inl rfl⟩, ?_⟩
                  refine K161 (some (.int 0)) _ (stP_bad (mFS_9 (mF9_I _ (Or.inl rfl)) s9_x) rfl ?_)
                  rw [← hE, (dS_e (dS_6 (s := s) (fun e => absurd (show tW T n p = some 1000000 from by rw [hD] at e; exact e) (by intro z; rw [if_pos z] at h53; exact absurd h53 (by decide))) (fun e => absurd (show tW T n p = some 1000001 from by rw [hD] at e; exact e) (by intro z; rw [if_pos z] at h70; exact absurd h70 (by decide))) (fun e => absurd (show tW T n p = some 1000002 from by rw [hD] at e; exact e) (by intro z; rw [if_pos z] at h88; exact absurd h88 (by decide))) (fun e => absurd (show tW T n p = some 1000003 from by rw [hD] at e; exact e) (by intro z; rw [if_pos z] at h106; exact absurd h106 (by decide))) (fun e => absurd (show tW T n p = some 1000004 from by rw [hD] at e; exact e) (by intro z; rw [if_pos z] at h126; exact absurd h126 (by decide))) (fun e => absurd (show tW T n p = some 1000005 from by rw [hD] at e; exact e) (by intro z; rw [if_pos z] at h146; exact absurd h146 (by decide))))).1, hD]
                  exact expS_r (by decide)
                · refine z_aload_n (pc := 149) (i := 0) (j := 0) rfl rfl rfl ?_
                  refine z_cV (pc := 150) (mc1 := 0) (ms1 := 0) (mc2 := 0) (ms2 := 0) (as := []) (rest := []) (o := 44) rfl rfl hk_w.1.1 ok_Mod_readsHouse rfl rfl cl_Mod_256 (by omega) (Nat.le_of_ble_eq_true rfl) (Nat.le_of_ble_eq_true rfl) (Nat.le_refl _) (Nat.le_refl _) (st_house hD (fun e => absurd (show tW T n p = some 1000000 from by rw [hD] at e; exact e) (by intro z; rw [if_pos z] at h53; exact absurd h53 (by decide))) (fun e => absurd (show tW T n p = some 1000001 from by rw [hD] at e; exact e) (by intro z; rw [if_pos z] at h70; exact absurd h70 (by decide))) (fun e => absurd (show tW T n p = some 1000002 from by rw [hD] at e; exact e) (by intro z; rw [if_pos z] at h88; exact absurd h88 (by decide))) (fun e => absurd (show tW T n p = some 1000003 from by rw [hD] at e; exact e) (by intro z; rw [if_pos z] at h106; exact absurd h106 (by decide))) (fun e => absurd (show tW T n p = some 1000004 from by rw [hD] at e; exact e) (by intro z; rw [if_pos z] at h126; exact absurd h126 (by decide))) (by rw [hD]; exact (Decidable.byContradiction (fun z => h146 (if_neg z)) : tW T n p = some 1000005)) hk_w hS hDR hs hj 3 (by decide)) (fun r1 w41 hp => ?_) rfl rfl
                  rw [hE] at hp
                  refine ⟨⟨by rw [hp.1.1]; exact Nat.le_refl _, Or.inl (by rw [hp.1.1])⟩, ?_⟩
                  refine z_goto (pc := 153) (tgt := 161) rfl (by decide) ?_
                  exact K161 r1 w41 hp
              · refine z_aload_n (pc := 129) (i := 0) (j := 0) rfl rfl rfl ?_
                refine z_iconst (pc := 130) (v := 3) rfl (by decide) ?_
                refine z_bipush (pc := 131) (v := 10) rfl (by decide) ?_
                refine z_cV (pc := 133) (mc1 := 0) (ms1 := 0) (mc2 := 0) (ms2 := 0) (as := [.int 3, .int 10]) (rest := []) (o := 44) rfl rfl hk_w.1.1 ok_Mod_readsOne rfl rfl cl_Mod_253 (by omega) (Nat.le_of_ble_eq_true rfl) (Nat.le_of_ble_eq_true rfl) (Nat.le_refl _) (Nat.le_refl _) (st_turns hD (fun e => absurd (show tW T n p = some 1000000 from by rw [hD] at e; exact e) (by intro z; rw [if_pos z] at h53; exact absurd h53 (by decide))) (fun e => absurd (show tW T n p = some 1000001 from by rw [hD] at e; exact e) (by intro z; rw [if_pos z] at h70; exact absurd h70 (by decide))) (fun e => absurd (show tW T n p = some 1000002 from by rw [hD] at e; exact e) (by intro z; rw [if_pos z] at h88; exact absurd h88 (by decide))) (fun e => absurd (show tW T n p = some 1000003 from by rw [hD] at e; exact e) (by intro z; rw [if_pos z] at h106; exact absurd h106 (by decide))) (by rw [hD]; exact (Decidable.byContradiction (fun z => h126 (if_neg z)) : tW T n p = some 1000004)) hk_w hS hDR hs hj 3 (by decide)) (fun r1 w41 hp => ?_) rfl rfl
                rw [hE] at hp
                refine ⟨⟨by rw [hp.1.1]; exact Nat.le_refl _, Or.inl (by rw [hp.1.1])⟩, ?_⟩
                refine z_goto (pc := 136) (tgt := 161) rfl (by decide) ?_
                exact K161 r1 w41 hp
            · refine z_aload_n (pc := 109) (i := 0) (j := 0) rfl rfl rfl ?_
              refine z_iconst (pc := 110) (v := 2) rfl (by decide) ?_
              refine z_bipush (pc := 111) (v := 99) rfl (by decide) ?_
              refine z_cV (pc := 113) (mc1 := 0) (ms1 := 0) (mc2 := 0) (ms2 := 0) (as := [.int 2, .int 99]) (rest := []) (o := 44) rfl rfl hk_w.1.1 ok_Mod_readsOne rfl rfl cl_Mod_253 (by omega) (Nat.le_of_ble_eq_true rfl) (Nat.le_of_ble_eq_true rfl) (Nat.le_refl _) (Nat.le_refl _) (st_cold hD (fun e => absurd (show tW T n p = some 1000000 from by rw [hD] at e; exact e) (by intro z; rw [if_pos z] at h53; exact absurd h53 (by decide))) (fun e => absurd (show tW T n p = some 1000001 from by rw [hD] at e; exact e) (by intro z; rw [if_pos z] at h70; exact absurd h70 (by decide))) (fun e => absurd (show tW T n p = some 1000002 from by rw [hD] at e; exact e) (by intro z; rw [if_pos z] at h88; exact absurd h88 (by decide))) (by rw [hD]; exact (Decidable.byContradiction (fun z => h106 (if_neg z)) : tW T n p = some 1000003)) hk_w hS hDR hs hj 3 (by decide)) (fun r1 w41 hp => ?_) rfl rfl
              rw [hE] at hp
              refine ⟨⟨by rw [hp.1.1]; exact Nat.le_refl _, Or.inl (by rw [hp.1.1])⟩, ?_⟩
              refine z_goto (pc := 116) (tgt := 161) rfl (by decide) ?_
              exact K161 r1 w41 hp
          · refine z_aload_n (pc := 91) (i := 0) (j := 0) rfl rfl rfl ?_
            refine z_iconst (pc := 92) (v := 1) rfl (by decide) ?_
            refine z_cV (pc := 93) (mc1 := 0) (ms1 := 0) (mc2 := 0) (ms2 := 0) (as := [.int 1]) (rest := []) (o := 44) rfl rfl hk_w.1.1 ok_Mod_readsLaw rfl rfl cl_Mod_250 (by omega) (Nat.le_of_ble_eq_true rfl) (Nat.le_of_ble_eq_true rfl) (Nat.le_refl _) (Nat.le_refl _) (st_plume hD (fun e => absurd (show tW T n p = some 1000000 from by rw [hD] at e; exact e) (by intro z; rw [if_pos z] at h53; exact absurd h53 (by decide))) (fun e => absurd (show tW T n p = some 1000001 from by rw [hD] at e; exact e) (by intro z; rw [if_pos z] at h70; exact absurd h70 (by decide))) (by rw [hD]; exact (Decidable.byContradiction (fun z => h88 (if_neg z)) : tW T n p = some 1000002)) hk_w hS hDR hs hj 3 (by decide)) (fun r1 w41 hp => ?_) rfl rfl
            rw [hE] at hp
            refine ⟨⟨by rw [hp.1.1]; exact Nat.le_refl _, Or.inl (by rw [hp.1.1])⟩, ?_⟩
            refine z_goto (pc := 96) (tgt := 161) rfl (by decide) ?_
            exact K161 r1 w41 hp
        · refine z_aload_n (pc := 73) (i := 0) (j := 0) rfl rfl rfl ?_
          refine z_iconst (pc := 74) (v := 0) rfl (by decide) ?_
          refine z_cV (pc := 75) (mc1 := 0) (ms1 := 0) (mc2 := 0) (ms2 := 0) (as := [.int 0]) (rest := []) (o := 44) rfl rfl hk_w.1.1 ok_Mod_readsLaw rfl rfl cl_Mod_250 (by omega) (Nat.le_of_ble_eq_true rfl) (Nat.le_of_ble_eq_true rfl) (Nat.le_refl _) (Nat.le_refl _) (st_wind hD (fun e => absurd (show tW T n p = some 1000000 from by rw [hD] at e; exact e) (by intro z; rw [if_pos z] at h53; exact absurd h53 (by decide))) (by rw [hD]; exact (Decidable.byContradiction (fun z => h70 (if_neg z)) : tW T n p = some 1000001)) hk_w hS hDR hs hj 3 (by decide)) (fun r1 w41 hp => ?_) rfl rfl
          rw [hE] at hp
          refine ⟨⟨by rw [hp.1.1]; exact Nat.le_refl _, Or.inl (by rw [hp.1.1])⟩, ?_⟩
          refine z_goto (pc := 78) (tgt := 161) rfl (by decide) ?_
          exact K161 r1 w41 hp
      · refine z_aload_n (pc := 56) (i := 0) (j := 0) rfl rfl rfl ?_
        refine z_cV (pc := 57) (mc1 := 0) (ms1 := 0) (mc2 := 0) (ms2 := 0) (as := []) (rest := []) (o := 44) rfl rfl hk_w.1.1 ok_Mod_readsField rfl rfl cl_Mod_247 (by omega) (Nat.le_of_ble_eq_true rfl) (Nat.le_of_ble_eq_true rfl) (Nat.le_refl _) (Nat.le_refl _) (st_field hD  (by rw [hD]; exact (Decidable.byContradiction (fun z => h53 (if_neg z)) : tW T n p = some 1000000)) hk_w hS hDR hs hj 3 (by decide)) (fun r1 w41 hp => ?_) rfl rfl
        rw [hE] at hp
        refine ⟨⟨by rw [hp.1.1]; exact Nat.le_refl _, Or.inl (by rw [hp.1.1])⟩, ?_⟩
        refine z_goto (pc := 60) (tgt := 161) rfl (by decide) ?_
        exact K161 r1 w41 hp
