/-! THE MODEL'S STATEMENTS: a house -/
theorem sh_x {H : Nat} (hH : H < 8) (o k : Nat) (z : (fun o k => s9 o k ∨ (o = 46 ∧ k = 9) ∨ ((48 ≤ o ∧ o ≤ 51) ∧ k = 8 + H)) o k) : mFx o k := by
  unfold s9 at z
  unfold mFx
  omega
theorem newS_1 {T : Nat → Int32} {n p H : Nat} {N : Nat → Int64} (h : ¬ (if tC T n p = 3 then resO (tW T n p) else 1) = 0) : newS T n N H (.inl p) = .inr (flA T n 1 p) := by
  unfold newS
  show (if tC T n p = 3 then (if resO (tW T n p) = 0 then _ else wrg T n 1 (.inl p)) else wrg T n 1 (.inl p)) = _
  by_cases h3 : tC T n p = 3
  · rw [if_pos h3] at h ⊢
    rw [if_neg h]
    rfl
  · rw [if_neg h3]
    rfl
theorem newS_k {T : Nat → Int32} {n p : Nat} (h : (if tC T n p = 3 then resO (tW T n p) else 1) = 0) : tC T n p = 3 ∧ resO (tW T n p) = 0 := by
  by_cases h3 : tC T n p = 3
  · rw [if_pos h3] at h; exact ⟨h3, h⟩
  · rw [if_neg h3] at h; exact absurd h (by decide)
theorem newS_3 {T : Nat → Int32} {n p H : Nat} {N : Nat → Int64} (h : tC T n p = 3 ∧ resO (tW T n p) = 0) (hn : hasNm N (keyC T (tBeg T n p) (tLen T n p)) H 0 = true) : newS T n N H (.inl p) = .inr (flA T n 3 p) := by
  unfold newS
  show (if tC T n p = 3 then (if resO (tW T n p) = 0 then (if hasNm N (keyC T (tBeg T n p) (tLen T n p)) H 0 = true then wrg T n 3 (.inl p) else _) else _) else _) = _
  rw [if_pos h.1, if_pos h.2, if_pos hn]
  rfl
theorem newS_ok {T : Nat → Int32} {n p H : Nat} {N : Nat → Int64} (h : tC T n p = 3 ∧ resO (tW T n p) = 0) (hn : ¬ hasNm N (keyC T (tBeg T n p) (tLen T n p)) H 0 = true) : newS T n N H (.inl p) = .inl (tEnd T n p) := by
  unfold newS
  show (if tC T n p = 3 then (if resO (tW T n p) = 0 then (if hasNm N (keyC T (tBeg T n p) (tLen T n p)) H 0 = true then _ else nxt T n (.inl p)) else _) else _) = _
  rw [if_pos h.1, if_pos h.2, if_neg hn]
  rfl
theorem newS_r {T : Nat → Int32} {n H : Nat} {N : Nat → Int64} {k : Int32} : newS T n N H (.inr k) = .inr k := by
  unfold newS
  rw [if_neg (by show ¬ (1 : Int32) = 3; decide)]
  rfl
theorem nI_m1 {C : Nat} (h : 1 ≤ C) : nI C - 1 = nI (C - 1) := by
  obtain ⟨c, rfl⟩ : ∃ c, C = c + 1 := ⟨C - 1, by omega⟩
  exact nI_pred c
theorem mK_L47 {w : zW} {n : Nat} {T : Nat → Int32} (h : mK w n T) (k : Nat) (x : Int64) : mK (zsL w 47 k x) n T := h
theorem mS_L47 {w : zW} {T : Nat → Int32} {n p : Nat} (h : mS w T n p) (k : Nat) (x : Int64) : mS (zsL w 47 k x) T n p := ⟨h.1, h.2.1, h.2.2.1, (show z2 (zL w) 47 k x 44 7 = zL w 44 7 from by unfold z2; rw [if_neg (by omega)]).trans h.2.2.2.1, h.2.2.2.2⟩
theorem kndO_v {o : Option Nat} (h : ∀ a, o = some a → 1000000 ≤ a ∧ a < 1000019) : kndO o = -1 ∨ ¬ kndO o < 0 := by
  cases o with
  | none => exact Or.inl rfl
  | some a =>
    obtain ⟨h1, h2⟩ := h a rfl
    have e : ∀ i : Fin 19, zkk.getD i 0 = -1 ∨ ¬ zkk.getD i 0 < 0 := by decide
    exact e ⟨a - 1000000, by omega⟩
theorem kndS_bad {T : Nat → Int32} {n p : Nat} (h : kndO (tW T n p) < 0) : kndS T n (.inl p) = .inr (flA T n 1 p) := by
  have h1 : kndO (tW T n p) = -1 := by
    rcases kndO_v (o := tW T n p) (fun a e => tkw_c (q := .inl p) (T := T) (n := n) e) with z | z
    · exact z
    · exact absurd h z
  unfold kndS
  rw [if_pos (show kndO (tkw T n (.inl p)) = -1 from h1)]
  rfl
theorem kndS_good {T : Nat → Int32} {n p : Nat} (h : 0 ≤ kndO (tW T n p)) : kndS T n (.inl p) = .inl (tEnd T n p) := by
  unfold kndS
  rw [if_neg (show ¬ kndO (tkw T n (.inl p)) = -1 from fun e => absurd h (by rw [show kndO (tW T n p) = -1 from e]; decide))]
  rfl
theorem mFS_A {S : Nat → Nat → Prop} {w w1 : zW} {o k : Nat} {x : Int32} (h : mFS S w w1) (hs : S o k) : mFS S w (zsI w1 o k x) := mFS_t h (mFS_I x hs)
theorem nsc {T : Nat → Int32} {n H : Nat} {N : Nat → Int64} {q0 q1 q2 : Nat ⊕ Int32} (h1 : q0 = q1) (h2 : newS T n N H q1 = q2) : newS T n N H q0 = q2 := by subst h1; exact h2
theorem vpl_at (N : Nat → Int64) (k : Nat) (x : Int64) : vp_updL N k x k = x := if_pos rfl
theorem vpl_nt (N : Nat → Int64) {k h : Nat} (x : Int64) (e : h ≠ k) : vp_updL N k x h = N h := if_neg e
set_option maxHeartbeats 400000 in
theorem DN_house {w w1 : zW} {T : Nat → Int32} {n p s j C R H K U c r : Nat} {F : Nat → Nat → Int32} {N : Nat → Int64} {g kd : Int32} (h : DN w T s j C R H K U F N) (hs : 3 < s) (hH : H < 8) (k : mFS (fun o k => s9 o k ∨ (o = 46 ∧ k = 9) ∨ ((48 ≤ o ∧ o ≤ 51) ∧ k = 8 + H)) w w1) (h47 : ∀ h, h < H → zL w1 47 h = zL w 47 h) (h47H : zL w1 47 H = tWd T n p) (h3 : tC T n p = 3) (g9 : zI w1 46 9 = nI (H + 1)) (g48 : zI w1 48 (8 + H) = nI c) (g49 : zI w1 49 (8 + H) = nI r) (g50 : zI w1 50 (8 + H) = g) (g51 : zI w1 51 (8 + H) = kd) (hc : c < C) (hr : r < R) :
    DN w1 T s j C R (H + 1) K U (z2 (z2 (z2 (z2 (z2 F (s + 1) H (nI c)) (s + 2) H (nI r)) (s + 3) H g) (s + 4) H kd) s 11 (nI (H + 1))) (vp_updL N H (keyC T (tBeg T n p) (tLen T n p))) := by
  obtain ⟨a1, a2, a3, a4, a5, a6, a7, a8, a9⟩ := h
  have e : ∀ o i, ¬ (fun o k => s9 o k ∨ (o = 46 ∧ k = 9) ∨ ((48 ≤ o ∧ o ≤ 51) ∧ k = 8 + H)) o i → zI w1 o i = zI w o i := k.2.2.1
  obtain ⟨b1, b2, b3, b4, -⟩ := t1_w ((t1_iff T n p).mpr h3)
  refine ⟨by omega, ⟨by rw [z2_nt _ _ (by omega), z2_nt _ _ (by omega), z2_nt _ _ (by omega), z2_nt _ _ (by omega), z2_nt _ _ (by omega)]; exact a2.1, by rw [z2_nt _ _ (by omega), z2_nt _ _ (by omega), z2_nt _ _ (by omega), z2_nt _ _ (by omega), z2_nt _ _ (by omega)]; exact a2.2.1, by rw [z2_nt _ _ (by omega), z2_nt _ _ (by omega), z2_nt _ _ (by omega), z2_nt _ _ (by omega), z2_nt _ _ (by omega)]; exact a2.2.2.1, by rw [z2_nt _ _ (by omega), z2_nt _ _ (by omega), z2_nt _ _ (by omega), z2_nt _ _ (by omega), z2_nt _ _ (by omega)]; exact a2.2.2.2.1, by rw [z2_at]⟩, ⟨(e 46 5 (by unfold s9; omega)).trans a3.1, (e 46 6 (by unfold s9; omega)).trans a3.2.1, (e 46 7 (by unfold s9; omega)).trans a3.2.2.1, (e 46 8 (by unfold s9; omega)).trans a3.2.2.2.1, g9⟩, fun h hh => ?_, ⟨by rw [z2_nt _ _ (by omega), z2_nt _ _ (by omega), z2_nt _ _ (by omega), z2_nt _ _ (by omega), z2_nt _ _ (by omega)]; exact a5.1, by rw [z2_nt _ _ (by omega), z2_nt _ _ (by omega), z2_nt _ _ (by omega), z2_nt _ _ (by omega), z2_nt _ _ (by omega)]; exact a5.2.1, by rw [z2_nt _ _ (by omega), z2_nt _ _ (by omega), z2_nt _ _ (by omega), z2_nt _ _ (by omega), z2_nt _ _ (by omega)]; exact a5.2.2.1, by rw [z2_nt _ _ (by omega), z2_nt _ _ (by omega), z2_nt _ _ (by omega), z2_nt _ _ (by omega), z2_nt _ _ (by omega), z2_nt _ _ (by omega), z2_nt _ _ (by omega), z2_nt _ _ (by omega), z2_nt _ _ (by omega), z2_nt _ _ (by omega), z2_nt _ _ (by omega), z2_nt _ _ (by omega), z2_nt _ _ (by omega), z2_nt _ _ (by omega), z2_nt _ _ (by omega)]; exact (e 44 20 (by unfold s9; omega)).trans a5.2.2.2⟩, ?_, ?_, a8, (e 44 19 (by unfold s9; omega)).trans a9⟩
  · by_cases q : h = H
    · subst q
      refine ⟨⟨c, r, hc, hr, by rw [z2_nt _ _ (by omega), z2_nt _ _ (by omega), z2_nt _ _ (by omega), z2_nt _ _ (by omega), z2_at], g48, by rw [z2_nt _ _ (by omega), z2_nt _ _ (by omega), z2_nt _ _ (by omega), z2_at], g49⟩, by rw [z2_nt _ _ (by omega), z2_nt _ _ (by omega), z2_at]; exact g50, by rw [z2_nt _ _ (by omega), z2_at]; exact g51, tBeg T n p, tLen T n p, b3, tLt b1 b2, vpl_at _ _ _, h47H.trans b4⟩
    · exact dHs_c (a4 h (by omega)) (by rw [z2_nt _ _ (by omega), z2_nt _ _ (by omega), z2_nt _ _ (by omega), z2_nt _ _ (by omega), z2_nt _ _ (by omega)]) (by rw [z2_nt _ _ (by omega), z2_nt _ _ (by omega), z2_nt _ _ (by omega), z2_nt _ _ (by omega), z2_nt _ _ (by omega)]) (by rw [z2_nt _ _ (by omega), z2_nt _ _ (by omega), z2_nt _ _ (by omega), z2_nt _ _ (by omega), z2_nt _ _ (by omega)]) (by rw [z2_nt _ _ (by omega), z2_nt _ _ (by omega), z2_nt _ _ (by omega), z2_nt _ _ (by omega), z2_nt _ _ (by omega)]) (vpl_nt _ _ q) (e _ _ (by unfold s9; omega)) (e _ _ (by unfold s9; omega)) (e _ _ (by unfold s9; omega)) (e _ _ (by unfold s9; omega)) (h47 h (by omega))
  · exact dL_c a6 (by rw [z2_nt _ _ (by omega), z2_nt _ _ (by omega), z2_nt _ _ (by omega), z2_nt _ _ (by omega), z2_nt _ _ (by omega)]) (by rw [z2_nt _ _ (by omega), z2_nt _ _ (by omega), z2_nt _ _ (by omega), z2_nt _ _ (by omega), z2_nt _ _ (by omega)]) (by rw [z2_ro _ _ _ (by omega), z2_ro _ _ _ (by omega), z2_ro _ _ _ (by omega), z2_ro _ _ _ (by omega), z2_ro _ _ _ (by omega)]) (e _ _ (by unfold s9; omega)) (e _ _ (by unfold s9; omega)) (fun i _ _ => e _ _ (by unfold s9; omega)) (Nat.le_refl _)
  · exact dL_c a7 (by rw [z2_nt _ _ (by omega), z2_nt _ _ (by omega), z2_nt _ _ (by omega), z2_nt _ _ (by omega), z2_nt _ _ (by omega)]) (by rw [z2_nt _ _ (by omega), z2_nt _ _ (by omega), z2_nt _ _ (by omega), z2_nt _ _ (by omega), z2_nt _ _ (by omega)]) (by rw [z2_ro _ _ _ (by omega), z2_ro _ _ _ (by omega), z2_ro _ _ _ (by omega), z2_ro _ _ _ (by omega), z2_ro _ _ _ (by omega)]) (e _ _ (by unfold s9; omega)) (e _ _ (by unfold s9; omega)) (fun i _ _ => e _ _ (by unfold s9; omega)) (Nat.le_refl _)
set_option maxRecDepth 100000 in
set_option maxHeartbeats 800000 in
theorem c_readsHouse_ {w : zW} {n s p j C R H K U : Nat} {T : Nat → Int32} {F : Nat → Nat → Int32} {N : Nat → Int64} {D2 : rDt} {Q2 Q3 Q4 Q7 Q8 QE : Nat ⊕ Int32} {cl rq hi : Int32 × (Nat ⊕ Int32)} (hDN : DN w T s j C R H K U F N) (k2 : H < 8 → Q2 = .inl (tEnd T n p)) (k2b : ¬ H < 8 → Q2 = .inr (flA T n 5 p)) (k3 : Q3 = newS T n N H Q2) (k4 : Q4 = expW T n (some 1000006) Q3) (kcl : cl = numW T n 0 (nI (C - 1)) Q4) (krw : rq = numW T n 0 (nI (R - 1)) cl.2) (k7 : Q7 = if fltS rq.2 = 0 then (if hasAt (F (s + 1)) (F (s + 2)) cl.1 rq.1 H 0 = true then wrgA (nI (plS T n cl.2)) 3 rq.2 else rq.2) else rq.2) (k8 : Q8 = expW T n (some 1000007) Q7) (khi : hi = numW T n 0 9 Q8) (kE : QE = kndS T n hi.2) (d1 : D2.1 = expS T n 59 QE) (d2 : ∀ p1, QE = .inl p1 → D2.2.1 = z2 (z2 (z2 (z2 (z2 F (s + 1) H cl.1) (s + 2) H rq.1) (s + 3) H hi.1) (s + 4) H (kndO (tkw T n hi.2))) s 11 (nI (H + 1)) ∧ D2.2.2 = vp_updL N H (keyS T n Q2)) (hk_w : mK w n T) (hS : mS w T n p) (hs : 3 < s) (hj : j ≤ 1000 + p) (d : Nat) (hd : 3 ≤ d) : zS 0 0 d m_Mod_readsHouse (stP T n s p w D2) 0 [(0, .ref 44)] [] w := by
  have hH8a := hDN.1.2.2.1
  have hC1 := hDN.1.1
  have hR1 := hDN.1.2.1
  have hm46 := hDN.2.2.1
  have h469 : zI w 46 9 = nI H := hDN.2.2.1.2.2.2.2
  have hHs := hDN.2.2.2.1
  have gE : ∀ k, QE = .inr k → D2.1 = .inr k := fun k h => d1.trans (exc h (expS_r (by decide)))
  have gi : ∀ k, hi.2 = .inr k → D2.1 = .inr k := fun k h => gE k (by rw [kE, h]; exact kndS_r)
  have g8 : ∀ k, Q8 = .inr k → D2.1 = .inr k := fun k h => gi k (by rw [khi]; exact nwc h numW_r)
  have g7 : ∀ k, Q7 = .inr k → D2.1 = .inr k := fun k h => g8 k (k8.trans (ewc h expW_r))
  have gr : ∀ k, rq.2 = .inr k → D2.1 = .inr k := fun k h => g7 k (by
    rw [k7, h]
    split
    · split
      · rfl
      · rfl
    · rfl)
  have gc : ∀ k, cl.2 = .inr k → D2.1 = .inr k := fun k h => gr k (by rw [krw]; exact nwc h numW_r)
  have g4 : ∀ k, Q4 = .inr k → D2.1 = .inr k := fun k h => gc k (by rw [kcl]; exact nwc h numW_r)
  have g3 : ∀ k, Q3 = .inr k → D2.1 = .inr k := fun k h => g4 k (k4.trans (ewc h expW_r))
  have g2 : ∀ k, Q2 = .inr k → D2.1 = .inr k := fun k h => g3 k (k3.trans (nsc h newS_r))
  have K214 : ∀ (w35 : zW) (p34 c : Nat), (tC T n (tEnd T n p) = 3 ∧ resO (tW T n (tEnd T n p)) = 0) → (¬ hasNm N (keyC T (tBeg T n (tEnd T n p)) (tLen T n (tEnd T n p))) H 0 = true) → mK w35 n T → mS w35 T n p34 → mFS (fun o k => s9 o k ∨ (o = 46 ∧ k = 9) ∨ ((48 ≤ o ∧ o ≤ 51) ∧ k = 8 + H)) w w35 → (∀ h, h < H → zL w35 47 h = zL w 47 h) → zL w35 47 H = tWd T n (tEnd T n p) → zI w35 48 (8 + H) = nI c → c < C → cl.2 = .inl p34 → cl.1 = nI c → H < 8 → zI w35 46 9 = nI H → p ≤ p34 → (∀ p6, (numW T n 0 (nI (R - 1)) (.inl p34)).2 = .inl p6 → ¬ hasAt (F (s + 1)) (F (s + 2)) (nI c) (numW T n 0 (nI (R - 1)) (.inl p34)).1 H 0 = true) → zS 0 0 d m_Mod_readsHouse (stP T n s p w D2) 214 [(0, .ref 44), (1, .int (nI (8 + H)))] [] w35 := by
    intro w35 p34 c hk3 hy hk_w35 hS35 hN35 h47_35 h47H_35 z48 hcC ec ec1 hH h46H hp34 hocc
    refine z_aload_n (pc := 214) (i := 0) (j := 0) rfl rfl rfl ?_
    refine z_iconst (pc := 215) (v := 0) rfl (by decide) ?_
    refine z_aload_n (pc := 216) (i := 0) (j := 0) rfl rfl rfl ?_
    refine z_getR (pc := 217) (x := 46) rfl fl_Mod_13 hk_w35.1.1 rfl (mr_46 hk_w35.1) ?_
    refine z_bipush (pc := 220) (v := 6) rfl (by decide) ?_
    refine z_iald (pc := 222) rfl (mk_46 hk_w35.1) (vp_in_nI (n := 6) (by decide) (by decide)) ?_
    refine z_eqi (y := nI R) ((hN35.2.2.1 46 6 (by unfold s9; omega)).trans hm46.2.1) ?_
    refine z_iconst (pc := 223) (v := 1) rfl (by decide) ?_
    refine z_isub (pc := 224) rfl ?_
    refine z_eqi (y := nI (R - 1)) (nI_m1 hR1.1) ?_
    refine z_cV (pc := 225) (mc1 := 0) (ms1 := 0) (mc2 := 0) (ms2 := 0) (as := [.int 0, .int (nI (R - 1))]) (rest := []) (o := 44) rfl rfl hk_w35.1.1 ok_Mod_needsNumber rfl rfl cl_Mod_227 (by omega) (Nat.le_of_ble_eq_true rfl) (Nat.le_of_ble_eq_true rfl) (Nat.le_refl _) (Nat.le_refl _) (c_Mod_needsNumber (w := w35) hk_w35 hS35 0 (nI (R - 1)) 2 (by decide)) (fun r1 w36 hp => ?_) rfl rfl
    obtain ⟨hF36, hR36, hG36⟩ := hp
    refine ⟨⟨by rw [hF36.1]; exact Nat.le_refl _, Or.inl (by rw [hF36.1] <;> rfl)⟩, ?_⟩
    rcases q_or ((numW T n 0 (nI (R - 1)) (.inl p34)).2) with ⟨k36, hq36⟩ | ⟨p36, hq36⟩
    · skip
      obtain ⟨rfl, h936⟩ := hR36.2 _ hq36
      have hk_w36 := mK_9 hk_w35 hF36
      have hN36 : mFS (fun o k => s9 o k ∨ (o = 46 ∧ k = 9) ∨ ((48 ≤ o ∧ o ≤ 51) ∧ k = 8 + H)) w w36 := mFS_t hN35 (mFS_9 hF36 (fun o k z => Or.inl z))
      have h47_36 : ∀ h, h < H → zL w36 47 h = zL w 47 h := fun h hh => (congrFun (L47_9 hF36) h).trans (h47_35 h hh)
      have h47H_36 : zL w36 47 H = tWd T n (tEnd T n p) := (congrFun (L47_9 hF36) H).trans h47H_35
      refine z_if_ne (pc := 228) (tgt := 233) rfl (by decide) (fun h228 => ?_) (fun h228 => ?_)
      · first | exact absurd h228 (by decide) | exact absurd (by decide) h228
      · refine z_iconst (pc := 231) (v := 0) rfl (by decide) ?_
        exact z_zret (pc := 232) rfl rfl (by decide) (stP_bad (mFS_m hN36 (sh_x hH)) h936 (gr _ (by rw [krw]; exact nwc ec hq36)))
    · skip
      obtain ⟨rfl, hS36⟩ := hR36.1 _ hq36
      have hk_w36 := mK_9 hk_w35 hF36
      have hN36 : mFS (fun o k => s9 o k ∨ (o = 46 ∧ k = 9) ∨ ((48 ≤ o ∧ o ≤ 51) ∧ k = 8 + H)) w w36 := mFS_t hN35 (mFS_9 hF36 (fun o k z => Or.inl z))
      have h47_36 : ∀ h, h < H → zL w36 47 h = zL w 47 h := fun h hh => (congrFun (L47_9 hF36) h).trans (h47_35 h hh)
      have h47H_36 : zL w36 47 H = tWd T n (tEnd T n p) := (congrFun (L47_9 hF36) H).trans h47H_35
      have er2 : rq.2 = .inl p36 := by rw [krw]; exact nwc ec hq36
      obtain ⟨r, -, hr2, hr⟩ := numW_v (a := 0) (b := R - 1) (by decide) (by omega) hq36
      have er1 : rq.1 = nI r := by rw [krw]; exact nwv ec hr
      have e7 : Q7 = .inl p36 := by
        rw [k7, er2, if_pos (show fltS (.inl p36) = 0 from rfl), if_neg (by rw [ec1, er1, ← hr]; exact hocc p36 hq36)]
      refine z_if_ne (pc := 228) (tgt := 233) rfl (by decide) (fun h228 => ?_) (fun h228 => ?_)
      · refine z_aload_n (pc := 233) (i := 0) (j := 0) rfl rfl rfl ?_
        refine z_getR (pc := 234) (x := 49) rfl fl_Mod_23 hk_w36.1.1 rfl (mr_49 hk_w36.1) ?_
        refine z_iload_n (pc := 237) (i := 1) (j := 1) rfl rfl rfl ?_
        refine z_aload_n (pc := 238) (i := 0) (j := 0) rfl rfl rfl ?_
        refine z_getI (pc := 239) rfl fl_Mod_218 hk_w36.1.1 rfl ?_
        refine z_eqi (y := nI r) ((hG36 _ hq36).trans hr) ?_
        refine z_iast (pc := 242) rfl (mk_49 hk_w36.1) (vp_in_nI (n := 8 + H) (N := 48) (by omega) (by decide)) ?_
        refine z_aload_n (pc := 243) (i := 0) (j := 0) rfl rfl rfl ?_
        refine z_ldc2 (pc := 244) (v := 164222) rfl kl_Mod_150 ?_
        refine z_cV (pc := 247) (mc1 := 0) (ms1 := 0) (mc2 := 0) (ms2 := 0) (as := [.long 164222]) (rest := []) (o := 44) rfl rfl hk_w36.1.1 ok_Mod_needsWord rfl rfl cl_Mod_241 (by omega) (Nat.le_of_ble_eq_true rfl) (Nat.le_of_ble_eq_true rfl) (Nat.le_refl _) (Nat.le_refl _) (c_Mod_needsWord (w := zsI w36 49 (nI (8 + H)).toNatClampNeg (nI r)) (mK_o hk_w36 _ _ (by decide) (by decide)) (mS_o hS36 (by decide) _) (i := 7) (by decide) (x := 164222) rfl 2 (by decide)) (fun r1 w37 hp => ?_) rfl rfl
        obtain ⟨hF37, hR37⟩ := hp
        refine ⟨⟨by rw [hF37.1]; exact Nat.le_refl _, Or.inl (by rw [hF37.1] <;> rfl)⟩, ?_⟩
        rcases q_or (expW T n (some (1000000 + 7)) (.inl p36)) with ⟨k37, hq37⟩ | ⟨p37, hq37⟩
        · skip
          obtain ⟨rfl, h937⟩ := hR37.2 _ hq37
          have hk_w37 := mK_9 (mK_o hk_w36 _ _ (by decide) (by decide)) hF37
          have hN37 : mFS (fun o k => s9 o k ∨ (o = 46 ∧ k = 9) ∨ ((48 ≤ o ∧ o ≤ 51) ∧ k = 8 + H)) w w37 := mFS_t (mFS_A hN36 (by rw [nI_clamp (n := 8 + H) (by omega)]; exact Or.inr (Or.inr ⟨by omega, rfl⟩))) (mFS_9 hF37 (fun o k z => Or.inl z))
          have h47_37 : ∀ h, h < H → zL w37 47 h = zL w 47 h := fun h hh => (congrFun (L47_9 hF37) h).trans (h47_36 h hh)
          have h47H_37 : zL w37 47 H = tWd T n (tEnd T n p) := (congrFun (L47_9 hF37) H).trans h47H_36
          refine z_if_eq (pc := 250) (tgt := 263) rfl (by decide) (fun h250 => ?_) (fun h250 => ?_)
          · refine z_iconst (pc := 263) (v := 0) rfl (by decide) ?_
            exact z_zret (pc := 264) rfl rfl (by decide) (stP_bad (mFS_m hN37 (sh_x hH)) h937 (g8 _ (k8.trans (ewc e7 hq37))))
          · first | exact absurd h250 (by decide) | exact absurd (by decide) h250
        · skip
          obtain ⟨rfl, hS37⟩ := hR37.1 _ hq37
          have hk_w37 := mK_9 (mK_o hk_w36 _ _ (by decide) (by decide)) hF37
          have hN37 : mFS (fun o k => s9 o k ∨ (o = 46 ∧ k = 9) ∨ ((48 ≤ o ∧ o ≤ 51) ∧ k = 8 + H)) w w37 := mFS_t (mFS_A hN36 (by rw [nI_clamp (n := 8 + H) (by omega)]; exact Or.inr (Or.inr ⟨by omega, rfl⟩))) (mFS_9 hF37 (fun o k z => Or.inl z))
          have h47_37 : ∀ h, h < H → zL w37 47 h = zL w 47 h := fun h hh => (congrFun (L47_9 hF37) h).trans (h47_36 h hh)
          have h47H_37 : zL w37 47 H = tWd T n (tEnd T n p) := (congrFun (L47_9 hF37) H).trans h47H_36
          have e8 : Q8 = .inl p37 := k8.trans (ewc e7 hq37)
          refine z_if_eq (pc := 250) (tgt := 263) rfl (by decide) (fun h250 => ?_) (fun h250 => ?_)
          · first | exact absurd h250 (by decide) | exact absurd (by decide) h250
          · refine z_aload_n (pc := 253) (i := 0) (j := 0) rfl rfl rfl ?_
            refine z_iconst (pc := 254) (v := 0) rfl (by decide) ?_
            refine z_bipush (pc := 255) (v := 9) rfl (by decide) ?_
            refine z_cV (pc := 257) (mc1 := 0) (ms1 := 0) (mc2 := 0) (ms2 := 0) (as := [.int 0, .int 9]) (rest := []) (o := 44) rfl rfl hk_w37.1.1 ok_Mod_needsNumber rfl rfl cl_Mod_227 (by omega) (Nat.le_of_ble_eq_true rfl) (Nat.le_of_ble_eq_true rfl) (Nat.le_refl _) (Nat.le_refl _) (c_Mod_needsNumber (w := w37) hk_w37 hS37 0 9 2 (by decide)) (fun r1 w38 hp => ?_) rfl rfl
            obtain ⟨hF38, hR38, hG38⟩ := hp
            refine ⟨⟨by rw [hF38.1]; exact Nat.le_refl _, Or.inl (by rw [hF38.1] <;> rfl)⟩, ?_⟩
            rcases q_or ((numW T n 0 9 (.inl p37)).2) with ⟨k38, hq38⟩ | ⟨p38, hq38⟩
            · skip
              obtain ⟨rfl, h938⟩ := hR38.2 _ hq38
              have hk_w38 := mK_9 hk_w37 hF38
              have hN38 : mFS (fun o k => s9 o k ∨ (o = 46 ∧ k = 9) ∨ ((48 ≤ o ∧ o ≤ 51) ∧ k = 8 + H)) w w38 := mFS_t hN37 (mFS_9 hF38 (fun o k z => Or.inl z))
              have h47_38 : ∀ h, h < H → zL w38 47 h = zL w 47 h := fun h hh => (congrFun (L47_9 hF38) h).trans (h47_37 h hh)
              have h47H_38 : zL w38 47 H = tWd T n (tEnd T n p) := (congrFun (L47_9 hF38) H).trans h47H_37
              refine z_if_ne (pc := 260) (tgt := 265) rfl (by decide) (fun h260 => ?_) (fun h260 => ?_)
              · first | exact absurd h260 (by decide) | exact absurd (by decide) h260
              · refine z_iconst (pc := 263) (v := 0) rfl (by decide) ?_
                exact z_zret (pc := 264) rfl rfl (by decide) (stP_bad (mFS_m hN38 (sh_x hH)) h938 (gi _ (by rw [khi]; exact nwc e8 hq38)))
            · skip
              obtain ⟨rfl, hS38⟩ := hR38.1 _ hq38
              have hk_w38 := mK_9 hk_w37 hF38
              have hN38 : mFS (fun o k => s9 o k ∨ (o = 46 ∧ k = 9) ∨ ((48 ≤ o ∧ o ≤ 51) ∧ k = 8 + H)) w w38 := mFS_t hN37 (mFS_9 hF38 (fun o k z => Or.inl z))
              have h47_38 : ∀ h, h < H → zL w38 47 h = zL w 47 h := fun h hh => (congrFun (L47_9 hF38) h).trans (h47_37 h hh)
              have h47H_38 : zL w38 47 H = tWd T n (tEnd T n p) := (congrFun (L47_9 hF38) H).trans h47H_37
              have eh : hi.2 = .inl p38 := by rw [khi]; exact nwc e8 hq38
              have eh1 : hi.1 = (numW T n 0 9 (.inl p37)).1 := by rw [khi]; exact nwv e8 rfl
              have hg1 := hG38 _ hq38
              generalize (numW T n 0 9 (.inl p37)).1 = g at eh1 hg1
              refine z_if_ne (pc := 260) (tgt := 265) rfl (by decide) (fun h260 => ?_) (fun h260 => ?_)
              · refine z_aload_n (pc := 265) (i := 0) (j := 0) rfl rfl rfl ?_
                refine z_getR (pc := 266) (x := 50) rfl fl_Mod_26 hk_w38.1.1 rfl (mr_50 hk_w38.1) ?_
                refine z_iload_n (pc := 269) (i := 1) (j := 1) rfl rfl rfl ?_
                refine z_aload_n (pc := 270) (i := 0) (j := 0) rfl rfl rfl ?_
                refine z_getI (pc := 271) rfl fl_Mod_218 hk_w38.1.1 rfl ?_
                refine z_eqi (y := g) hg1 ?_
                refine z_iast (pc := 274) rfl (mk_50 hk_w38.1) (vp_in_nI (n := 8 + H) (N := 48) (by omega) (by decide)) ?_
                refine z_aload_n (pc := 275) (i := 0) (j := 0) rfl rfl rfl ?_
                refine z_getR (pc := 276) (x := 51) rfl fl_Mod_29 hk_w38.1.1 rfl (mr_51 hk_w38.1) ?_
                refine z_iload_n (pc := 279) (i := 1) (j := 1) rfl rfl rfl ?_
                refine z_aload_n (pc := 280) (i := 0) (j := 0) rfl rfl rfl ?_
                refine z_cV (pc := 281) (mc1 := 0) (ms1 := 0) (mc2 := 0) (ms2 := 0) (as := []) (rest := [.int (nI (8 + H)), .ref 51]) (o := 44) rfl rfl hk_w38.1.1 ok_Mod_kindAt rfl rfl cl_Mod_244 (by omega) (Nat.le_of_ble_eq_true rfl) (Nat.le_of_ble_eq_true rfl) (Nat.le_refl _) (Nat.le_refl _) (c_Mod_kindAt (w := zsI w38 50 (nI (8 + H)).toNatClampNeg g) (mK_o hk_w38 _ _ (by decide) (by decide)) (mS_o hS38 (by decide) _) 1 (by decide)) (fun r1 w1 hp => ?_) rfl rfl
                obtain ⟨rfl, hw1⟩ := hp
                rw [hw1]
                refine ⟨⟨Nat.le_refl _, Or.inl rfl⟩, ?_⟩
                refine z_iast (pc := 284) rfl (mk_51 hk_w38.1) (vp_in_nI (n := 8 + H) (N := 48) (by omega) (by decide)) ?_
                refine z_aload_n (pc := 285) (i := 0) (j := 0) rfl rfl rfl ?_
                refine z_getR (pc := 286) (x := 51) rfl fl_Mod_29 hk_w38.1.1 rfl (mr_51 hk_w38.1) ?_
                refine z_iload_n (pc := 289) (i := 1) (j := 1) rfl rfl rfl ?_
                refine z_iald (pc := 290) rfl (mk_51 hk_w38.1) (vp_in_nI (n := 8 + H) (N := 48) (by omega) (by decide)) ?_
                refine z_eqi (y := kndO (tW T n p38)) (z2_at _ _ _ _) ?_
                refine z_if_ge (pc := 291) (tgt := 300) rfl (by decide) (fun h291 => ?_) (fun h291 => ?_)
                · refine z_aload_n (pc := 300) (i := 0) (j := 0) rfl rfl rfl ?_
                  refine z_cV (pc := 301) (mc1 := 0) (ms1 := 0) (mc2 := 0) (ms2 := 0) (as := []) (rest := []) (o := 44) rfl rfl hk_w38.1.1 ok_Mod_nextToken rfl rfl cl_Mod_174 (by omega) (Nat.le_of_ble_eq_true rfl) (Nat.le_of_ble_eq_true rfl) (Nat.le_refl _) (Nat.le_refl _) (c_Mod_nextToken (w := zsI (zsI w38 50 (nI (8 + H)).toNatClampNeg g) 51 (nI (8 + H)).toNatClampNeg (kndO (tW T n p38))) (mK_o (mK_o hk_w38 _ _ (by decide) (by decide)) _ _ (by decide) (by decide)) (p := tEnd T n p38) (tEnd_le hS38.2.2.2.2.2) hS38.1 1 (by decide)) (fun r1 w39 hp => ?_) rfl rfl
                  obtain ⟨rfl, hF39, hS39⟩ := hp
                  refine ⟨⟨by rw [hF39.1]; exact Nat.le_refl _, Or.inl (by rw [hF39.1] <;> rfl)⟩, ?_⟩
                  have hk_w39 := mK_F (mK_o (mK_o hk_w38 _ _ (by decide) (by decide)) _ _ (by decide) (by decide)) hF39
                  have hN39 : mFS (fun o k => s9 o k ∨ (o = 46 ∧ k = 9) ∨ ((48 ≤ o ∧ o ≤ 51) ∧ k = 8 + H)) w w39 := mFS_t (mFS_A (mFS_A hN38 (by rw [nI_clamp (n := 8 + H) (by omega)]; exact Or.inr (Or.inr ⟨by omega, rfl⟩))) (by rw [nI_clamp (n := 8 + H) (by omega)]; exact Or.inr (Or.inr ⟨by omega, rfl⟩))) (mFS_9 (mF9_F hF39) (fun o k z => Or.inl z))
                  have eE : QE = .inl (tEnd T n p38) := kE.trans ((congrArg (kndS T n) eh).trans (kndS_good h291))
                  refine z_aload_n (pc := 304) (i := 0) (j := 0) rfl rfl rfl ?_
                  refine z_getR (pc := 305) (x := 46) rfl fl_Mod_13 hk_w39.1.1 rfl (mr_46 hk_w39.1) ?_
                  refine z_bipush (pc := 308) (v := 9) rfl (by decide) ?_
                  refine z_dup2 (pc := 310) rfl rfl rfl ?_
                  refine z_iald (pc := 311) rfl (mk_46 hk_w39.1) (vp_in_nI (n := 9) (by decide) (by decide)) ?_
                  refine z_eqi (y := nI H) ((congrFun (hF39.2.2.1 46 (by decide)) 9).trans ((congrFun (hF38.2.2.1 46 (by decide)) 9).trans ((congrFun (hF37.2.2.1 46 (by decide)) 9).trans ((congrFun (hF36.2.2.1 46 (by decide)) 9).trans h46H)))) ?_
                  refine z_iconst (pc := 312) (v := 1) rfl (by decide) ?_
                  refine z_iadd (pc := 313) rfl ?_
                  refine z_eqi (y := nI (H + 1)) (nI_1 H) ?_
                  refine z_iast (pc := 314) rfl (mk_46 hk_w39.1) (vp_in_nI (n := 9) (by decide) (by decide)) ?_
                  refine z_aload_n (pc := 315) (i := 0) (j := 0) rfl rfl rfl ?_
                  refine z_cV (pc := 316) (mc1 := 0) (ms1 := 0) (mc2 := 0) (ms2 := 0) (as := []) (rest := []) (o := 44) rfl rfl hk_w39.1.1 ok_Mod_ends rfl rfl cl_Mod_231 (by omega) (Nat.le_of_ble_eq_true rfl) (Nat.le_of_ble_eq_true rfl) (Nat.le_refl _) (Nat.le_refl _) (c_Mod_ends (w := zsI w39 46 (9 : Int32).toNatClampNeg (nI (H + 1))) (mK_o hk_w39 _ _ (by decide) (by decide)) (mS_o hS39 (by decide) _) 2 (by decide)) (fun r1 w40 hp => ?_) rfl rfl
                  obtain ⟨hF40, hR40⟩ := hp
                  refine ⟨⟨by rw [hF40.1]; exact Nat.le_refl _, Or.inl (by rw [hF40.1] <;> rfl)⟩, ?_⟩
                  rcases q_or (expS T n 59 (.inl (tEnd T n p38))) with ⟨k40, hq40⟩ | ⟨p40, hq40⟩
                  · skip
                    obtain ⟨rfl, h940⟩ := hR40.2 _ hq40
                    have hN40 : mFS (fun o k => s9 o k ∨ (o = 46 ∧ k = 9) ∨ ((48 ≤ o ∧ o ≤ 51) ∧ k = 8 + H)) w w40 := mFS_t (mFS_A hN39 (Or.inr (Or.inl ⟨rfl, rfl⟩))) (mFS_9 hF40 (fun o k z => Or.inl z))
                    have eD : D2.1 = expS T n 59 (.inl (tEnd T n p38)) := d1.trans (exc eE rfl)
                    exact z_zret (pc := 319) rfl rfl (by decide) (stP_bad (mFS_m hN40 (sh_x hH)) h940 (eD.trans hq40))
                  · skip
                    obtain ⟨rfl, hS40⟩ := hR40.1 _ hq40
                    have hN40 : mFS (fun o k => s9 o k ∨ (o = 46 ∧ k = 9) ∨ ((48 ≤ o ∧ o ≤ 51) ∧ k = 8 + H)) w w40 := mFS_t (mFS_A hN39 (Or.inr (Or.inl ⟨rfl, rfl⟩))) (mFS_9 hF40 (fun o k z => Or.inl z))
                    have eD : D2.1 = expS T n 59 (.inl (tEnd T n p38)) := d1.trans (exc eE rfl)
                    have y46 : zI w40 46 9 = nI (H + 1) := congrFun (hF40.2.2.1 46 (by decide)) 9
                    have r49 : ∀ o k, o ≠ 44 → ¬ (o = 46 ∧ k = 9) → zI w40 o k = zI w39 o k := fun o k h1 h2 => (congrFun (hF40.2.2.1 o h1) k).trans (zI_nt w39 _ (show o ≠ 46 ∨ k ≠ 9 by omega))
                    have y48 : zI w40 48 (8 + H) = nI c := (r49 48 _ (by decide) (by omega)).trans ((congrFun (hF39.2.2.1 48 (by decide)) _).trans ((congrFun (hF38.2.2.1 48 (by decide)) _).trans ((congrFun (hF37.2.2.1 48 (by decide)) _).trans ((congrFun (hF36.2.2.1 48 (by decide)) _).trans z48))))
                    have y49 : zI w40 49 (8 + H) = nI r := (r49 49 _ (by decide) (by omega)).trans ((congrFun (hF39.2.2.1 49 (by decide)) _).trans ((congrFun (hF38.2.2.1 49 (by decide)) _).trans ((congrFun (hF37.2.2.1 49 (by decide)) _).trans (show z2 (zI w36) 49 (nI (8 + H)).toNatClampNeg (nI r) 49 (8 + H) = nI r from by rw [nI_clamp (n := 8 + H) (by omega)]; exact z2_at _ _ _ _))))
                    have y50 : zI w40 50 (8 + H) = g := (r49 50 _ (by decide) (by omega)).trans ((congrFun (hF39.2.2.1 50 (by decide)) _).trans (show z2 (zI w38) 50 (nI (8 + H)).toNatClampNeg g 50 (8 + H) = g from by rw [nI_clamp (n := 8 + H) (by omega)]; exact z2_at _ _ _ _))
                    have y51 : zI w40 51 (8 + H) = kndO (tW T n p38) := (r49 51 _ (by decide) (by omega)).trans ((congrFun (hF39.2.2.1 51 (by decide)) _).trans (show z2 (zI (zsI w38 50 (nI (8 + H)).toNatClampNeg g)) 51 (nI (8 + H)).toNatClampNeg (kndO (tW T n p38)) 51 (8 + H) = _ from by rw [nI_clamp (n := 8 + H) (by omega)]; exact z2_at _ _ _ _))
                    have y47 : ∀ h, h < H → zL w40 47 h = zL w 47 h := fun h hh => (congrFun (L47_9 hF40) h).trans ((congrFun (L47_9 (mF9_F hF39)) h).trans (h47_38 h hh))
                    have y47H : zL w40 47 H = tWd T n (tEnd T n p) := (congrFun (L47_9 hF40) H).trans ((congrFun (L47_9 (mF9_F hF39)) H).trans h47H_38)
                    obtain ⟨d2a, d2b⟩ := d2 _ eE
                    rw [ec1, er1, eh1, show tkw T n hi.2 = tW T n p38 from by rw [eh]; rfl] at d2a
                    rw [k2 hH, show keyS T n (.inl (tEnd T n p)) = keyC T (tBeg T n (tEnd T n p)) (tLen T n (tEnd T n p)) from rfl] at d2b
                    have hp40 : p < p40 := Nat.lt_of_le_of_lt hp34 (Nat.lt_of_le_of_lt (numW_le hq36) (Nat.lt_of_le_of_lt (expW_le hq37) (Nat.lt_of_le_of_lt (numW_le hq38) (Nat.lt_of_le_of_lt (nxt_le (p1 := tEnd T n p38) rfl) (expS_lt hq40)))))
                    exact z_zret (pc := 319) rfl rfl (by decide) (stP_good (mFS_m hN40 (sh_x hH)) hS40 (eD.trans hq40) hp40 ⟨j, by rw [d2a, d2b]; exact ⟨C, R, H + 1, K, U, DN_house hDN hs hH hN40 y47 y47H hk3.1 y46 y48 y49 y50 y51 (by omega) (by omega)⟩, by omega⟩)
                · refine z_aload_n (pc := 294) (i := 0) (j := 0) rfl rfl rfl ?_
                  refine z_iconst (pc := 295) (v := 1) rfl (by decide) ?_
                  refine z_cV (pc := 296) (mc1 := 0) (ms1 := 0) (mc2 := 0) (ms2 := 0) (as := [.int 1]) (rest := []) (o := 44) rfl rfl hk_w38.1.1 ok_Mod_fails rfl rfl cl_Mod_168 (by omega) (Nat.le_of_ble_eq_true rfl) (Nat.le_of_ble_eq_true rfl) (Nat.le_refl _) (Nat.le_refl _) (c_Mod_fails (w := zsI (zsI w38 50 (nI (8 + H)).toNatClampNeg g) 51 (nI (8 + H)).toNatClampNeg (kndO (tW T n p38))) (mK_o (mK_o hk_w38 _ _ (by decide) (by decide)) _ _ (by decide) (by decide)) (mS_o (mS_o hS38 (by decide) _) (by decide) _) 1 0) (fun r1 w1 hp => ?_) rfl rfl
                  obtain ⟨rfl, hw1⟩ := hp
                  rw [hw1]
                  refine ⟨⟨Nat.le_refl _, Or.inl rfl⟩, ?_⟩
                  exact z_zret (pc := 299) rfl rfl (by decide) (stP_bad (mFS_m (mFS_A (mFS_A (mFS_A hN38 (by rw [nI_clamp (n := 8 + H) (by omega)]; exact Or.inr (Or.inr ⟨by omega, rfl⟩))) (by rw [nI_clamp (n := 8 + H) (by omega)]; exact Or.inr (Or.inr ⟨by omega, rfl⟩))) (Or.inl ⟨rfl, by omega⟩)) (sh_x hH)) rfl (gE _ (kE.trans ((congrArg (kndS T n) eh).trans (kndS_bad (Int32.not_le.mp h291))))))
              · first | exact absurd h260 (by decide) | exact absurd (by decide) h260
      · first | exact absurd h228 (by decide) | exact absurd (by decide) h228
  have K83 : ∀ (w31 : zW), mF w w31 → mS w31 T n (tEnd T n p) → (tC T n (tEnd T n p) = 3 ∧ resO (tW T n (tEnd T n p)) = 0) → (¬ hasNm N (keyC T (tBeg T n (tEnd T n p)) (tLen T n (tEnd T n p))) H 0 = true) → H < 8 → zS 0 0 d m_Mod_readsHouse (stP T n s p w D2) 83 [(0, .ref 44), (1, .int (nI (8 + H)))] [] w31 := by
    intro w31 hF31 hS31 hk3 hy hH
    have hk_w31 := mK_F hk_w hF31
    have hN31 : mFS (fun o k => s9 o k ∨ (o = 46 ∧ k = 9) ∨ ((48 ≤ o ∧ o ≤ 51) ∧ k = 8 + H)) w w31 := mFS_9 (mF9_F hF31) (fun o k z => Or.inl z)
    have h47_31 : zL w31 47 = zL w 47 := L47_9 (mF9_F hF31)
    refine z_aload_n (pc := 83) (i := 0) (j := 0) rfl rfl rfl ?_
    refine z_getR (pc := 84) (x := 47) rfl fl_Mod_16 hk_w31.1.1 rfl (mr_47 hk_w31.1) ?_
    refine z_iload_n (pc := 87) (i := 1) (j := 1) rfl rfl rfl ?_
    refine z_bipush (pc := 88) (v := 8) rfl (by decide) ?_
    refine z_isub (pc := 90) rfl ?_
    refine z_eqi (y := nI H) (nI_s8 H) ?_
    refine z_aload_n (pc := 91) (i := 0) (j := 0) rfl rfl rfl ?_
    refine z_getL (pc := 92) rfl fl_Mod_118 hk_w31.1.1 rfl ?_
    refine z_eql (y := tWd T n (tEnd T n p)) hS31.2.2.2.1 ?_
    refine z_last (pc := 95) rfl (mk_47 hk_w31.1) (vp_in_nI (n := H) (N := 8) (by omega) (by decide)) ?_
    refine z_aload_n (pc := 96) (i := 0) (j := 0) rfl rfl rfl ?_
    refine z_cV (pc := 97) (mc1 := 0) (ms1 := 0) (mc2 := 0) (ms2 := 0) (as := []) (rest := []) (o := 44) rfl rfl hk_w31.1.1 ok_Mod_nextToken rfl rfl cl_Mod_174 (by omega) (Nat.le_of_ble_eq_true rfl) (Nat.le_of_ble_eq_true rfl) (Nat.le_refl _) (Nat.le_refl _) (c_Mod_nextToken (w := zsL w31 47 (nI H).toNatClampNeg (tWd T n (tEnd T n p))) (mK_L47 hk_w31 _ _) (p := (tEnd T n (tEnd T n p))) (tEnd_le hS31.2.2.2.2.2) hS31.1 1 (by decide)) (fun r1 w32 hp => ?_) rfl rfl
    obtain ⟨rfl, hF32, hS32⟩ := hp
    refine ⟨⟨by rw [hF32.1]; exact Nat.le_refl _, Or.inl (by rw [hF32.1] <;> rfl)⟩, ?_⟩
    have hk_w32 := mK_F (mK_L47 hk_w31 _ _) hF32
    have hN32 : mFS (fun o k => s9 o k ∨ (o = 46 ∧ k = 9) ∨ ((48 ≤ o ∧ o ≤ 51) ∧ k = 8 + H)) w w32 := mFS_t hN31 (mFS_t (mFS_L _) (mFS_9 (mF9_F hF32) (fun o k z => Or.inl z)))
    have h47_32 : ∀ h, h < H → zL w32 47 h = zL w 47 h := fun h hh => (congrFun (L47_9 (mF9_F hF32)) h).trans ((show z2 (zL w31) 47 (nI H).toNatClampNeg _ 47 h = zL w31 47 h from by rw [nI_clamp (by omega)]; unfold z2; rw [if_neg (by omega)]).trans (congrFun h47_31 h))
    have h47H_32 : zL w32 47 H = tWd T n (tEnd T n p) := (congrFun (L47_9 (mF9_F hF32)) H).trans (show z2 (zL w31) 47 (nI H).toNatClampNeg _ 47 H = _ from by rw [nI_clamp (by omega)]; unfold z2; rw [if_pos ⟨rfl, rfl⟩])
    have e3 : Q3 = .inl (tEnd T n (tEnd T n p)) := k3.trans (nsc (k2 hH) (newS_ok hk3 hy))
    refine z_aload_n (pc := 100) (i := 0) (j := 0) rfl rfl rfl ?_
    refine z_ldc2 (pc := 101) (v := 47) rfl kl_Mod_202 ?_
    refine z_cV (pc := 104) (mc1 := 0) (ms1 := 0) (mc2 := 0) (ms2 := 0) (as := [.long 47]) (rest := []) (o := 44) rfl rfl hk_w32.1.1 ok_Mod_needsWord rfl rfl cl_Mod_241 (by omega) (Nat.le_of_ble_eq_true rfl) (Nat.le_of_ble_eq_true rfl) (Nat.le_refl _) (Nat.le_refl _) (c_Mod_needsWord (w := w32) hk_w32 hS32 (i := 6) (by decide) (x := 47) rfl 2 (by decide)) (fun r1 w33 hp => ?_) rfl rfl
    obtain ⟨hF33, hR33⟩ := hp
    refine ⟨⟨by rw [hF33.1]; exact Nat.le_refl _, Or.inl (by rw [hF33.1] <;> rfl)⟩, ?_⟩
    rcases q_or (expW T n (some (1000000 + 6)) (.inl (tEnd T n (tEnd T n p)))) with ⟨k33, hq33⟩ | ⟨p33, hq33⟩
    · skip
      obtain ⟨rfl, h933⟩ := hR33.2 _ hq33
      have hk_w33 := mK_9 hk_w32 hF33
      have hN33 : mFS (fun o k => s9 o k ∨ (o = 46 ∧ k = 9) ∨ ((48 ≤ o ∧ o ≤ 51) ∧ k = 8 + H)) w w33 := mFS_t hN32 (mFS_9 hF33 (fun o k z => Or.inl z))
      have h47_33 : ∀ h, h < H → zL w33 47 h = zL w 47 h := fun h hh => (congrFun (L47_9 hF33) h).trans (h47_32 h hh)
      have h47H_33 : zL w33 47 H = tWd T n (tEnd T n p) := (congrFun (L47_9 hF33) H).trans h47H_32
      refine z_if_eq (pc := 107) (tgt := 126) rfl (by decide) (fun h107 => ?_) (fun h107 => ?_)
      · refine z_iconst (pc := 126) (v := 0) rfl (by decide) ?_
        exact z_zret (pc := 127) rfl rfl (by decide) (stP_bad (mFS_m hN33 (sh_x hH)) h933 (g4 _ (k4.trans (ewc e3 hq33))))
      · first | exact absurd h107 (by decide) | exact absurd (by decide) h107
    · skip
      obtain ⟨rfl, hS33⟩ := hR33.1 _ hq33
      have hk_w33 := mK_9 hk_w32 hF33
      have hN33 : mFS (fun o k => s9 o k ∨ (o = 46 ∧ k = 9) ∨ ((48 ≤ o ∧ o ≤ 51) ∧ k = 8 + H)) w w33 := mFS_t hN32 (mFS_9 hF33 (fun o k z => Or.inl z))
      have h47_33 : ∀ h, h < H → zL w33 47 h = zL w 47 h := fun h hh => (congrFun (L47_9 hF33) h).trans (h47_32 h hh)
      have h47H_33 : zL w33 47 H = tWd T n (tEnd T n p) := (congrFun (L47_9 hF33) H).trans h47H_32
      refine z_if_eq (pc := 107) (tgt := 126) rfl (by decide) (fun h107 => ?_) (fun h107 => ?_)
      · first | exact absurd h107 (by decide) | exact absurd (by decide) h107
      · refine z_aload_n (pc := 110) (i := 0) (j := 0) rfl rfl rfl ?_
        refine z_iconst (pc := 111) (v := 0) rfl (by decide) ?_
        refine z_aload_n (pc := 112) (i := 0) (j := 0) rfl rfl rfl ?_
        refine z_getR (pc := 113) (x := 46) rfl fl_Mod_13 hk_w33.1.1 rfl (mr_46 hk_w33.1) ?_
        refine z_iconst (pc := 116) (v := 5) rfl (by decide) ?_
        refine z_iald (pc := 117) rfl (mk_46 hk_w33.1) (vp_in_nI (n := 5) (by decide) (by decide)) ?_
        refine z_eqi (y := nI C) ((hN33.2.2.1 46 5 (by unfold s9; omega)).trans hm46.1) ?_
        refine z_iconst (pc := 118) (v := 1) rfl (by decide) ?_
        refine z_isub (pc := 119) rfl ?_
        refine z_eqi (y := nI (C - 1)) (nI_m1 hC1.1) ?_
        refine z_cV (pc := 120) (mc1 := 0) (ms1 := 0) (mc2 := 0) (ms2 := 0) (as := [.int 0, .int (nI (C - 1))]) (rest := []) (o := 44) rfl rfl hk_w33.1.1 ok_Mod_needsNumber rfl rfl cl_Mod_227 (by omega) (Nat.le_of_ble_eq_true rfl) (Nat.le_of_ble_eq_true rfl) (Nat.le_refl _) (Nat.le_refl _) (c_Mod_needsNumber (w := w33) hk_w33 hS33 0 (nI (C - 1)) 2 (by decide)) (fun r1 w34 hp => ?_) rfl rfl
        obtain ⟨hF34, hR34, hG34⟩ := hp
        refine ⟨⟨by rw [hF34.1]; exact Nat.le_refl _, Or.inl (by rw [hF34.1] <;> rfl)⟩, ?_⟩
        rcases q_or ((numW T n 0 (nI (C - 1)) (.inl p33)).2) with ⟨k34, hq34⟩ | ⟨p34, hq34⟩
        · skip
          obtain ⟨rfl, h934⟩ := hR34.2 _ hq34
          have hk_w34 := mK_9 hk_w33 hF34
          have hN34 : mFS (fun o k => s9 o k ∨ (o = 46 ∧ k = 9) ∨ ((48 ≤ o ∧ o ≤ 51) ∧ k = 8 + H)) w w34 := mFS_t hN33 (mFS_9 hF34 (fun o k z => Or.inl z))
          have h47_34 : ∀ h, h < H → zL w34 47 h = zL w 47 h := fun h hh => (congrFun (L47_9 hF34) h).trans (h47_33 h hh)
          have h47H_34 : zL w34 47 H = tWd T n (tEnd T n p) := (congrFun (L47_9 hF34) H).trans h47H_33
          refine z_if_ne (pc := 123) (tgt := 128) rfl (by decide) (fun h123 => ?_) (fun h123 => ?_)
          · first | exact absurd h123 (by decide) | exact absurd (by decide) h123
          · refine z_iconst (pc := 126) (v := 0) rfl (by decide) ?_
            exact z_zret (pc := 127) rfl rfl (by decide) (stP_bad (mFS_m hN34 (sh_x hH)) h934 (gc _ (by rw [kcl]; exact nwc (k4.trans (ewc e3 hq33)) hq34)))
        · skip
          obtain ⟨rfl, hS34⟩ := hR34.1 _ hq34
          have hk_w34 := mK_9 hk_w33 hF34
          have hN34 : mFS (fun o k => s9 o k ∨ (o = 46 ∧ k = 9) ∨ ((48 ≤ o ∧ o ≤ 51) ∧ k = 8 + H)) w w34 := mFS_t hN33 (mFS_9 hF34 (fun o k z => Or.inl z))
          have h47_34 : ∀ h, h < H → zL w34 47 h = zL w 47 h := fun h hh => (congrFun (L47_9 hF34) h).trans (h47_33 h hh)
          have h47H_34 : zL w34 47 H = tWd T n (tEnd T n p) := (congrFun (L47_9 hF34) H).trans h47H_33
          have e4 : Q4 = .inl p33 := k4.trans (ewc e3 hq33)
          have ec : cl.2 = .inl p34 := by rw [kcl]; exact nwc e4 hq34
          obtain ⟨c, -, hc2, hc⟩ := numW_v (a := 0) (b := C - 1) (by decide) (by omega) hq34
          have ec1 : cl.1 = nI c := by rw [kcl]; exact nwv e4 hc
          refine z_if_ne (pc := 123) (tgt := 128) rfl (by decide) (fun h123 => ?_) (fun h123 => ?_)
          · refine z_aload_n (pc := 128) (i := 0) (j := 0) rfl rfl rfl ?_
            refine z_getR (pc := 129) (x := 48) rfl fl_Mod_20 hk_w34.1.1 rfl (mr_48 hk_w34.1) ?_
            refine z_iload_n (pc := 132) (i := 1) (j := 1) rfl rfl rfl ?_
            refine z_aload_n (pc := 133) (i := 0) (j := 0) rfl rfl rfl ?_
            refine z_getI (pc := 134) rfl fl_Mod_218 hk_w34.1.1 rfl ?_
            refine z_eqi (y := nI c) ((hG34 _ hq34).trans hc) ?_
            refine z_iast (pc := 137) rfl (mk_48 hk_w34.1) (vp_in_nI (n := 8 + H) (N := 48) (by omega) (by decide)) ?_
            rw [nI_clamp (n := 8 + H) (by omega)]
            refine z_nmw (fun w35 hw35 => ?_)
            have hk_w35 : mK w35 n T := by rw [hw35]; exact mK_o hk_w34 _ _ (by decide) (by decide)
            have hS35 : mS w35 T n p34 := by rw [hw35]; exact mS_o hS34 (by decide) _
            have hN35 : mFS (fun o k => s9 o k ∨ (o = 46 ∧ k = 9) ∨ ((48 ≤ o ∧ o ≤ 51) ∧ k = 8 + H)) w w35 := by rw [hw35]; exact mFS_A hN34 (Or.inr (Or.inr ⟨by omega, rfl⟩))
            have h47_35 : ∀ h, h < H → zL w35 47 h = zL w 47 h := fun h hh => by rw [hw35]; exact h47_34 h hh
            have h47H_35 : zL w35 47 H = tWd T n (tEnd T n p) := by rw [hw35]; exact h47H_34
            have z48 : zI w35 48 (8 + H) = nI c := by rw [hw35]; exact z2_at _ _ _ _
            have hrow : ∀ h, h < H → zI w35 48 (8 + h) = F (s + 1) h ∧ zI w35 49 (8 + h) = F (s + 2) h := fun h hh => by
              obtain ⟨⟨x, y, -, -, x1, x2, x3, x4⟩, -⟩ := hHs h hh
              exact ⟨(hN35.2.2.1 48 (8 + h) (by unfold s9; omega)).trans (x2.trans x1.symm), (hN35.2.2.1 49 (8 + h) (by unfold s9; omega)).trans (x4.trans x3.symm)⟩
            have hR46 : zI w35 46 6 = nI R := (hN35.2.2.1 46 6 (by unfold s9; omega)).trans hm46.2.1
            have K := K214 w35 p34 c hk3 hy hk_w35 hS35 hN35 h47_35 h47H_35 z48 (by omega) ec ec1 hH ((congrFun (show zI w35 46 = zI w34 46 from by rw [hw35]; exact zI_ne w34 _ _ (by decide)) 9).trans ((congrFun (hF34.2.2.1 46 (by decide)) 9).trans ((congrFun (hF33.2.2.1 46 (by decide)) 9).trans ((congrFun (hF32.2.2.1 46 (by decide)) 9).trans ((congrFun (hF31.2.2.1 46 (by decide)) 9).trans h469))))) (Nat.le_trans (nxt_le (p1 := tEnd T n p) rfl) (Nat.le_trans (nxt_le (p1 := tEnd T n (tEnd T n p)) rfl) (Nat.le_trans (expW_le hq33) (numW_le hq34))))
            refine z_aload_n (pc := 138) (i := 0) (j := 0) rfl rfl rfl ?_
            refine z_getI (pc := 139) rfl fl_Mod_125 hk_w35.1.1 rfl ?_
            refine z_eqi (y := tM T n p34) hS35.2.2.1 ?_
            refine z_iconst (pc := 142) (v := 2) rfl (by decide) ?_
            refine z_icmp_ne (pc := 143) (tgt := 214) rfl (by decide) (fun h143 => ?_) (fun h143 => ?_)
            · refine z_drop (ls' := [(0, .ref 44), (1, .int (nI (8 + H)))]) (by simp) ?_
              exact K (fun p6 e6 => absurd ((t2_iff T n p34).mpr (numW_g e6).2.1) h143)
            · have h2 : tC T n p34 = 2 := (t2_iff T n p34).mp h143
              refine z_aload_n (pc := 146) (i := 0) (j := 0) rfl rfl rfl ?_
              refine z_getI (pc := 147) rfl fl_Mod_122 hk_w35.1.1 rfl ?_
              refine z_eqi (y := numV T (tBeg T n p34) (tLen T n p34)) (hS35.2.2.2.2.1.trans (tTo_n h2)) ?_
              refine z_iconst (pc := 150) (v := 0) rfl (by decide) ?_
              refine z_aload_n (pc := 151) (i := 0) (j := 0) rfl rfl rfl ?_
              refine z_getR (pc := 152) (x := 46) rfl fl_Mod_13 hk_w35.1.1 rfl (mr_46 hk_w35.1) ?_
              refine z_bipush (pc := 155) (v := 6) rfl (by decide) ?_
              refine z_iald (pc := 157) rfl (mk_46 hk_w35.1) (vp_in_nI (n := 6) (by decide) (by decide)) ?_
              refine z_eqi (y := nI R) hR46 ?_
              refine z_iconst (pc := 158) (v := 1) rfl (by decide) ?_
              refine z_isub (pc := 159) rfl ?_
              refine z_eqi (y := nI (R - 1)) (nI_m1 hR1.1) ?_
              refine z_cS (pc := 160) (mc1 := 0) (ms1 := 0) (mc2 := 0) (ms2 := 0) (as := [.int (numV T (tBeg T n p34) (tLen T n p34)), .int 0, .int (nI (R - 1))]) (rest := []) ok_Mod_within rfl rfl cl_Mod_214 (by omega) (Nat.le_of_ble_eq_true rfl) (Nat.le_of_ble_eq_true rfl) (Nat.le_refl _) (Nat.le_refl _) (c_Mod_within (numV T (tBeg T n p34) (tLen T n p34)) 0 (nI (R - 1)) 0 _) (fun r1 w1 hp => ?_) rfl rfl
              obtain ⟨rfl, hw1⟩ := hp
              rw [hw1]
              refine ⟨⟨Nat.le_refl _, Or.inl rfl⟩, ?_⟩
              refine z_if_eq (pc := 163) (tgt := 214) rfl (by decide) (fun h163 => ?_) (fun h163 => ?_)
              · refine z_drop (ls' := [(0, .ref 44), (1, .int (nI (8 + H)))]) (by simp) ?_
                refine K (fun p6 e6 => absurd h163 ?_)
                obtain ⟨v, -, v2, v3⟩ := numW_v (a := 0) (b := R - 1) (by decide) (by omega) e6
                have v4 := (numW_g e6).2.2.1
                have v5 : numV T (tBeg T n p34) (tLen T n p34) = nI v := v4.symm.trans v3
                rw [v5, if_neg (nI_pos (by omega)), if_neg (nI_nlt v2 (by omega))]
                decide
              · refine z_bipush (pc := 166) (v := 8) rfl (by decide) ?_
                refine z_istore_n (pc := 168) (i := 2) (ls' := [(0, .ref 44), (1, .int (nI (8 + H))), (2, .int 8)]) rfl rfl (by decide) rfl ?_
                have hwi : ¬ numV T (tBeg T n p34) (tLen T n p34) < 0 ∧ numV T (tBeg T n p34) (tLen T n p34) ≤ nI (R - 1) := ⟨fun e => h163 (if_pos e), Int32.not_lt.mp (fun e => h163 (by by_cases y1 : numV T (tBeg T n p34) (tLen T n p34) < 0 <;> simp [y1, e]))⟩
                have en : numW T n 0 (nI (R - 1)) (.inl p34) = (numV T (tBeg T n p34) (tLen T n p34), .inl (tEnd T n p34)) := by
                  unfold numW
                  rw [if_pos (show tkc T n (.inl p34) = 2 from h2)]
                  show (if numV T (tBeg T n p34) (tLen T n p34) < 0 then _ else if numV T (tBeg T n p34) (tLen T n p34) ≤ nI (R - 1) then (numV T (tBeg T n p34) (tLen T n p34), Sum.inl (tEnd T n p34)) else _) = _
                  rw [if_neg hwi.1, if_pos hwi.2]
                have er : rq = (numV T (tBeg T n p34) (tLen T n p34), .inl (tEnd T n p34)) := krw.trans ((congrArg (numW T n 0 (nI (R - 1))) ec).trans en)
                refine l_ho (w := w35) (H := H) (A := F (s + 1)) (B := F (s + 2)) (c := nI c) (v := numV T (tBeg T n p34) (tLen T n p34)) hk_w35 hS35 (by omega) hrow z48 (hS35.2.2.2.2.1.trans (tTo_n h2)) (by omega) H 0 (Nat.zero_add _) (fun hz => ?_) (fun hz => ?_)
                · refine stP_bad (mFS_m (mFS_A hN35 (Or.inl ⟨rfl, by omega⟩)) (sh_x hH)) rfl (g7 _ ?_)
                  rw [k7, er, ec1, ec]
                  show (if (0 : Int32) = 0 then (if hasAt (F (s + 1)) (F (s + 2)) (nI c) (numV T (tBeg T n p34) (tLen T n p34)) H 0 = true then wrgA (nI (tBeg T n p34)) 3 (.inl (tEnd T n p34)) else _) else _) = _
                  rw [if_pos rfl, if_pos hz]
                  rfl
                · exact K (fun p6 e6 => by rw [en]; exact hz)
          · first | exact absurd h123 (by decide) | exact absurd (by decide) h123
  refine z_bipush (pc := 0) (v := 8) rfl (by decide) ?_
  refine z_aload_n (pc := 2) (i := 0) (j := 0) rfl rfl rfl ?_
  refine z_getR (pc := 3) (x := 46) rfl fl_Mod_13 hk_w.1.1 rfl (mr_46 hk_w.1) ?_
  refine z_bipush (pc := 6) (v := 9) rfl (by decide) ?_
  refine z_iald (pc := 8) rfl (mk_46 hk_w.1) (vp_in_nI (n := 9) (by decide) (by decide)) ?_
  refine z_eqi (y := nI H) h469 ?_
  refine z_iadd (pc := 9) rfl ?_
  refine z_eqi (y := nI (8 + H)) (nI_add 8 H) ?_
  refine z_istore_n (pc := 10) (i := 1) (ls' := [(0, .ref 44), (1, .int (nI (8 + H)))]) rfl rfl (by decide) rfl ?_
  refine z_aload_n (pc := 11) (i := 0) (j := 0) rfl rfl rfl ?_
  refine z_getR (pc := 12) (x := 46) rfl fl_Mod_13 hk_w.1.1 rfl (mr_46 hk_w.1) ?_
  refine z_bipush (pc := 15) (v := 9) rfl (by decide) ?_
  refine z_iald (pc := 17) rfl (mk_46 hk_w.1) (vp_in_nI (n := 9) (by decide) (by decide)) ?_
  refine z_eqi (y := nI H) h469 ?_
  refine z_bipush (pc := 18) (v := 8) rfl (by decide) ?_
  refine z_icmp_ne (pc := 20) (tgt := 29) rfl (by decide) (fun h20 => ?_) (fun h20 => ?_)
  · have hH : H < 8 := by
      have z : ¬ H = 8 := fun z => h20 (by rw [z]; rfl)
      omega
    refine z_aload_n (pc := 29) (i := 0) (j := 0) rfl rfl rfl ?_
    refine z_cV (pc := 30) (mc1 := 0) (ms1 := 0) (mc2 := 0) (ms2 := 0) (as := []) (rest := []) (o := 44) rfl rfl hk_w.1.1 ok_Mod_nextToken rfl rfl cl_Mod_174 (by omega) (Nat.le_of_ble_eq_true rfl) (Nat.le_of_ble_eq_true rfl) (Nat.le_refl _) (Nat.le_refl _) (c_Mod_nextToken (w := w) hk_w (p := tEnd T n p) (tEnd_le hS.2.2.2.2.2) hS.1 1 (by decide)) (fun r1 w31 hp => ?_) rfl rfl
    obtain ⟨rfl, hF31, hS31⟩ := hp
    refine ⟨⟨by rw [hF31.1]; exact Nat.le_refl _, Or.inl (by rw [hF31.1] <;> rfl)⟩, ?_⟩
    have hk_w31 := mK_F hk_w hF31
    have hN31 : mFS (fun o k => s9 o k ∨ (o = 46 ∧ k = 9) ∨ ((48 ≤ o ∧ o ≤ 51) ∧ k = 8 + H)) w w31 := mFS_9 (mF9_F hF31) (fun o k z => Or.inl z)
    have h47_31 : zL w31 47 = zL w 47 := L47_9 (mF9_F hF31)
    have e2 := k2 hH
    refine z_aload_n (pc := 33) (i := 0) (j := 0) rfl rfl rfl ?_
    refine z_cV (pc := 34) (mc1 := 0) (ms1 := 0) (mc2 := 0) (ms2 := 0) (as := []) (rest := []) (o := 44) rfl rfl hk_w31.1.1 ok_Mod_isKept rfl rfl cl_Mod_238 (by omega) (Nat.le_of_ble_eq_true rfl) (Nat.le_of_ble_eq_true rfl) (Nat.le_refl _) (Nat.le_refl _) (c_Mod_isKept hk_w31 hS31 0) (fun r1 w1 hp => ?_) rfl rfl
    obtain ⟨rfl, hw1⟩ := hp
    rw [hw1]
    refine ⟨⟨Nat.le_refl _, Or.inl rfl⟩, ?_⟩
    refine z_if_eq (pc := 37) (tgt := 46) rfl (by decide) (fun h37 => ?_) (fun h37 => ?_)
    · refine z_bipush (pc := 46) (v := 8) rfl (by decide) ?_
      refine z_istore_n (pc := 48) (i := 2) (ls' := [(0, .ref 44), (1, .int (nI (8 + H))), (2, .int 8)]) rfl rfl (by decide) rfl ?_
      have hk3 := newS_k h37
      refine l_hn (w := w31) (H := H) (N := N) hk_w31 hS31 hk3.1 (by omega) (fun h hh => by obtain ⟨-, -, -, a, k, x1, x2, x3, x4⟩ := hHs h hh; exact ⟨a, k, x1, x2, x3, (congrFun h47_31 h).trans x4⟩) (by omega) H 0 (Nat.zero_add _) (fun hy => ?_) (fun hy => ?_)
      · exact stP_bad (mFS_m (mFS_A hN31 (Or.inl ⟨rfl, by omega⟩)) (sh_x hH)) rfl (g3 _ (k3.trans (nsc e2 (newS_3 hk3 hy))))
      · exact K83 w31 hF31 hS31 hk3 hy hH
    · refine z_aload_n (pc := 40) (i := 0) (j := 0) rfl rfl rfl ?_
      refine z_iconst (pc := 41) (v := 1) rfl (by decide) ?_
      refine z_cV (pc := 42) (mc1 := 0) (ms1 := 0) (mc2 := 0) (ms2 := 0) (as := [.int 1]) (rest := []) (o := 44) rfl rfl hk_w31.1.1 ok_Mod_fails rfl rfl cl_Mod_168 (by omega) (Nat.le_of_ble_eq_true rfl) (Nat.le_of_ble_eq_true rfl) (Nat.le_refl _) (Nat.le_refl _) (c_Mod_fails (w := w31) hk_w31 hS31 1 0) (fun r1 w1 hp => ?_) rfl rfl
      obtain ⟨rfl, hw1⟩ := hp
      rw [hw1]
      refine ⟨⟨Nat.le_refl _, Or.inl rfl⟩, ?_⟩
      exact z_zret (pc := 45) rfl rfl (by decide) (stP_bad (mFS_m (mFS_A hN31 (Or.inl ⟨rfl, by omega⟩)) (sh_x hH)) rfl (g3 _ (k3.trans (nsc e2 (newS_1 h37)))))
  · have hH8 : ¬ H < 8 := fun z => by have := (nI_eq (a := H) (b := 8) (by omega) (by omega)).mp h20; omega
    refine z_aload_n (pc := 23) (i := 0) (j := 0) rfl rfl rfl ?_
    refine z_iconst (pc := 24) (v := 5) rfl (by decide) ?_
    refine z_cV (pc := 25) (mc1 := 0) (ms1 := 0) (mc2 := 0) (ms2 := 0) (as := [.int 5]) (rest := []) (o := 44) rfl rfl hk_w.1.1 ok_Mod_fails rfl rfl cl_Mod_168 (by omega) (Nat.le_of_ble_eq_true rfl) (Nat.le_of_ble_eq_true rfl) (Nat.le_refl _) (Nat.le_refl _) (c_Mod_fails (w := w) hk_w hS 5 0) (fun r1 w1 hp => ?_) rfl rfl
    obtain ⟨rfl, hw1⟩ := hp
    rw [hw1]
    refine ⟨⟨Nat.le_refl _, Or.inl rfl⟩, ?_⟩
    exact z_zret (pc := 28) rfl rfl (by decide) (stP_bad (mFS_9 (mF9_I _ (Or.inl rfl)) s9_x) rfl (g2 _ (k2b hH8)))
