/-! STREET -/
theorem z2g_n {α : Type} (f : Nat → Nat → α) {o k a b : Nat} (x : α) (h : ¬ (a = o ∧ b = k)) : z2 f o k x a b = f a b := if_neg h
theorem z2g_a {α : Type} (f : Nat → Nat → α) (o k : Nat) (x : α) : z2 f o k x o k = x := if_pos ⟨rfl, rfl⟩
theorem lifeB_at (f : Nat → Nat → Int32) (l : Nat) : lifeB f l l 8 = 0 ∧ lifeB f l l 9 = -1 ∧ lifeB f l l 10 = 0 ∧ lifeB f l l 11 = 0 ∧ lifeB f l l 12 = 0 := by
  unfold lifeB
  refine ⟨?_, ?_, ?_, ?_, ?_⟩
  · rw [z2_nt _ _ (by omega), z2_nt _ _ (by omega), z2_nt _ _ (by omega), z2_nt _ _ (by omega), z2_at]
  · rw [z2_nt _ _ (by omega), z2_nt _ _ (by omega), z2_nt _ _ (by omega), z2_at]
  · rw [z2_nt _ _ (by omega), z2_nt _ _ (by omega), z2_at]
  · rw [z2_nt _ _ (by omega), z2_at]
  · rw [z2_at]
theorem lifeB_rows (f : Nat → Nat → Int32) (l : Nat) : (∀ j, j < 8 → lifeB f l (l + 1) j = 0) ∧ (∀ j, j < 64 → lifeB f l (l + 2) j = 0) ∧ (∀ j, j < 64 → lifeB f l (l + 3) j = 0) ∧ (∀ j, j < 8 → lifeB f l (l + 4) j = 0) ∧ ∀ j, j < 1152 → lifeB f l (l + 5) j = 0 := by
  unfold lifeB
  refine ⟨fun j hj => ?_, fun j hj => ?_, fun j hj => ?_, fun j hj => ?_, fun j hj => ?_⟩ <;> rw [z2_ro _ _ _ (by omega), z2_ro _ _ _ (by omega), z2_ro _ _ _ (by omega), z2_ro _ _ _ (by omega), z2_ro _ _ _ (by omega)]
  · rw [zr_o _ _ (by omega), zr_o _ _ (by omega), zr_o _ _ (by omega), zr_o _ _ (by omega), zr_h]
    exact if_pos hj
  · rw [zr_o _ _ (by omega), zr_o _ _ (by omega), zr_o _ _ (by omega), zr_h]
    exact if_pos hj
  · rw [zr_o _ _ (by omega), zr_o _ _ (by omega), zr_h]
    exact if_pos hj
  · rw [zr_o _ _ (by omega), zr_h]
    exact if_pos hj
  · rw [zr_h]
    exact if_pos hj
theorem LR_life {f f2 : Nat → Nat → Int32} {l : Nat} {g : Nat → Int32} {H N : Nat} (e : ∀ o, l ≤ o → o < l + 6 → f2 o = lifeB f l o) (hg : ∀ j, j < 1344 → g j = 0) : LR f2 l g H N := by
  obtain ⟨a1, a2, a3, a4, a5⟩ := lifeB_at f l
  obtain ⟨b1, b2, b3, b4, b5⟩ := lifeB_rows f l
  have e0 := e l (by omega) (by omega)
  refine LR_zero (by rw [e0]; exact a1) (by rw [e0]; exact a2) (by rw [e0]; exact a3) (by rw [e0]; exact a4) (by rw [e0]; exact a5) (fun j hj => ?_) (fun j hj => ?_) (fun j hj => ?_) (fun j hj => ?_) (fun j hj => ?_) hg
  · rw [e _ (by omega) (by omega)]; exact b1 j hj
  · rw [e _ (by omega) (by omega)]; exact b2 j hj
  · rw [e _ (by omega) (by omega)]; exact b3 j hj
  · rw [e _ (by omega) (by omega)]; exact b4 j hj
  · rw [e _ (by omega) (by omega)]; exact b5 j hj
theorem rd0_o {f : Nat → Nat → Int32} {s o : Nat} (h : o ≠ 3) : rd0 f s o = strB f s o := by
  unfold rd0
  rw [z2_ro _ _ _ h, z2_ro _ _ _ h, z2_ro _ _ _ h, z2_ro _ _ _ h, z2_ro _ _ _ h, z2_ro _ _ _ h, z2_ro _ _ _ h]
theorem dD0_i (w : zW) (s : Nat) : (dD0 w s).2.1 = rd0 (zI w) s := rfl
theorem dD0_o {w : zW} {s o : Nat} (h3 : o ≠ 3) (ho : o < s ∨ s + 12 ≤ o) : (dD0 w s).2.1 o = zI w o := by rw [dD0_i, rd0_o h3, strB_o ho]
theorem dBeg_0 {w : zW} {s : Nat} (hs : 3 < s) : dBeg s (dD0 w s) := by
  refine ⟨rfl, ⟨?_, ?_, ?_, ?_, ?_⟩, ⟨?_, ?_, ?_, ?_⟩, ⟨?_, ?_, ?_, ?_, ?_⟩⟩ <;> rw [dD0_i]
  · rw [rd0_o (by omega)]; unfold strB; rw [z2_nt _ _ (by omega), z2_nt _ _ (by omega), z2_nt _ _ (by omega), z2_nt _ _ (by omega), z2_nt _ _ (by omega), z2_nt _ _ (by omega), z2_nt _ _ (by omega), z2_nt _ _ (by omega), z2_nt _ _ (by omega), z2_nt _ _ (by omega), z2_at]
  · rw [rd0_o (by omega)]; unfold strB; rw [z2_nt _ _ (by omega), z2_nt _ _ (by omega), z2_nt _ _ (by omega), z2_nt _ _ (by omega), z2_nt _ _ (by omega), z2_nt _ _ (by omega), z2_nt _ _ (by omega), z2_nt _ _ (by omega), z2_nt _ _ (by omega), z2_at]
  · rw [rd0_o (by omega)]; unfold strB; rw [z2_nt _ _ (by omega), z2_nt _ _ (by omega), z2_nt _ _ (by omega), z2_nt _ _ (by omega), z2_nt _ _ (by omega), z2_nt _ _ (by omega), z2_nt _ _ (by omega), z2_nt _ _ (by omega), z2_at]
  · rw [rd0_o (by omega)]; unfold strB; rw [z2_nt _ _ (by omega), z2_nt _ _ (by omega), z2_nt _ _ (by omega), z2_nt _ _ (by omega), z2_nt _ _ (by omega), z2_nt _ _ (by omega), z2_nt _ _ (by omega), z2_at]
  · rw [rd0_o (by omega)]; unfold strB; rw [z2_nt _ _ (by omega), z2_nt _ _ (by omega), z2_nt _ _ (by omega), z2_nt _ _ (by omega), z2_nt _ _ (by omega), z2_nt _ _ (by omega), z2_at]
  · rw [rd0_o (by omega)]; unfold strB; rw [z2_nt _ _ (by omega), z2_nt _ _ (by omega), z2_nt _ _ (by omega), z2_at]
  · rw [rd0_o (by omega)]; unfold strB; rw [z2_nt _ _ (by omega), z2_nt _ _ (by omega), z2_nt _ _ (by omega), z2_nt _ _ (by omega), z2_at]
  · rw [rd0_o (by omega)]; unfold strB; rw [z2_at]
  · rw [rd0_o (by omega)]; unfold strB; rw [z2_nt _ _ (by omega), z2_at]
  · unfold rd0; rw [z2_nt _ _ (by omega), z2_nt _ _ (by omega), z2_nt _ _ (by omega), z2_nt _ _ (by omega), z2_at]
  · unfold rd0; rw [z2_nt _ _ (by omega), z2_nt _ _ (by omega), z2_nt _ _ (by omega), z2_at]
  · unfold rd0; rw [z2_nt _ _ (by omega), z2_nt _ _ (by omega), z2_at]
  · unfold rd0; rw [z2_nt _ _ (by omega), z2_at]
  · unfold rd0; rw [z2_at]
theorem nz_0 {s : Nat} {D : rDt} (h : dBeg s D) : nzW D.2.1 s := by
  intro m hm e i hi
  have e1 : nI m = nI 1 := e.symm.trans h.2.2.1.1
  have e2 : m = 1 := (nI_eq (by omega) (by decide)).mp e1
  have e3 : i = 0 := by omega
  rw [e3, h.2.2.1.2.1]
  exact ⟨by decide, by decide⟩
/-- a mark that nothing has touched -/
theorem mk_keep {w w2 : zW} {k N M : Nat} (h : mkI w k N) (hk : k < 4) (hM : N ≤ M) (e1 : ∀ (x : Nat) (q : Nat × Nat), w.1[x]? = some q → w2.1[x]? = some q) (eR : ∀ a b, (a = 30 ∧ b = k) ∨ (74 ≤ a ∧ a < w.1.length) → zR w2 a b = zR w a b) (em : ∀ m, zR w 30 k = some m → ∀ o, m ≤ o → o < m + 22 → zI w2 o = zI w o) (e72 : zI w2 72 k = 0 ↔ zI w 72 k = 0) (e68 : ∀ j, j < 1344 → zI w2 68 (1344 * k + j) = zI w 68 (1344 * k + j)) (p1 : ∀ i, i < 5 → zI w2 46 (5 * (2 + k) + i) = zI w 46 (5 * (2 + k) + i)) (p2 : ∀ o, 48 ≤ o → o ≤ 51 → ∀ i, i < 8 → zI w2 o (8 * (2 + k) + i) = zI w o (8 * (2 + k) + i)) (p3 : ∀ o, (o = 52 ∨ o = 53) → ∀ i, i < 2 → zI w2 o (2 * (2 + k) + i) = zI w o (2 * (2 + k) + i)) (p4 : ∀ i, i < 1000 → zI w2 54 (1000 * (2 + k) + i) = zI w 54 (1000 * (2 + k) + i)) : mkI w2 k M := by
  have el : w.1.length ≤ w2.1.length := by
    by_cases z : w.1.length = 0
    · omega
    · have q := e1 (w.1.length - 1) _ (List.getElem?_eq_getElem (show w.1.length - 1 < w.1.length by omega))
      have := (List.getElem?_eq_some_iff.mp q).1
      omega
  rcases h with ⟨a1, a2⟩ | ⟨m, C, R, H, K, U, a1, a2, ⟨s1, s2, s3, s4, s5, s6, s7⟩, a4, a5, a6⟩
  · exact Or.inl ⟨(eR 30 k (Or.inl ⟨rfl, rfl⟩)).trans a1, e72.mpr a2⟩
  · have em := em m a1
    refine Or.inr ⟨m, C, R, H, K, U, (eR 30 k (Or.inl ⟨rfl, rfl⟩)).trans a1, fun z => a2 (e72.mp z), ⟨s1, by omega, e1 _ _ s3, (eR m 0 (Or.inr ⟨a4, by omega⟩)).trans s4, (eR m 1 (Or.inr ⟨a4, by omega⟩)).trans s5, zSt_ex s6 e1 (fun a b h1 h2 => eR a b (Or.inr ⟨by omega, by omega⟩)), zLf_ex s7 e1 (fun b => eR _ b (Or.inr ⟨by omega, by omega⟩))⟩, a4, SRn_keep a5 (fun o h1 h2 _ _ _ => em o (by omega) (by omega)) p1 p2 p3 p4, LR_same a6 hM (fun o h1 h2 => em o (by omega) (by omega)) e68⟩
theorem mFy_n {o k : Nat} (h : o < 44 ∨ o = 45 ∨ o = 47 ∨ 56 < o) : ¬ mFy o k := by
  unfold mFy mFx
  omega
theorem st_rest {v : zW} {k : Nat} {f : Nat → Nat → Int32} (hf : ∀ o i, ¬ mFy o i → f o i = zI v o i) : (∀ i, i < 5 → f 46 (5 * (2 + k) + i) = zI v 46 (5 * (2 + k) + i)) ∧ (∀ o, 48 ≤ o → o ≤ 51 → ∀ i, i < 8 → f o (8 * (2 + k) + i) = zI v o (8 * (2 + k) + i)) ∧ (∀ o, (o = 52 ∨ o = 53) → ∀ i, i < 2 → f o (2 * (2 + k) + i) = zI v o (2 * (2 + k) + i)) ∧ ∀ i, i < 1000 → f 54 (1000 * (2 + k) + i) = zI v 54 (1000 * (2 + k) + i) := by
  refine ⟨fun i hi => hf _ _ ?_, fun o h1 h2 i hi => hf _ _ ?_, fun o ho i hi => hf _ _ ?_, fun i hi => hf _ _ ?_⟩ <;> (unfold mFy mFx; omega)
theorem st_lay {f : Nat → Nat → Int32} {k : Nat} : (∀ i, i < 5 → laysF f 1 0 46 (5 * (2 + k) + i) = f 46 (5 * (2 + k) + i)) ∧ (∀ o, 48 ≤ o → o ≤ 51 → ∀ i, i < 8 → laysF f 1 0 o (8 * (2 + k) + i) = f o (8 * (2 + k) + i)) ∧ (∀ o, (o = 52 ∨ o = 53) → ∀ i, i < 2 → laysF f 1 0 o (2 * (2 + k) + i) = f o (2 * (2 + k) + i)) ∧ ∀ i, i < 1000 → laysF f 1 0 54 (1000 * (2 + k) + i) = f 54 (1000 * (2 + k) + i) := by
  refine ⟨fun i hi => ?_, fun o h1 h2 i hi => ?_, fun o ho i hi => ?_, fun i hi => ?_⟩
  · rw [laysF_46, fb_put_out (by omega)]
  · rw [laysF_h ⟨h1, h2⟩, fb_put_out (by omega)]
  · exact laysF_Lo ho (by omega)
  · rw [laysF_54, fb_put_out (by omega)]
set_option maxHeartbeats 1000000 in
theorem op_street {w : zW} {s N : Nat} (h : Iv w s N) (hN : N ≤ 511000) : Op w N m_SW_street m_Mod_street [] := by
  have hs := h.s
  obtain ⟨n, n1, rk, n2, n3, n4, n5⟩ := h.rd
  obtain ⟨t, ht⟩ : ∃ t, t = 36 - s := ⟨_, rfl⟩
  rw [← ht] at rk
  have t4 : t = 4 ∨ t = 32 := by omega
  have hst : s + t = 36 := by omega
  have rS9 := h.1.2.2.2
  rw [← ht] at rS9
  refine op_of h hN (c_SW_street h.1.1 rk 139 (by decide)) (fun r1 w9 hp => ?_)
  obtain ⟨rfl, w1, rh, rd, hw⟩ := hp
  have hB : dBeg t (dD0 w t) := dBeg_0 (by omega)
  have fo : ∀ o, o ≠ 3 → (o < t ∨ t + 12 ≤ o) → zI w1 o = zI w o := fun o h3 ho => (rd.2.1 o h3 (by omega) (by omega)).trans ((dAll_o (by omega) h3 ho 1001 _).trans (dD0_o h3 ho))
  have nz : nzW (dAll (zI w 2) n t 1001 (dD0 w t)).2.1 t := nzW_all (by omega) 1001 (nz_0 hB)
  have ok := rS_ok rd.1
  have cm := fun (hm : zMo w9) (h1 : zI w9 44 1 = nI n) (h45 : zI w9 45 = zI w 2) => c_Mod_street (w := w9) hm h1 n1 h45 n5 (by omega) hB 139 (by decide)
  generalize dAll (zI w 2) n t 1001 (dD0 w t) = D at rd hw nz ok cm ⊢
  obtain ⟨x1, x2, x3, x4, x5, x6, x7, x8, y1, y2, y3, y4, y5, y6, y7, y8, y9⟩ := h.1.1
  obtain ⟨C0, R0, H0, K0, U0, p1, p2⟩ := h.2.2.1
  have hm0 := h.1.2.1
  have rR : ∀ a b, a ≠ 3 → zR w1 a b = zR w a b := fun a b ha => rh.2.1 a b (fun z => ha z.1)
  by_cases fl : fltS D.1 = 0
  · obtain ⟨p, hp⟩ := okS_g ok fl
    rw [if_pos fl] at hw
    have i9 : zI w9 = lifeB (z2 (zI w1) 1 1 0) 21 := by rw [hw]; rfl
    have k9 : w9.1 = w.1 := by rw [hw]; exact rh.1
    have r9 : ∀ a b, zR w9 a b = z2 (z2 (zR w1) 0 6 (some t)) 3 1 (some s) a b := fun a b => by rw [hw]; rfl
    have rn : ∀ a b, a ≠ 0 → a ≠ 3 → zR w9 a b = zR w a b := fun a b h0 h3 => by rw [r9, z2g_n _ _ (by omega), z2g_n _ _ (by omega), rR a b h3]
    have io : ∀ o, o ≠ 1 → o ≠ 3 → (o < 21 ∨ 30 ≤ o) → (o < t ∨ t + 12 ≤ o) → zI w9 o = zI w o := fun o a1 a3 a2 a4 => by rw [i9, lifeB_lo (by omega), z2_ro _ _ _ a1, fo o a3 a4]
    have it : ∀ o, t ≤ o → o < t + 12 → zI w9 o = zI w1 o := fun o a1 a2 => by rw [i9, lifeB_lo (by omega), z2_ro _ _ _ (by omega)]
    refine ⟨_, rfl, k9, zS_P (fun r2 w2 hq => ?_) (cm ⟨by rw [k9]; exact hm0.1, fun q hq => ⟨by rw [k9]; exact (hm0.2 q hq).1, (rn 44 _ (by decide) (by decide)).trans (hm0.2 q hq).2⟩⟩ (by rw [io 44 (by decide) (by decide) (by omega) (by omega)]; exact n3) (by rw [io 45 (by decide) (by decide) (by omega) (by omega)]; exact n4))⟩
    obtain ⟨rfl, v, ⟨vk, vR, vI, -⟩, v1, v0, hv⟩ := hq
    rcases hv with ⟨k, hk, -⟩ | ⟨p1', j, hp1, hj, ⟨C, R, H, K, U, dn⟩, hw2⟩
    · rw [hp] at hk; cases hk
    have vo : ∀ o, (o < 44 ∨ o = 45 ∨ o = 47 ∨ 56 < o) → zI v o = zI w9 o := fun o ho => funext fun k => vI o k (mFy_n ho)
    have i2 : zI w2 = zr (laysF (zI v) 1 0) 67 (fillF (laysF (zI v) 1 0 67) 0 1344) := by rw [hw2]; rfl
    have k2 : w2.1 = w.1 := by rw [hw2]; exact vk.trans k9
    have z2R : zR w2 = zR w9 := by rw [hw2]; exact vR
    have jo : ∀ o, (o < 44 ∨ o = 45 ∨ 56 < o) → o ≠ 67 → zI w2 o = zI w9 o := fun o ho h67 => by rw [i2, zr_o _ _ h67, laysF_o (by omega), vo o (by omega)]
    have e1 : ∀ (x : Nat) (q : Nat × Nat), w.1[x]? = some q → w2.1[x]? = some q := fun x q z => by rw [k2]; exact z
    have rm : ∀ a b, a ≠ 0 → a ≠ 3 → zR w2 a b = zR w a b := fun a b h0 h3 => by rw [z2R]; exact rn a b h0 h3
    have rz : ∀ b, b ≠ 6 → zR w2 0 b = zR w 0 b := fun b hb => by rw [z2R, r9, z2g_n _ _ (by omega), z2g_n _ _ (by omega), rR 0 b (by decide)]
    have r06 : zR w2 0 6 = some t := by rw [z2R, r9, z2g_n _ _ (by omega), z2g_a]
    have r31 : zR w2 3 1 = some s := by rw [z2R, r9, z2g_a]
    have r30 : zR w2 3 0 = some 1 := by rw [z2R, r9, z2g_n _ _ (by omega), z2g_n _ _ (by omega), rh.2.1 3 0 (by omega)]; exact rS9.2.1
    have sr : SRn (zI v) t 1 C R H K U := SRn_DN dn hj nz (fun o ho => by rw [vo o (by omega), it o (by omega) (by omega)]; exact rd.2.1 o (by omega) (by omega) (by omega)) (by rw [vo (t + 6) (by omega), it (t + 6) (by omega) (by omega)]; exact rd.2.2.1) (by rw [vo (t + 9) (by omega), it (t + 9) (by omega) (by omega)]; exact rd.2.2.2.1)
    have sl := SRn_lay sr (fr := 1) (to := 0) (by decide) (by decide) (by decide) (by omega)
    refine ⟨rfl, by rw [k2, k9], t, ⟨⟨e1 _ _ x1, (rz 0 (by decide)).trans x2, (rz 1 (by decide)).trans x3, (rz 2 (by decide)).trans x4, (rz 3 (by decide)).trans x5, (rz 4 (by decide)).trans x6, (rz 5 (by decide)).trans x7, r06, e1 _ _ y1, e1 _ _ y2, (rm 1 0 (by decide) (by decide)).trans y3, zAir_ex y4 e1 (fun b => rm 16 b (by decide) (by decide)), zLf_ex y5 e1 (fun b => rm 21 b (by decide) (by decide)), e1 _ _ y6, e1 _ _ y7, zSt_ex rS9.2.2.2.2.2.2.1 e1 (fun a b h1 h2 => rm a b (by omega) (by omega)), t4⟩, ⟨e1 _ _ hm0.1, fun q hq => ⟨e1 _ _ (hm0.2 q hq).1, (rm 44 _ (by decide) (by decide)).trans (hm0.2 q hq).2⟩⟩, e1 _ _ h.1.2.2.1, ?_⟩, ?_, ⟨C, R, H, K, U, ?_, ?_⟩, fun k hk => ?_, ?_, ?_⟩
    · rw [show 36 - t = s from by omega]
      exact ⟨e1 _ _ rS9.1, r30, r31, e1 _ _ y1, (rm 1 0 (by decide) (by decide)).trans y3, e1 _ _ y2, zSt_ex y8 e1 (fun a b h1 h2 => rm a b (by omega) (by omega)), hs⟩
    · refine ⟨0, by decide, ?_, ?_, ?_, fun k hk => absurd hk (Nat.not_lt_zero k)⟩
      · rw [jo 1 (by omega) (by decide), i9, lifeB_lo (by omega), z2_at]; rfl
      · rw [i2, zr_o _ _ (by decide), laysF_o (by omega)]; exact v1
      · rw [jo 45 (by omega) (by decide), jo 2 (by omega) (by decide), io 45 (by decide) (by decide) (by omega) (by omega), io 2 (by decide) (by decide) (by omega) (by omega)]; exact n4
    · refine SRn_same sl (fun o h1 h2 _ _ => ?_) (fun o h1 h2 => ?_)
      · rw [i2, zr_o _ _ (by omega)]
      · rw [i2, zr_o _ _ (by omega)]
    · refine LR_life (f := z2 (zI w1) 1 1 0) (fun o h1 h2 => ?_) (fun i hi => ?_)
      · rw [jo o (by omega) (by omega), i9]
      · rw [i2, zr_h]; exact if_pos hi
    · obtain ⟨q1, q2, q3, q4⟩ := st_rest (v := w) (k := k) (f := fun o => if 46 ≤ o ∧ o ≤ 54 then zI v o else zI w o) (fun o i z => by
        by_cases hr : 46 ≤ o ∧ o ≤ 54
        · rw [if_pos hr]
          exact (vI o i z).trans (congrFun (io o (by omega) (by omega) (by omega) (by omega)) i)
        · rw [if_neg hr])
      obtain ⟨l1, l2, l3, l4⟩ := st_lay (f := zI v) (k := k)
      refine mk_keep (h.2.2.2.1 k hk) hk (by omega) e1 (fun a b z => rm a b (by omega) (by omega)) (fun m hm o h1 h2 => ?_) ?_ (fun i hi => ?_) (fun i hi => ?_) (fun o h1 h2 i hi => ?_) (fun o ho i hi => ?_) (fun i hi => ?_)
      · have m74 : 74 ≤ m := by
          rcases h.2.2.2.1 k hk with ⟨z, -⟩ | ⟨m', _, _, _, _, _, z, -, -, z4, -⟩
          · rw [hm] at z; cases z
          · rw [hm] at z; cases z; exact z4
        rw [jo o (by omega) (by omega), io o (by omega) (by omega) (by omega) (by omega)]
      · rw [jo 72 (by omega) (by decide), io 72 (by decide) (by decide) (by omega) (by omega)]
      · rw [jo 68 (by omega) (by decide), io 68 (by decide) (by decide) (by omega) (by omega)]
      · rw [i2, zr_o _ _ (by decide), l1 i hi]; exact (congrFun (if_pos (by decide)).symm _).trans (q1 i hi)
      · rw [i2, zr_o _ _ (by omega), l2 o h1 h2 i hi]; exact (congrFun (if_pos (by omega)).symm _).trans (q2 o h1 h2 i hi)
      · rw [i2, zr_o _ _ (by omega), l3 o ho i hi]; exact (congrFun (if_pos (by omega)).symm _).trans (q3 o ho i hi)
      · rw [i2, zr_o _ _ (by decide), l4 i hi]; exact (congrFun (if_pos (by decide)).symm _).trans (q4 i hi)
    · intro k j m m2 hk hj2 hkj z1 z2'
      rw [rm 30 k (by decide) (by decide)] at z1
      rw [rm 30 j (by decide) (by decide)] at z2'
      exact h.2.2.2.2.1 k j m m2 hk hj2 hkj z1 z2'
    · rw [k2]
      exact Nat.le_trans h.2.2.2.2.2 (by omega)
  · rw [if_neg fl] at hw
    have i9 : zI w9 = z2 (zI w1) 1 1 0 := by rw [hw]; rfl
    have k9 : w9.1 = w.1 := by rw [hw]; exact rh.1
    have r9 : zR w9 = zR w1 := by rw [hw]; rfl
    have rn : ∀ a b, a ≠ 3 → zR w9 a b = zR w a b := fun a b h3 => by rw [r9, rR a b h3]
    have io : ∀ o, o ≠ 1 → o ≠ 3 → (o < t ∨ t + 12 ≤ o) → zI w9 o = zI w o := fun o a1 a3 a4 => by rw [i9, z2_ro _ _ _ a1, fo o a3 a4]
    refine ⟨_, rfl, k9, zS_P (fun r2 w2 hq => ?_) (cm ⟨by rw [k9]; exact hm0.1, fun q hq => ⟨by rw [k9]; exact (hm0.2 q hq).1, (rn 44 _ (by decide)).trans (hm0.2 q hq).2⟩⟩ (by rw [io 44 (by decide) (by decide) (by omega)]; exact n3) (by rw [io 45 (by decide) (by decide) (by omega)]; exact n4))⟩
    obtain ⟨rfl, v, ⟨vk, vR, vI, -⟩, v1, v0, hv⟩ := hq
    rcases hv with ⟨k, hk, rfl⟩ | ⟨p1', j, hp1, hj, -, hw2⟩
    case inr => rw [hp1] at fl; exact absurd rfl fl
    have k2 : w2.1 = w.1 := vk.trans k9
    have jo : ∀ o, (o < 44 ∨ o = 45 ∨ 56 < o) → zI w2 o = zI w9 o := fun o ho => funext fun k => vI o k (mFy_n (by omega))
    have e1 : ∀ (x : Nat) (q : Nat × Nat), w.1[x]? = some q → w2.1[x]? = some q := fun x q z => by rw [k2]; exact z
    have rm : ∀ a b, a ≠ 3 → zR w2 a b = zR w a b := fun a b h3 => by rw [vR]; exact rn a b h3
    have rq : ∀ b, b ≠ 2 → b ≠ 8 → zR w2 3 b = zR w 3 b := fun b h1 h2 => by rw [vR, r9]; exact rh.2.1 3 b (by omega)
    refine ⟨rfl, vk, s, ⟨⟨e1 _ _ x1, (rm 0 0 (by decide)).trans x2, (rm 0 1 (by decide)).trans x3, (rm 0 2 (by decide)).trans x4, (rm 0 3 (by decide)).trans x5, (rm 0 4 (by decide)).trans x6, (rm 0 5 (by decide)).trans x7, (rm 0 6 (by decide)).trans x8, e1 _ _ y1, e1 _ _ y2, (rm 1 0 (by decide)).trans y3, zAir_ex y4 e1 (fun b => rm 16 b (by decide)), zLf_ex y5 e1 (fun b => rm 21 b (by decide)), e1 _ _ y6, e1 _ _ y7, zSt_ex y8 e1 (fun a b h1 h2 => rm a b (by omega)), y9⟩, ⟨e1 _ _ hm0.1, fun q hq => ⟨e1 _ _ (hm0.2 q hq).1, (rm 44 _ (by decide)).trans (hm0.2 q hq).2⟩⟩, e1 _ _ h.1.2.2.1, ?_⟩, ?_, ⟨C0, R0, H0, K0, U0, ?_, ?_⟩, fun k hk => ?_, ?_, ?_⟩
    · rw [← ht]
      exact ⟨e1 _ _ rS9.1, (rq 0 (by decide) (by decide)).trans rS9.2.1, (rq 1 (by decide) (by decide)).trans rS9.2.2.1, e1 _ _ y1, (rm 1 0 (by decide)).trans y3, e1 _ _ y2, zSt_ex rS9.2.2.2.2.2.2.1 e1 (fun a b h1 h2 => rm a b (by omega)), t4⟩
    · refine ⟨0, by decide, ?_, v1, ?_, fun k hk => absurd hk (Nat.not_lt_zero k)⟩
      · rw [jo 1 (by omega), i9, z2_at]; rfl
      · rw [jo 45 (by omega), jo 2 (by omega), io 45 (by decide) (by decide) (by omega), io 2 (by decide) (by decide) (by omega)]; exact n4
    · have iw : ∀ o i, 46 ≤ o → o ≤ 54 → ¬ mFy o i → zI w2 o i = zI w o i := fun o i h1 h2 z => (vI o i z).trans (congrFun (io o (by omega) (by omega) (by omega)) i)
      refine SRn_keep p1 (fun o h1 h2 _ _ _ => by rw [jo o (by omega), io o (by omega) (by omega) (by omega)]) (fun i hi => iw _ _ (by omega) (by omega) ?_) (fun o h1 h2 i hi => iw _ _ (by omega) (by omega) ?_) (fun o ho i hi => iw _ _ (by omega) (by omega) ?_) (fun i hi => iw _ _ (by omega) (by omega) ?_) <;> (unfold mFy mFx; omega)
    · refine LR_same p2 (by omega) (fun o h1 h2 => by rw [jo o (by omega), io o (by omega) (by omega) (by omega)]) (fun i _ => ?_)
      rw [jo 67 (by omega), io 67 (by decide) (by decide) (by omega)]
    · have iw : ∀ o i, 46 ≤ o → o ≤ 54 → ¬ mFy o i → zI w2 o i = zI w o i := fun o i h1 h2 z => (vI o i z).trans (congrFun (io o (by omega) (by omega) (by omega)) i)
      refine mk_keep (h.2.2.2.1 k hk) hk (by omega) e1 (fun a b z => rm a b (by omega)) (fun m hm o h1 h2 => ?_) ?_ (fun i hi => ?_) (fun i hi => iw _ _ (by omega) (by omega) ?_) (fun o h1 h2 i hi => iw _ _ (by omega) (by omega) ?_) (fun o ho i hi => iw _ _ (by omega) (by omega) ?_) (fun i hi => iw _ _ (by omega) (by omega) ?_)
      · have m74 : 74 ≤ m := by
          rcases h.2.2.2.1 k hk with ⟨z, -⟩ | ⟨m', _, _, _, _, _, z, -, -, z4, -⟩
          · rw [hm] at z; cases z
          · rw [hm] at z; cases z; exact z4
        rw [jo o (by omega), io o (by omega) (by omega) (by omega)]
      · rw [jo 72 (by omega), io 72 (by decide) (by decide) (by omega)]
      · rw [jo 68 (by omega), io 68 (by decide) (by decide) (by omega)]
      all_goals (unfold mFy mFx; omega)
    · intro k j m m2 hk hj2 hkj z1 z2'
      rw [rm 30 k (by decide)] at z1
      rw [rm 30 j (by decide)] at z2'
      exact h.2.2.2.2.1 k j m m2 hk hj2 hkj z1 z2'
    · rw [k2]
      exact Nat.le_trans h.2.2.2.2.2 (by omega)
