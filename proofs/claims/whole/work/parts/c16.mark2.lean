/-! MARK: gone back to; the call -/
theorem mk_back {w wa wb : zW} {s N k m : Nat} (h : Iv w s N) (hk : k < 4) (hm : zR w 30 k = some m) (cS : cpS w s (m + 1) wa) (cL : cpL wa 21 (m + 13) wb) : Iv (zuI wb (mkBack (z2 (zI wb) 44 0 0) k)) s (N + 1000) := by
  have hs := h.s
  have h74w := h.len
  obtain ⟨h74, hS, h72, C, R, H, K, U, t1, t2⟩ := h.m74 hk hm
  obtain ⟨ka, ra, fa⟩ := cpS_f cS
  obtain ⟨kb, rb, fb⟩ := cpL_f cL
  have fo : ∀ o, (o < s ∨ s + 12 ≤ o) → (o < 21 ∨ 30 ≤ o) → zI wb o = zI w o := fun o h1 h2 => by rw [fb o (by omega), fa o h1]
  have kk : wb.1 = w.1 := kb.trans ka
  have rr : zR wb = zR w := rb.trans ra
  have u1 : SRn (zI wb) s (2 + k) C R H K U := SRn_same (SRn_cpS t1 cS (by omega)) (fun o h1 h2 _ _ => fb o (by omega)) (fun o h1 h2 => fb o (by omega))
  have t2' : LR (zI wa) (m + 13) (fun j => zI w 68 (1344 * k + j)) H N := LR_same t2 (Nat.le_refl _) (fun o h1 h2 => fa o (by omega)) (fun _ _ => rfl)
  have go : ∀ o, o ≠ 44 → o ≠ 72 → z2 (z2 (zI wb) 44 0 0) 72 k 1 o = zI wb o := fun o a b => by rw [z2_ro _ _ _ b, z2_ro _ _ _ a]
  have u2 : SRn (laysF (z2 (z2 (zI wb) 44 0 0) 72 k 1) (2 + k) 0) s 0 C R H K U := SRn_lay (SRn_same u1 (fun o h1 h2 _ _ => go o (by omega) (by omega)) (fun o h1 h2 => go o (by omega) (by omega))) (by omega) (by decide) (by omega) (by omega)
  have lo : ∀ o, o < 46 ∨ o = 47 ∨ 54 < o → o ≠ 44 → o ≠ 72 → o ≠ 67 → mkBack (z2 (zI wb) 44 0 0) k o = zI wb o := fun o h1 h2 h3 h4 => by
    unfold mkBack
    rw [zr_o _ _ h4, laysF_o h1, go o h2 h3]
  have lp : ∀ o, 46 ≤ o → o ≤ 54 → mkBack (z2 (zI wb) 44 0 0) k o = laysF (z2 (z2 (zI wb) 44 0 0) 72 k 1) (2 + k) 0 o := fun o h1 h2 => by
    unfold mkBack
    rw [zr_o _ _ (by omega)]
  have e44 : mkBack (z2 (zI wb) 44 0 0) k 44 1 = zI wb 44 1 := by
    unfold mkBack
    rw [zr_o _ _ (by decide), laysF_o (by omega), z2_ro _ _ _ (by decide), z2_nt _ _ (by omega)]
  have e72 : ∀ j, mkBack (z2 (zI wb) 44 0 0) k 72 j = if j = k then 1 else zI wb 72 j := fun j => by
    unfold mkBack
    rw [zr_o _ _ (by decide), laysF_o (by omega), z2_row, z2_ro _ _ _ (by decide)]
  have e67 : ∀ j, j < 1344 → mkBack (z2 (zI wb) 44 0 0) k 67 j = zI wb 68 (1344 * k + j) := fun j hj => by
    unfold mkBack
    rw [zr_h, fb_put_in (by omega) (by omega), Nat.sub_zero, laysF_o (o := 68) (by omega), go 68 (by decide) (by decide)]
  have gw : zI (zuI wb (mkBack (z2 (zI wb) 44 0 0) k)) = mkBack (z2 (zI wb) 44 0 0) k := rfl
  generalize hW : zuI wb (mkBack (z2 (zI wb) 44 0 0) k) = W2 at gw ⊢
  have k2 : W2.1 = w.1 := by rw [← hW]; exact kk
  have r2 : zR W2 = zR w := by rw [← hW]; exact rr
  have e1 : ∀ (x : Nat) (q : Nat × Nat), w.1[x]? = some q → W2.1[x]? = some q := fun x q z => by rw [k2]; exact z
  have no : ∀ o, (o < 44 ∨ o = 45 ∨ o = 47 ∨ 54 < o) → o ≠ 72 → o ≠ 67 → (o < s ∨ s + 12 ≤ o) → (o < 21 ∨ 30 ≤ o) → zI W2 o = zI w o := fun o h1 h2 h3 h4 h5 => by rw [gw, lo o (by omega) (by omega) h2 h3, fo o h4 h5]
  obtain ⟨n, q1, q2, q3, q4, q5⟩ := h.2.1
  obtain ⟨v1, v2, v3, v4, v5, v6, v7, v8⟩ := h.1.2.2.2
  refine ⟨⟨zX_ex h.1.1 e1 (fun a _ b => by rw [r2]), ⟨e1 _ _ h.1.2.1.1, fun q hq => ⟨e1 _ _ (h.1.2.1.2 q hq).1, by rw [r2]; exact (h.1.2.1.2 q hq).2⟩⟩, e1 _ _ h.1.2.2.1, e1 _ _ v1, by rw [r2]; exact v2, by rw [r2]; exact v3, e1 _ _ v4, by rw [r2]; exact v5, e1 _ _ v6, zSt_ex v7 e1 (fun a b _ _ => by rw [r2]), v8⟩, ⟨n, q1, ?_, ?_, ?_, fun i hi => ?_⟩, ⟨C, R, H, K, U, ?_, ?_⟩, fun j hj => ?_, ?_, ?_⟩
  · rw [no 1 (by omega) (by decide) (by decide) (by omega) (by omega)]; exact q2
  · rw [gw, e44, fo 44 (by omega) (by omega)]; exact q3
  · rw [no 45 (by omega) (by decide) (by decide) (by omega) (by omega), no 2 (by omega) (by decide) (by decide) (by omega) (by omega)]; exact q4
  · rw [no 2 (by omega) (by decide) (by decide) (by omega) (by omega)]; exact q5 i hi
  · refine SRn_same u2 (fun o h1 h2 _ _ => ?_) (fun o h1 h2 => ?_)
    · rw [gw, lo o (by omega) (by omega) (by omega) (by omega), laysF_o (by omega), go o (by omega) (by omega)]
    · rw [gw, lp o h1 h2]
  · have u3 : LR (zI wb) 21 (fun j => zI w 68 (1344 * k + j)) H (N + 1000) := LR_cpL t2' (by omega) cL (fun _ _ => rfl)
    refine LR_same u3 (Nat.le_refl _) (fun o h1 h2 => ?_) (fun i hi => ?_)
    · rw [gw, lo o (by omega) (by omega) (by omega) (by omega)]
    · rw [gw, e67 i hi, fo 68 (by omega) (by omega)]
  · obtain ⟨l1, l2, l3, l4⟩ := lay_rest (f := z2 (z2 (zI wb) 44 0 0) 72 k 1) (fr := 2 + k) (to := 0) (k := j) (by omega)
    refine mk_keep (h.2.2.2.1 j hj) hj (by omega) e1 (fun a b _ => by rw [r2]) (fun mj hmj o h1 h2 => ?_) ?_ (fun i hi => ?_) (fun i hi => ?_) (fun o h1 h2 i hi => ?_) (fun o ho i hi => ?_) (fun i hi => ?_)
    · obtain ⟨g1, -⟩ := h.m74 hj hmj
      exact no o (by omega) (by omega) (by omega) (by omega) (by omega)
    · rw [gw, e72]
      by_cases e : j = k
      · rw [if_pos e, e]
        exact ⟨fun z => absurd z (by decide), fun z => absurd z h72⟩
      · rw [if_neg e, fo 72 (by omega) (by omega)]
    · rw [no 68 (by omega) (by decide) (by decide) (by omega) (by omega)]
    · rw [gw, lp 46 (by decide) (by decide), l1 i hi, go 46 (by decide) (by decide), fo 46 (by omega) (by omega)]
    · rw [gw, lp o (by omega) (by omega), l2 o h1 h2 i hi, go o (by omega) (by omega), fo o (by omega) (by omega)]
    · rw [gw, lp o (by omega) (by omega), l3 o ho i hi, go o (by omega) (by omega), fo o (by omega) (by omega)]
    · rw [gw, lp 54 (by decide) (by decide), l4 i hi, go 54 (by decide) (by decide), fo 54 (by omega) (by omega)]
  · intro i j a b hi hj hij za zb
    rw [r2] at za zb
    exact h.2.2.2.2.1 i j a b hi hj hij za zb
  · rw [k2]
    have := h.2.2.2.2.2
    omega
theorem SRn_lw {w : zW} {s r C R H K U : Nat} (h : SRn (zI w) s r C R H K U) : lwS w s := by
  obtain ⟨a, a1, a2⟩ := slL_sz h.2.2.2.2.1
  obtain ⟨b, b1, b2⟩ := slL_sz h.2.2.2.2.2.1
  exact ⟨a, b, a1, b1, a2, b2⟩
/-- the class' world behind a mark, as far as the model's call needs it -/
theorem op_mark {w : zW} {s N : Nat} (h : Iv w s N) (hN : N ≤ 511000) (x t : Int32) : Op w N m_SW_mark m_Mod_mark [(1, .int x), (2, .int t)] := by
  have hs := h.s
  have h74w := h.len
  have hlen := h.2.2.2.2.2
  obtain ⟨C, R, H, K, U, t1, t2⟩ := h.2.2.1
  obtain ⟨V, F, G, hi, hm, hst, hF⟩ := SRn_fn t1
  have cm : ∀ w1 : zW, zMo w1 → (∀ o, 46 ≤ o → o ≤ 54 → zI w1 o = zI w o) → zS 0 0 139 m_Mod_mark (fun rv w2 => rv = some (.int (mkV (zI w1) x t)) ∧ w2 = zuI w1 (mkF (zI w1) x t)) 0 [(0, .ref 44), (1, .int x), (2, .int t)] [] w1 := fun w1 a b => c_Mod_mark a (zMi_o hm b) x t 139 (by decide)
  refine zS_P (fun r1 w1 hp => ?_) (c_SW_mark h.1.1 (fun k m hk hz => (h.m74 hk hz).2.1) (SRn_lw t1) (fun k m hk hz => by
    obtain ⟨-, -, -, C2, R2, H2, K2, U2, z, -⟩ := h.m74 hk hz
    exact SRn_lw z) (by omega) (by omega) x t 139 (by decide))
  obtain ⟨p1, p2⟩ := hp
  have fin : w1 = w → r1 = some (.int 0) → mkV (zI w) x t = 0 → mkF (zI w) x t = z2 (zI w) 44 0 0 → ∃ v : Int32, r1 = some (.int v) ∧ (w.1.length ≤ w1.1.length ∧ w1.1.length ≤ 900000 ∧ w1.1[44]? = some (8, 43)) ∧ zS 0 0 139 m_Mod_mark (fun r2 w2 => r2 = some (.int v) ∧ w2.1 = w1.1 ∧ ∃ s, Iv w2 s (N + 1000)) 0 [(0, .ref 44), (1, .int x), (2, .int t)] [] w1 := fun ew er ev ef => by
    rw [ew]
    refine ⟨0, er, ⟨Nat.le_refl _, by omega, h.1.2.1.1⟩, zS_P (fun r2 w2 hq => ?_) (cm w h.1.2.1 (fun _ _ _ => rfl))⟩
    obtain ⟨e1, e2⟩ := hq
    rw [ev] at e1
    rw [ef] at e2
    exact ⟨e1, by rw [e2]; rfl, s, by rw [e2]; exact z44_Iv h⟩
  by_cases z : x < 0 ∨ 4 ≤ x
  · obtain ⟨e1, e2⟩ := p1 z
    exact fin e2 e1 (if_pos (mk_out z)) (if_pos (mk_out z))
  · obtain ⟨k, hk, ex⟩ := nI_k4 z
    obtain ⟨q1, q2, q3⟩ := p2 k hk ex
    have kin := mk_in hk ex
    have kc : x.toNatClampNeg = k := by rw [ex]; exact nI_clamp (by omega)
    by_cases t0 : t = 0
    · obtain ⟨er, m, w0, hw0, wa, cS, cL⟩ := q3 t0
      obtain ⟨ka, ra, fa⟩ := cpS_f cS
      obtain ⟨kb, rb, fb⟩ := cpL_f cL
      have ev : ∀ f, mkV f x t = 1 := fun f => (if_neg kin).trans (if_pos t0)
      have ef : ∀ f, mkF f x t = mkLay (z2 f 44 0 0) k := fun f => by
        unfold mkF
        rw [if_neg kin, if_pos t0, kc]
      have fin2 : w.1.length ≤ w0.1.length → w0.1.length ≤ w.1.length + 22 → (∀ (x : Nat) (q : Nat × Nat), w.1[x]? = some q → w0.1[x]? = some q) → (∀ o, o < w.1.length → zI w0 o = zI w o) → (∀ a b, a < w.1.length → ¬ (a = 30 ∧ b = k) → zR w0 a b = zR w a b) → zR w0 30 k = some m → mkS w0 m → 74 ≤ m → (∀ j mj, j < 4 → j ≠ k → zR w 30 j = some mj → mj + 22 ≤ m ∨ m + 22 ≤ mj) → ∃ v : Int32, r1 = some (.int v) ∧ (w.1.length ≤ w1.1.length ∧ w1.1.length ≤ 900000 ∧ w1.1[44]? = some (8, 43)) ∧ zS 0 0 139 m_Mod_mark (fun r2 w2 => r2 = some (.int v) ∧ w2.1 = w1.1 ∧ ∃ s, Iv w2 s (N + 1000)) 0 [(0, .ref 44), (1, .int x), (2, .int t)] [] w1 := fun l1 l2 e1 eI eR hm0 hS h74 hd => by
        have kk : w1.1 = w0.1 := kb.trans ka
        have rr : zR w1 = zR w0 := rb.trans ra
        refine ⟨1, er, ⟨by rw [kk]; exact l1, by rw [kk]; omega, by rw [kk]; exact e1 _ _ h.1.2.1.1⟩, zS_P (fun r2 w2 hq => ?_) (cm w1 ⟨by rw [kk]; exact e1 _ _ h.1.2.1.1, fun q hq => ⟨by rw [kk]; exact e1 _ _ (h.1.2.1.2 q hq).1, by rw [rr, eR 44 _ (by omega) (by omega)]; exact (h.1.2.1.2 q hq).2⟩⟩ (fun o h1 h2 => by rw [fb o (by omega), fa o (by omega), eI o (by omega)]))⟩
        obtain ⟨e1', e2'⟩ := hq
        rw [ev] at e1'
        rw [ef] at e2'
        exact ⟨e1', by rw [e2']; rfl, s, by rw [e2']; exact mk_lay h hk l1 l2 e1 eI eR hm0 hS h74 hd cS cL⟩
      rcases hw0 with ⟨hz, rfl⟩ | ⟨hz, rfl, w', mp, rfl⟩
      · obtain ⟨h74, hS, -⟩ := h.m74 hk hz
        exact fin2 (Nat.le_refl _) (by omega) (fun _ _ z => z) (fun _ _ => rfl) (fun _ _ _ _ => rfl) hz hS h74 (fun j mj hj hjk hmj => h.2.2.2.2.1 j k mj m hj hk hjk hmj hz)
      · obtain ⟨m1, m2, m3, m4, m5, m6, m7⟩ := mp
        have nw : ∀ (x : Nat) (q : Nat × Nat), w.1[x]? = some q → w'.1[x]? = some q := fun x q z => m2 x q (by
          show (w.1 ++ [(2, 2)])[x]? = some q
          rw [List.getElem?_append_left (List.getElem?_eq_some_iff.mp z).1]
          exact z)
        have nI' : ∀ o, o < w.1.length → zI w' o = zI w o := fun o ho => (m3 o ho).1.trans (if_neg (by omega))
        have nR : ∀ a b, a < w.1.length → zR w' a b = zR w a b := fun a b ha => ((m3 a ha).2.2 b).trans (congrFun (if_neg (by omega)) b)
        have s30 : ∀ a b, ¬ (a = 30 ∧ b = k) → zR (zsR w' 30 k (some w.1.length)) a b = zR w' a b := fun a b hab => z2g_n _ _ hab
        refine fin2 (by show w.1.length ≤ w'.1.length; omega) (by show w'.1.length ≤ _; omega) nw nI' (fun a b ha hab => (s30 a b hab).trans (nR a b ha)) (z2g_a _ _ _ _) ⟨by omega, by show _ ≤ w'.1.length; omega, ?_, (s30 _ _ (by omega)).trans m4, (s30 _ _ (by omega)).trans m5, zSt_ex m6 (fun _ _ z => z) (fun a b h1 h2 => s30 a b (by omega)), zLf_ex m7 (fun _ _ z => z) (fun b => s30 _ b (by omega))⟩ h74w (fun j mj hj hjk hmj => Or.inl (h.m74 hj hmj).2.1.2.1)
        show w'.1[w.1.length]? = some (2, 2)
        refine m2 _ _ ?_
        show (w.1 ++ [(2, 2)])[w.1.length]? = some (2, 2)
        rw [List.getElem?_append_right (Nat.le_refl _), Nat.sub_self]
        rfl
    · cases hz : zR w 30 k with
      | none =>
        obtain ⟨e1, e2⟩ := q1 t0 hz
        have h72 : zI w 72 k = 0 := by
          rcases h.2.2.2.1 k hk with ⟨-, y⟩ | ⟨m', _, _, _, _, _, y, -⟩
          · exact y
          · rw [hz] at y; cases y
        refine fin e2 e1 ?_ ?_
        · unfold mkV
          rw [if_neg kin, if_neg t0, kc, if_pos h72]
        · unfold mkF
          rw [if_neg kin, if_neg t0, kc, if_pos h72]
      | some m =>
        obtain ⟨er, wa, cS, cL⟩ := q2 t0 m hz
        obtain ⟨ka, ra, fa⟩ := cpS_f cS
        obtain ⟨kb, rb, fb⟩ := cpL_f cL
        obtain ⟨h74, hS, h72, -⟩ := h.m74 hk hz
        have kk : w1.1 = w.1 := kb.trans ka
        have rr : zR w1 = zR w := rb.trans ra
        have f72 : zI w1 72 = zI w 72 := by rw [fb 72 (by omega), fa 72 (by omega)]
        refine ⟨1, er, ⟨by rw [kk]; exact Nat.le_refl _, by rw [kk]; omega, by rw [kk]; exact h.1.2.1.1⟩, zS_P (fun r2 w2 hq => ?_) (cm w1 ⟨by rw [kk]; exact h.1.2.1.1, fun q hq => ⟨by rw [kk]; exact (h.1.2.1.2 q hq).1, by rw [rr]; exact (h.1.2.1.2 q hq).2⟩⟩ (fun o h1 h2 => by rw [fb o (by omega), fa o (by omega)]))⟩
        obtain ⟨e1', e2'⟩ := hq
        have ev : mkV (zI w1) x t = 1 := by
          unfold mkV
          rw [if_neg kin, if_neg t0, kc, if_neg (by rw [f72]; exact h72)]
        have ef : mkF (zI w1) x t = mkBack (z2 (zI w1) 44 0 0) k := by
          unfold mkF
          rw [if_neg kin, if_neg t0, kc, if_neg (by rw [f72]; exact h72)]
        rw [ev] at e1'
        rw [ef] at e2'
        exact ⟨e1', by rw [e2']; rfl, s, by rw [e2']; exact mk_back h hk hz cS cL⟩
