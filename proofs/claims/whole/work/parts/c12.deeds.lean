/-! ASKS THAT LEAVE THE OBJECT AS IT IS; DEEDS -/
theorem z2u {w : zW} {o k a : Nat} {x : Int32} (h : a ≠ o) : zI (zuI w (z2 (zI w) o k x)) a = zI w a := z2_ro _ _ _ h
theorem hOK_n {H j : Nat} (hH : H ≤ 8) (hj : j < H) : hOK H (nI j) = true := by
  unfold hOK
  have tj : (nI j).toInt = j := by
    rcases (show j = 0 ∨ j = 1 ∨ j = 2 ∨ j = 3 ∨ j = 4 ∨ j = 5 ∨ j = 6 ∨ j = 7 by omega) with rfl | rfl | rfl | rfl | rfl | rfl | rfl | rfl <;> decide
  rw [tj]
  exact decide_eq_true ⟨by omega, by omega⟩
theorem op_house {w : zW} {s N : Nat} (h : Iv w s N) (hN : N ≤ 511000) (b x : Int32) : Op w N m_SW_house m_Mod_house [(1, .int b), (2, .int x)] := by
  obtain ⟨C, R, H, K, U, t1, t2⟩ := h.2.2.1
  obtain ⟨V, F, G, hi, hm, hst, hF⟩ := SRn_fn t1
  have hH := t1.1.2.2.1
  refine op_of h hN (c_SW_house h.1.1 hi.2.2.1 hH b x 139 (by decide)) (fun r1 w1 hp => ?_)
  obtain ⟨rfl, hw⟩ := hp
  rw [hw]
  refine ⟨_, rfl, rfl, zS_P (fun r2 w2 hq => ?_) (c_Mod_house h.1.2.1 hm b x 139 (by decide))⟩
  obtain ⟨g, rfl, rfl, hg⟩ := hq
  refine ⟨?_, rfl, s, ask_self h hg⟩
  by_cases z : hOK H b = true
  · rw [if_pos z, if_pos z]
    obtain ⟨j, hj, rfl⟩ := hOK_of hH z
    rw [nI_clamp (show j < 2 ^ 31 by omega), an_house t1 t2 hj x]
  · rw [if_neg z, if_neg z]
theorem op_pair {w : zW} {s N : Nat} (h : Iv w s N) (hN : N ≤ 511000) (a b x : Int32) : Op w N m_SW_pair m_Mod_pair [(1, .int a), (2, .int b), (3, .int x)] := by
  obtain ⟨C, R, H, K, U, t1, t2⟩ := h.2.2.1
  obtain ⟨V, F, G, hi, hm, hst, hF⟩ := SRn_fn t1
  have hH := t1.1.2.2.1
  refine op_of h hN (c_SW_pair h.1.1 hi a b x 139 (by decide)) (fun r1 w1 hp => ?_)
  obtain ⟨rfl, hw⟩ := hp
  rw [hw]
  refine ⟨_, rfl, rfl, zS_P (fun r2 w2 hq => ?_) (c_Mod_pair h.1.2.1 hm a b x 139 (by decide))⟩
  obtain ⟨g, rfl, rfl, hg⟩ := hq
  refine ⟨?_, rfl, s, ask_self h hg⟩
  rw [an_pair hH t2 a b x]
theorem op_count {w : zW} {s N : Nat} (h : Iv w s N) (hN : N ≤ 511000) (x : Int32) : Op w N m_SW_count m_Mod_count [(1, .int x)] := by
  obtain ⟨C, R, H, K, U, t1, t2⟩ := h.2.2.1
  obtain ⟨V, F, G, hi, hm, hst, hF⟩ := SRn_fn t1
  refine op_of h hN (c_SW_count h.1.1 x 139 (by decide)) (fun r1 w1 hp => ?_)
  obtain ⟨rfl, hw⟩ := hp
  rw [hw]
  refine ⟨_, rfl, rfl, zS_P (fun r2 w2 hq => ?_) (c_Mod_count h.1.2.1 hm x 139 (by decide))⟩
  obtain ⟨g, rfl, rfl, hg⟩ := hq
  refine ⟨?_, rfl, s, ask_self h hg⟩
  obtain ⟨n, -, n2, n3, -⟩ := h.2.1
  rw [an_count t1 t2 (by omega) (n2.trans n3.symm) x]
theorem so_any {g : Nat → Int32} {p : Nat} {v : Nat → Nat} {N : Nat} (hN : N ≤ 600000) (h0 : fb_sm v 8 ≤ 8 * N) (hv : ∀ k, k < 8 → v k ≤ N) (h1 : rsum (sootA g p (-1)) 8 = nI (fb_sm v 8)) (h2 : ∀ j, j < 8 → rsum (sootA g p (nI j)) 8 = nI (v j)) (b : Int32) : ∃ n : Nat, n < 2 ^ 31 ∧ rsum (sootA g p b) 8 = nI n := by
  by_cases z : b < 0
  · refine ⟨fb_sm v 8, by omega, ?_⟩
    rw [← h1]
    refine rsum_cg 8 (fun k _ => ?_)
    unfold sootA
    rw [if_pos z, if_pos (show (-1 : Int32) < 0 by decide)]
  · by_cases e : ∃ j, j < 8 ∧ nI j = b
    · obtain ⟨j, hj, rfl⟩ := e
      have := hv j hj
      exact ⟨v j, by omega, h2 j hj⟩
    · refine ⟨0, by decide, ?_⟩
      have q : rsum (sootA g p b) 8 = rsum (fun _ => 0) 8 := rsum_cg 8 (fun k hk => by
        unfold sootA
        rw [if_neg z, if_neg (fun y => e ⟨k, hk, y⟩)])
      rw [q]
      decide
theorem op_share {w : zW} {s N : Nat} (h : Iv w s N) (hN : N ≤ 511000) (x y b v : Int32) : Op w N m_SW_share m_Mod_share [(1, .int x), (2, .int y), (3, .int b), (4, .int v)] := by
  obtain ⟨C, R, H, K, U, t1, t2⟩ := h.2.2.1
  obtain ⟨V, F, G, hi, hm, hst, hF⟩ := SRn_fn t1
  have hH := t1.1.2.2.1
  refine op_of h hN (c_SW_share h.1.1 hi (fun p hp => by
    obtain ⟨u, u1, u2, u3, u4, u5⟩ := LR_soot t2 (by omega) hp
    exact ⟨fb_sm u 8, by omega, u2⟩) (fun q hq => by
    obtain ⟨u, u1, u2, -⟩ := t2.2.2.2.2.2.2.2.2 (q / 144) (q % 144) (by omega) (by omega)
    rw [Nat.div_add_mod] at u2
    exact ⟨u, by omega, u2⟩) x y b v 139 (by decide)) (fun r1 w1 hp => ?_)
  obtain ⟨rfl, hw⟩ := hp
  rw [hw]
  refine ⟨_, rfl, rfl, zS_P (fun r2 w2 hq => ?_) (c_Mod_share h.1.2.1 hm (fun p c hp => by
    obtain ⟨u, u1, u2, u3, u4, u5⟩ := LR_soot t2 (by omega) hp
    exact so_any (by omega) u4 (fun k hk => (u1 k hk).1) u3 u5 c) x y b v 139 (by decide))⟩
  obtain ⟨g, rfl, rfl, hg⟩ := hq
  refine ⟨?_, rfl, s, ask_self h hg⟩
  rw [an_share t1.1.1.2 t1.1.2.1.2 hH t2 (by omega) x y b v]
theorem deed_Iv {w : zW} {s N : Nat} {f g : Nat → Nat → Int32} {r : Nat → Int32} (h : Iv w s N) (hf : ∀ o, (o < 21 ∨ 29 < o) → f o = zI w o) (hg : zFs (zuI w f) g r) (hL : ∀ C R H K U : Nat, SRn (zI w) s 0 C R H K U → LR (zI w) 21 (zI w 67) H N → LR f 21 r H N) : Iv (zuI (zuI w f) g) s (N + 1000) := by
  have hs := h.s
  refine Iv_life h (by omega) rfl rfl (fun o a1 a2 a3 a4 a5 a6 a7 a8 a9 => ?_) ?_ (fun C R H K U a b => ?_)
  · exact (hg.1 o (by omega) a5 (by omega) a8 a9).trans (hf o (by omega))
  · exact (hg.2.2.1 1 (by decide)).trans (congrFun (hf 44 (by omega)) 1)
  · have e : g 67 = r := hg.2.1
    refine LR_same (hL C R H K U a b) (by omega) (fun o h1 h2 => hg.1 o (by omega) (by omega) (by omega) (by omega) (by omega)) (fun j _ => ?_)
    show g 67 j = r j
    rw [e]
theorem bit_two {x : Int32} {j : Nat} (hj : j < 32) : (if (x >>> (nI j &&& 31)) &&& 1 = 1 then 1 else 0 : Int32) = (if (x >>> (nI j &&& 31)) &&& 1 = 0 then 0 else 1) := by
  rw [sh_and hj]
  cases tb x j <;> decide
theorem op_light {w : zW} {s N : Nat} (h : Iv w s N) (hN : N ≤ 511000) (b t : Int32) : Op w N m_SW_light m_Mod_light [(1, .int b), (2, .int t)] := by
  obtain ⟨C, R, H, K, U, t1, t2⟩ := h.2.2.1
  obtain ⟨V, F, G, hi, hm, hst, hF⟩ := SRn_fn t1
  have hH := t1.1.2.2.1
  have k3 : zI w 67 136 = zI w 21 10 := t2.2.2.1.1
  refine op_of h hN (c_SW_light h.1.1 hi.2.2.1 hH b t 139 (by decide)) (fun r1 w1 hp => ?_)
  obtain ⟨rfl, hw⟩ := hp
  by_cases z : hOK H b = true
  · obtain ⟨j, hj, rfl⟩ := hOK_of hH z
    have bt := bit_two (x := zI w 21 10) (j := j) (by omega)
    rw [if_pos z] at hw
    rw [if_pos z]
    by_cases y : (if (zI w 21 10 >>> (nI j &&& 31)) &&& 1 = 0 then 0 else 1) = t
    · rw [if_pos y] at hw
      rw [if_pos y, hw]
      have cm := c_Mod_light h.1.2.1 hm (nI j) t 139 (by decide)
      rw [k3, bt, if_pos z, if_pos y, if_pos z, if_pos y] at cm
      refine ⟨_, rfl, rfl, zS_P (fun r2 w2 hq => ?_) cm⟩
      obtain ⟨g, rfl, rfl, hg⟩ := hq
      exact ⟨rfl, rfl, s, deed_Iv (f := zI w) h (fun _ _ => rfl) hg (fun _ _ _ _ _ _ l => l)⟩
    · rw [if_neg y] at hw
      rw [if_neg y, hw]
      have e67 : zI (zuI w (z2 (zI w) 21 10 (zI w 21 10 ^^^ (1 <<< (nI j &&& 31))))) 67 = zI w 67 := z2u (by decide)
      have cm := c_Mod_light (w := zuI w (z2 (zI w) 21 10 (zI w 21 10 ^^^ (1 <<< (nI j &&& 31))))) h.1.2.1 (zMi_o hm (fun o a _ => z2_ro _ _ _ (by omega))) (nI j) t 139 (by decide)
      rw [e67, k3, bt, if_pos z, if_neg y, if_pos z, if_neg y] at cm
      refine ⟨_, rfl, rfl, zS_P (fun r2 w2 hq => ?_) cm⟩
      obtain ⟨g, rfl, rfl, hg⟩ := hq
      exact ⟨rfl, rfl, s, deed_Iv h (fun o ho => z2_ro _ _ _ (by omega)) hg (fun _ _ _ _ _ _ l => LR_lit l (fun i hi => z2_nt _ _ (by omega)) (z2_at _ _ _ _) (fun i h1 h2 => z2_ro _ _ _ (by omega)))⟩
  · rw [if_neg z] at hw
    rw [if_neg z, hw]
    have cm := c_Mod_light h.1.2.1 hm b t 139 (by decide)
    rw [if_neg z, if_neg z] at cm
    refine ⟨_, rfl, rfl, zS_P (fun r2 w2 hq => ?_) cm⟩
    obtain ⟨g, rfl, rfl, hg⟩ := hq
    exact ⟨rfl, rfl, s, deed_Iv (f := zI w) h (fun _ _ => rfl) hg (fun _ _ _ _ _ _ l => l)⟩
theorem op_shut {w : zW} {s N : Nat} (h : Iv w s N) (hN : N ≤ 511000) (b t : Int32) : Op w N m_SW_shut m_Mod_shut [(1, .int b), (2, .int t)] := by
  obtain ⟨C, R, H, K, U, t1, t2⟩ := h.2.2.1
  obtain ⟨V, F, G, hi, hm, hst, hF⟩ := SRn_fn t1
  have hH := t1.1.2.2.1
  have k3 : zI w 67 137 = zI w 21 11 := t2.2.2.1.2
  refine op_of h hN (c_SW_shut h.1.1 hi.2.2.1 hH b t 139 (by decide)) (fun r1 w1 hp => ?_)
  obtain ⟨rfl, hw⟩ := hp
  by_cases z : hOK H b = true
  · obtain ⟨j, hj, rfl⟩ := hOK_of hH z
    have bt := bit_two (x := zI w 21 11) (j := j) (by omega)
    rw [if_pos z] at hw
    rw [if_pos z]
    by_cases y : (if (zI w 21 11 >>> (nI j &&& 31)) &&& 1 = 0 then 0 else 1) = t
    · rw [if_pos y] at hw
      rw [if_pos y, hw]
      have cm := c_Mod_shut h.1.2.1 hm (nI j) t 139 (by decide)
      rw [k3, bt, if_pos z, if_pos y, if_pos z, if_pos y] at cm
      refine ⟨_, rfl, rfl, zS_P (fun r2 w2 hq => ?_) cm⟩
      obtain ⟨g, rfl, rfl, hg⟩ := hq
      exact ⟨rfl, rfl, s, deed_Iv (f := zI w) h (fun _ _ => rfl) hg (fun _ _ _ _ _ _ l => l)⟩
    · rw [if_neg y] at hw
      rw [if_neg y, hw]
      have e67 : zI (zuI w (z2 (zI w) 21 11 (zI w 21 11 ^^^ (1 <<< (nI j &&& 31))))) 67 = zI w 67 := z2u (by decide)
      have cm := c_Mod_shut (w := zuI w (z2 (zI w) 21 11 (zI w 21 11 ^^^ (1 <<< (nI j &&& 31))))) h.1.2.1 (zMi_o hm (fun o a _ => z2_ro _ _ _ (by omega))) (nI j) t 139 (by decide)
      rw [e67, k3, bt, if_pos z, if_neg y, if_pos z, if_neg y] at cm
      refine ⟨_, rfl, rfl, zS_P (fun r2 w2 hq => ?_) cm⟩
      obtain ⟨g, rfl, rfl, hg⟩ := hq
      exact ⟨rfl, rfl, s, deed_Iv h (fun o ho => z2_ro _ _ _ (by omega)) hg (fun _ _ _ _ _ _ l => LR_shut l (fun i hi => z2_nt _ _ (by omega)) (z2_at _ _ _ _) (fun i h1 h2 => z2_ro _ _ _ (by omega)))⟩
  · rw [if_neg z] at hw
    rw [if_neg z, hw]
    have cm := c_Mod_shut h.1.2.1 hm b t 139 (by decide)
    rw [if_neg z, if_neg z] at cm
    refine ⟨_, rfl, rfl, zS_P (fun r2 w2 hq => ?_) cm⟩
    obtain ⟨g, rfl, rfl, hg⟩ := hq
    exact ⟨rfl, rfl, s, deed_Iv (f := zI w) h (fun _ _ => rfl) hg (fun _ _ _ _ _ _ l => l)⟩
theorem op_clear {w : zW} {s N : Nat} (h : Iv w s N) (hN : N ≤ 511000) : Op w N m_SW_clear m_Mod_clear [] := by
  obtain ⟨C, R, H, K, U, t1, t2⟩ := h.2.2.1
  obtain ⟨V, F, G, hi, hm, hst, hF⟩ := SRn_fn t1
  refine op_of h hN (c_SW_clear h.1.1 139) (fun r1 w1 hp => ?_)
  obtain ⟨rfl, hw⟩ := hp
  rw [hw]
  have e67 : zI (zuI w (z2 (zI w) 21 12 0)) 67 = zI w 67 := z2u (by decide)
  have cm := c_Mod_clear (w := zuI w (z2 (zI w) 21 12 0)) h.1.2.1 (zMi_o hm (fun o a _ => z2_ro _ _ _ (by omega))) 139 (by decide)
  rw [e67] at cm
  refine ⟨_, rfl, rfl, zS_P (fun r2 w2 hq => ?_) cm⟩
  obtain ⟨g, rfl, rfl, hg⟩ := hq
  exact ⟨rfl, rfl, s, deed_Iv h (fun o ho => z2_ro _ _ _ (by omega)) hg (fun _ _ _ _ _ _ l => LR_clear l (fun i hi => z2_nt _ _ (by omega)) (z2_at _ _ _ _) (fun i h1 h2 => z2_ro _ _ _ (by omega)))⟩
theorem op_sight {w : zW} {s N : Nat} (h : Iv w s N) (hN : N ≤ 511000) (a b t : Int32) : Op w N m_SW_sight m_Mod_sight [(1, .int a), (2, .int b), (3, .int t)] := by
  obtain ⟨C, R, H, K, U, t1, t2⟩ := h.2.2.1
  obtain ⟨V, F, G, hi, hm, hst, hF⟩ := SRn_fn t1
  have hH := t1.1.2.2.1
  obtain ⟨n, n1, n2, n3, n4⟩ := t2.2.2.2.1
  refine op_of h hN (c_SW_sight h.1.1 hi n2 n1 a b t 139 (by decide)) (fun r1 w1 hp => ?_)
  obtain ⟨rfl, hw⟩ := hp
  by_cases z : twoOK H a b = 0
  · rw [if_pos z] at hw
    rw [if_pos z, hw]
    have cm := c_Mod_sight h.1.2.1 hm n3 n1 a b t 139 (by decide)
    rw [if_pos z, if_pos z] at cm
    refine ⟨_, rfl, rfl, zS_P (fun r2 w2 hq => ?_) cm⟩
    obtain ⟨g, rfl, rfl, hg⟩ := hq
    exact ⟨rfl, rfl, s, deed_Iv (f := zI w) h (fun _ _ => rfl) hg (fun _ _ _ _ _ _ l => l)⟩
  · obtain ⟨i, j, hi1, hj1, hij, rfl, rfl⟩ := two_of hH z
    rw [if_neg z] at hw
    rw [if_neg z]
    have e10 : nI n = 10 ↔ n = 10 := nI_eq (b := 10) (by omega) (by decide)
    by_cases y : n < 10
    · rw [if_pos y] at hw
      rw [if_pos y, hw]
      have ro : ∀ o, o ≠ 21 → o ≠ 27 → o ≠ 28 → o ≠ 29 → z2 (z2 (z2 (z2 (zI w) 27 n (nI i)) 28 n (nI j)) 29 n (if t = 0 then 0 else 1)) 21 12 (nI (n + 1)) o = zI w o := fun o o1 o2 o3 o4 => by rw [z2_ro _ _ _ o1, z2_ro _ _ _ o4, z2_ro _ _ _ o3, z2_ro _ _ _ o2]
      have cm := c_Mod_sight (w := zuI w (z2 (z2 (z2 (z2 (zI w) 27 n (nI i)) 28 n (nI j)) 29 n (if t = 0 then 0 else 1)) 21 12 (nI (n + 1)))) h.1.2.1 (zMi_o hm (fun o a _ => ro o (by omega) (by omega) (by omega) (by omega))) (n := n) (by rw [show zI (zuI w (z2 (z2 (z2 (z2 (zI w) 27 n (nI i)) 28 n (nI j)) 29 n (if t = 0 then 0 else 1)) 21 12 (nI (n + 1)))) 67 = zI w 67 from ro 67 (by decide) (by decide) (by decide) (by decide)]; exact n3) n1 (nI i) (nI j) t 139 (by decide)
      rw [show zI (zuI w (z2 (z2 (z2 (z2 (zI w) 27 n (nI i)) 28 n (nI j)) 29 n (if t = 0 then 0 else 1)) 21 12 (nI (n + 1)))) 67 = zI w 67 from ro 67 (by decide) (by decide) (by decide) (by decide), if_neg z, if_neg (fun q => absurd (e10.mp q) (by omega)), if_neg z, if_neg (fun q => absurd (e10.mp q) (by omega)), nI_1 n] at cm
      refine ⟨_, rfl, rfl, zS_P (fun r2 w2 hq => ?_) cm⟩
      obtain ⟨g, rfl, rfl, hg⟩ := hq
      refine ⟨rfl, rfl, s, deed_Iv h (fun o ho => ro o (by omega) (by omega) (by omega) (by omega)) hg (fun C2 R2 H2 K2 U2 p1 l => ?_)⟩
      have eH : H2 = H := (nI_eq (by have := p1.1.2.2.1; omega) (by omega)).mp (p1.2.1.2.2.2.2.symm.trans t1.2.1.2.2.2.2)
      subst eH
      refine LR_sight (t := if t = 0 then 0 else 1) l n2 y hi1 hj1 (by by_cases q : t = 0; exact Or.inl (if_pos q); exact Or.inr (if_neg q)) (fun k hk => ?_) (z2_at _ _ _ _) (fun k h1 h2 => ro _ (by omega) (by omega) (by omega) (by omega)) ?_ ?_ ?_
      · rw [z2_nt _ _ (by omega), z2_ro _ _ _ (by decide), z2_ro _ _ _ (by decide), z2_ro _ _ _ (by decide)]
      · show z2 (z2 (z2 (z2 (zI w) 27 n (nI i)) 28 n (nI j)) 29 n (if t = 0 then 0 else 1)) 21 12 (nI (n + 1)) 27 = upd (zI w 27) n (nI i)
        rw [z2_ro _ _ _ (by decide), z2_ro _ _ _ (by decide), z2_ro _ _ _ (by decide), z2_row]
        rfl
      · show z2 (z2 (z2 (z2 (zI w) 27 n (nI i)) 28 n (nI j)) 29 n (if t = 0 then 0 else 1)) 21 12 (nI (n + 1)) 28 = upd (zI w 28) n (nI j)
        rw [z2_ro _ _ _ (by decide), z2_ro _ _ _ (by decide), z2_row, z2_ro _ _ _ (by decide)]
        rfl
      · show z2 (z2 (z2 (z2 (zI w) 27 n (nI i)) 28 n (nI j)) 29 n (if t = 0 then 0 else 1)) 21 12 (nI (n + 1)) 29 = upd (zI w 29) n (if t = 0 then 0 else 1)
        rw [z2_ro _ _ _ (by decide), z2_row, z2_ro _ _ _ (by decide), z2_ro _ _ _ (by decide)]
        rfl
    · rw [if_neg y] at hw
      rw [if_neg y, hw]
      have cm := c_Mod_sight h.1.2.1 hm n3 n1 (nI i) (nI j) t 139 (by decide)
      rw [if_neg z, if_pos (e10.mpr (by omega)), if_neg z, if_pos (e10.mpr (by omega))] at cm
      refine ⟨_, rfl, rfl, zS_P (fun r2 w2 hq => ?_) cm⟩
      obtain ⟨g, rfl, rfl, hg⟩ := hq
      exact ⟨rfl, rfl, s, deed_Iv (f := zI w) h (fun _ _ => rfl) hg (fun _ _ _ _ _ _ l => l)⟩
