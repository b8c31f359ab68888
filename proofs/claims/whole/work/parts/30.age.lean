/-- a house's cells are blackened, the first i of them -/
def blkN (g c : Nat → Int32) (hh : Nat) : Nat → Nat → Int32
  | 0 => g
  | i + 1 => upd (blkN g c hh i) (144 * hh + (c (13 * hh + i)).toNatClampNeg) (blkN g c hh i (144 * hh + (c (13 * hh + i)).toNatClampNeg) + 1)
/-- weddings grow older: of the pair (hh, o), the hours and the children -/
def ageS (x : Int32) (hh o : Nat) (q : (Nat → Int32) × (Nat → Int32)) : (Nat → Int32) × (Nat → Int32) :=
  if hasB x o = true then (upd q.1 (8 * hh + o) (q.1 (8 * hh + o) + 1), if (q.1 (8 * hh + o) + 1) - (q.1 (8 * hh + o) + 1) / 3 * 3 = 0 then upd q.2 (8 * hh + o) (q.2 (8 * hh + o) + 1) else q.2) else q
def ageA (x : Int32) (hh : Nat) (q : (Nat → Int32) × (Nat → Int32)) : Nat → (Nat → Int32) × (Nat → Int32)
  | 0 => q
  | o + 1 => if hh < o then ageS x hh o (ageA x hh q o) else ageA x hh q o
theorem ageA_0 (x : Int32) (hh : Nat) (q : (Nat → Int32) × (Nat → Int32)) : ∀ o, o ≤ hh + 1 → ageA x hh q o = q
  | 0, _ => rfl
  | o + 1, h => by
    show (if hh < o then _ else _) = q
    rw [if_neg (by omega)]
    exact ageA_0 x hh q o (by omega)
theorem ageA_s (x : Int32) (hh : Nat) (q : (Nat → Int32) × (Nat → Int32)) {o : Nat} (h : hh < o) : ageA x hh q (o + 1) = ageS x hh o (ageA x hh q o) := if_pos h
set_option maxRecDepth 100000 in
set_option maxHeartbeats 4000000 in
theorem l_Life_blacken {w : zW} {l a n : Nat} (hl : zLf w l) (ha : zAir w a) (hla : l + 9 ≤ a ∨ a + 5 ≤ l) {hh : Nat} (h8 : hh < 8) (hn : zI w (a + 2) hh = nI n) (hn1 : n ≤ 13) (hc : ∀ k, k < n → ∃ p, p < 144 ∧ zI w (a + 3) (13 * hh + k) = nI p) (d : Nat) : ∀ (m i : Nat), i ≤ n → n ≤ i + m → zS 0 0 d m_Life_blacken (fun rv w1 => rv = none ∧ w1 = zuI w (zr (zI w) (l + 5) (blkN (zI w (l + 5)) (zI w (a + 3)) hh n))) 2 [(0, .ref l), (1, .int (nI hh)), (2, .ref a), (3, .int (nI i))] [] (zuI w (zr (zI w) (l + 5) (blkN (zI w (l + 5)) (zI w (a + 3)) hh i))) := by
  have hex : zS 0 0 d m_Life_blacken (fun rv w1 => rv = none ∧ w1 = zuI w (zr (zI w) (l + 5) (blkN (zI w (l + 5)) (zI w (a + 3)) hh n))) 2 [(0, .ref l), (1, .int (nI hh)), (2, .ref a), (3, .int (nI n))] [] (zuI w (zr (zI w) (l + 5) (blkN (zI w (l + 5)) (zI w (a + 3)) hh n))) := by
    refine z_iload_n (pc := 2) (i := 3) (j := 3) rfl rfl rfl ?_
    refine z_aload_n (pc := 3) (i := 2) (j := 2) rfl rfl rfl ?_
    refine z_getR (pc := 4) (x := a + 2) rfl fl_Life_111 ha.1 rfl ha.2.2.2.2.2.2.1 ?_
    refine z_iload_n (pc := 7) (i := 1) (j := 1) rfl rfl rfl ?_
    refine z_iald (pc := 8) rfl ha.2.2.1 (vp_in_nI h8 (by decide)) ?_
    refine z_eqi (y := nI n) (by rw [nI_clamp (by omega)]; exact (congrFun (zr_o _ _ (by omega)) hh).trans hn) ?_
    refine z_icmp_ge (pc := 9) (tgt := 44) rfl (by decide) (fun h9 => ?_) (fun h9 => ?_)
    · exact z_vret (pc := 44) rfl rfl ⟨rfl, rfl⟩
    · exact absurd (Int32.le_refl _) h9
  intro m
  induction m with
  | zero =>
    intro i hi hm
    obtain rfl : i = n := by omega
    exact hex
  | succ m ih =>
    intro i hi hm
    by_cases hlt : i < n
    · have kk := ih (i + 1) (by omega) (by omega)
      refine z_iload_n (pc := 2) (i := 3) (j := 3) rfl rfl rfl ?_
      refine z_aload_n (pc := 3) (i := 2) (j := 2) rfl rfl rfl ?_
      refine z_getR (pc := 4) (x := a + 2) rfl fl_Life_111 ha.1 rfl ha.2.2.2.2.2.2.1 ?_
      refine z_iload_n (pc := 7) (i := 1) (j := 1) rfl rfl rfl ?_
      refine z_iald (pc := 8) rfl ha.2.2.1 (vp_in_nI h8 (by decide)) ?_
      refine z_eqi (y := nI n) (by rw [nI_clamp (by omega)]; exact (congrFun (zr_o _ _ (by omega)) hh).trans hn) ?_
      refine z_icmp_ge (pc := 9) (tgt := 44) rfl (by decide) (fun h9 => ?_) (fun h9 => ?_)
      · exact absurd h9 (nI_ge (b := n) hlt (by omega))
      · obtain ⟨p, hp, hpe⟩ := hc i hlt
        refine z_aload_n (pc := 12) (i := 0) (j := 0) rfl rfl rfl ?_
        refine z_getR (pc := 13) (x := l + 5) rfl fl_Life_24 hl.1 rfl hl.2.2.2.2.2.2.2.2.2.2.2.2.2.1 ?_
        refine z_iload_n (pc := 16) (i := 1) (j := 1) rfl rfl rfl ?_
        refine z_sipush (pc := 17) (v := 144) rfl (by decide) ?_
        refine z_imul (pc := 20) rfl ?_
        refine z_aload_n (pc := 21) (i := 2) (j := 2) rfl rfl rfl ?_
        refine z_getR (pc := 22) (x := a + 3) rfl fl_Life_114 ha.1 rfl ha.2.2.2.2.2.2.2.1 ?_
        refine z_iload_n (pc := 25) (i := 1) (j := 1) rfl rfl rfl ?_
        refine z_bipush (pc := 26) (v := 13) rfl (by decide) ?_
        refine z_imul (pc := 28) rfl ?_
        refine z_iload_n (pc := 29) (i := 3) (j := 3) rfl rfl rfl ?_
        refine z_iadd (pc := 30) rfl ?_
        refine z_eqi (y := nI (13 * hh + i)) (by rw [show nI hh * 13 = nI (hh * 13) from pk_mul hh 13, nI_add, Nat.mul_comm hh 13]) ?_
        refine z_iald (pc := 31) rfl ha.2.2.2.1 (vp_in_nI (by omega) (by decide)) ?_
        refine z_eqi (y := nI p) (by rw [nI_clamp (by omega)]; exact (congrFun (zr_o _ _ (by omega)) _).trans hpe) ?_
        refine z_iadd (pc := 32) rfl ?_
        refine z_eqi (y := nI (144 * hh + p)) (by rw [show nI hh * 144 = nI (hh * 144) from pk_mul hh 144, nI_add, Nat.mul_comm hh 144]) ?_
        refine z_dup2 (pc := 33) rfl rfl rfl ?_
        refine z_iald (pc := 34) rfl hl.2.2.2.2.2.1 (vp_in_nI (by omega) (by decide)) ?_
        refine z_eqi (y := blkN (zI w (l + 5)) (zI w (a + 3)) hh i (144 * hh + p)) (by rw [nI_clamp (by omega)]; exact congrFun (zr_h _ _ _) _) ?_
        refine z_iconst (pc := 35) (v := 1) rfl (by decide) ?_
        refine z_iadd (pc := 36) rfl ?_
        refine z_iast (pc := 37) rfl hl.2.2.2.2.2.1 (vp_in_nI (by omega) (by decide)) ?_
        refine z_iinc (pc := 38) (i := 3) (j := 3) (v := nI (i + 1)) (ls' := [(0, .ref l), (1, .int (nI hh)), (2, .ref a), (3, .int (nI (i + 1)))]) rfl rfl (nI_1 i) (by decide) rfl ?_
        refine z_goto (pc := 41) (tgt := 2) rfl (by decide) ?_
        rw [nI_clamp (by omega)]
        refine z_eqw ?_ kk
        refine congrArg (zuI w) ((zr_put _ _ _ _ _).trans (congrArg (zr _ _) ?_))
        show _ = upd _ _ _
        rw [hpe, nI_clamp (by omega)]
    · obtain rfl : i = n := by omega
      exact hex
set_option maxRecDepth 100000 in
set_option maxHeartbeats 4000000 in
theorem c_Life_blacken {w : zW} {l a n : Nat} (hl : zLf w l) (ha : zAir w a) (hla : l + 9 ≤ a ∨ a + 5 ≤ l) {hh : Nat} (h8 : hh < 8) (hn : zI w (a + 2) hh = nI n) (hn1 : n ≤ 13) (hc : ∀ k, k < n → ∃ p, p < 144 ∧ zI w (a + 3) (13 * hh + k) = nI p) (d : Nat) : zS 0 0 d m_Life_blacken (fun rv w1 => rv = none ∧ w1 = zuI w (zr (zI w) (l + 5) (blkN (zI w (l + 5)) (zI w (a + 3)) hh n))) 0 [(0, .ref l), (1, .int (nI hh)), (2, .ref a)] [] w := by
  refine z_iconst (pc := 0) (v := nI 0) rfl rfl ?_
  refine z_istore_n (pc := 1) (i := 3) (ls' := [(0, .ref l), (1, .int (nI hh)), (2, .ref a), (3, .int (nI 0))]) rfl rfl (by decide) rfl ?_
  refine z_eqw (w2 := zuI w (zr (zI w) (l + 5) (blkN (zI w (l + 5)) (zI w (a + 3)) hh 0))) ?_ (l_Life_blacken hl ha hla h8 hn hn1 hc d n 0 (by omega) (by omega))
  show zuI w (zI w) = _
  exact congrArg (zuI w) (zr_self _ _).symm
theorem age_put1 (f : Nat → Nat → Int32) (l k : Nat) (q : (Nat → Int32) × (Nat → Int32)) (v : Int32) : z2 (zr (zr f (l + 2) q.1) (l + 3) q.2) (l + 2) k v = zr (zr f (l + 2) (upd q.1 k v)) (l + 3) q.2 := by
  funext x y
  unfold z2 zr upd
  by_cases h3 : x = l + 3
  · subst h3; simp
  · by_cases h2 : x = l + 2
    · subst h2; simp
    · simp [h3, h2]
theorem age_put2 (f : Nat → Nat → Int32) (l k : Nat) (q : (Nat → Int32) × (Nat → Int32)) (u v : Int32) : z2 (z2 (zr (zr f (l + 2) q.1) (l + 3) q.2) (l + 2) k u) (l + 3) k v = zr (zr f (l + 2) (upd q.1 k u)) (l + 3) (upd q.2 k v) := by
  funext x y
  unfold z2 zr upd
  by_cases h3 : x = l + 3
  · subst h3; simp
  · by_cases h2 : x = l + 2
    · subst h2; simp
    · simp [h3, h2]
set_option maxRecDepth 100000 in
set_option maxHeartbeats 4000000 in
theorem l_Life_ageWeddings {w : zW} {l : Nat} (hl : zLf w l) {hh : Nat} (h8 : hh < 8) (d : Nat) (hd : 2 ≤ d) : ∀ (m i : Nat), i ≤ 8 → hh < i → 8 ≤ i + m → zS 0 0 d m_Life_ageWeddings (fun rv w1 => rv = none ∧ w1 = zuI w (zr (zr (zI w) (l + 2) (ageA (zI w (l + 1) hh) hh (zI w (l + 2), zI w (l + 3)) 8).1) (l + 3) (ageA (zI w (l + 1) hh) hh (zI w (l + 2), zI w (l + 3)) 8).2)) 4 [(0, .ref l), (1, .int (nI hh)), (2, .int (nI i))] [] (zuI w (zr (zr (zI w) (l + 2) (ageA (zI w (l + 1) hh) hh (zI w (l + 2), zI w (l + 3)) i).1) (l + 3) (ageA (zI w (l + 1) hh) hh (zI w (l + 2), zI w (l + 3)) i).2)) := by
  have hex : zS 0 0 d m_Life_ageWeddings (fun rv w1 => rv = none ∧ w1 = zuI w (zr (zr (zI w) (l + 2) (ageA (zI w (l + 1) hh) hh (zI w (l + 2), zI w (l + 3)) 8).1) (l + 3) (ageA (zI w (l + 1) hh) hh (zI w (l + 2), zI w (l + 3)) 8).2)) 4 [(0, .ref l), (1, .int (nI hh)), (2, .int (nI 8))] [] (zuI w (zr (zr (zI w) (l + 2) (ageA (zI w (l + 1) hh) hh (zI w (l + 2), zI w (l + 3)) 8).1) (l + 3) (ageA (zI w (l + 1) hh) hh (zI w (l + 2), zI w (l + 3)) 8).2)) := by
    refine z_iload_n (pc := 4) (i := 2) (j := 2) rfl rfl rfl ?_
    refine z_bipush (pc := 5) (v := 8) rfl (by decide) ?_
    refine z_icmp_ge (pc := 7) (tgt := 66) rfl (by decide) (fun h7 => ?_) (fun h7 => ?_)
    · exact z_vret (pc := 66) rfl rfl ⟨rfl, rfl⟩
    · exact absurd (by decide) h7
  intro m
  induction m with
  | zero =>
    intro i hi hi0 hm
    obtain rfl : i = 8 := by omega
    exact hex
  | succ m ih =>
    intro i hi hi0 hm
    by_cases hlt : i < 8
    · have kk := ih (i + 1) (by omega) (by omega) (by omega)
      rw [ageA_s _ _ _ hi0] at kk
      generalize ageA (zI w (l + 1) hh) hh (zI w (l + 2), zI w (l + 3)) i = q at kk ⊢
      refine z_iload_n (pc := 4) (i := 2) (j := 2) rfl rfl rfl ?_
      refine z_bipush (pc := 5) (v := 8) rfl (by decide) ?_
      refine z_icmp_ge (pc := 7) (tgt := 66) rfl (by decide) (fun h7 => ?_) (fun h7 => ?_)
      · exact absurd h7 (nI_ge (b := 8) hlt (by decide))
      · refine z_aload_n (pc := 10) (i := 0) (j := 0) rfl rfl rfl ?_
        refine z_getR (pc := 11) (x := l + 1) rfl fl_Life_9 hl.1 rfl hl.2.2.2.2.2.2.2.2.2.1 ?_
        refine z_iload_n (pc := 14) (i := 1) (j := 1) rfl rfl rfl ?_
        refine z_iald (pc := 15) rfl hl.2.1 (vp_in_nI h8 (by decide)) ?_
        refine z_eqi (y := zI w (l + 1) hh) (by rw [nI_clamp (by omega)]; exact congrFun ((zr_o _ _ (by omega)).trans (zr_o _ _ (by omega))) hh) ?_
        refine z_iload_n (pc := 16) (i := 2) (j := 2) rfl rfl rfl ?_
        refine z_cSN (pc := 17) (mc1 := 0) (ms1 := 0) (mc2 := 0) (ms2 := 0) (as := [.int (zI w (l + 1) hh), .int (nI i)]) (rest := []) ok_SW_hasBit rfl rfl cl_Life_97 (by omega) (Nat.le_of_ble_eq_true rfl) (Nat.le_of_ble_eq_true rfl) (Nat.le_refl _) (Nat.le_refl _) (c_SW_hasBit (zI w (l + 1) hh) (nI i) 0 _) (fun r1 w1 hp => ?_) rfl rfl
        obtain ⟨rfl, hw1⟩ := hp
        rw [hw1]
        refine ⟨⟨Nat.le_refl _, Or.inl rfl⟩, ?_⟩
        refine z_if_eq (pc := 20) (tgt := 60) rfl (by decide) (fun h20 => ?_) (fun h20 => ?_)
        · refine z_iinc (pc := 60) (i := 2) (j := 2) (v := nI (i + 1)) (ls' := [(0, .ref l), (1, .int (nI hh)), (2, .int (nI (i + 1)))]) rfl rfl (nI_1 i) (by decide) rfl ?_
          refine z_goto (pc := 63) (tgt := 4) rfl (by decide) ?_
          have hb : ¬ hasB (zI w (l + 1) hh) i = true := by
            unfold hasB
            by_cases hb : (zI w (l + 1) hh >>> (nI i &&& 31)) &&& 1 = 0
            · simp [hb]
            · exact absurd (h20.symm.trans (if_neg hb)) (by decide)
          have hq : ageS (zI w (l + 1) hh) hh i q = q := if_neg hb
          rw [hq] at kk
          exact kk
        · refine z_iload_n (pc := 23) (i := 1) (j := 1) rfl rfl rfl ?_
          refine z_iload_n (pc := 24) (i := 2) (j := 2) rfl rfl rfl ?_
          refine z_cSN (pc := 25) (mc1 := 0) (ms1 := 0) (mc2 := 0) (ms2 := 0) (as := [.int (nI hh), .int (nI i)]) (rest := []) ok_SW_pairPlace rfl rfl cl_Life_107 (by omega) (Nat.le_of_ble_eq_true rfl) (Nat.le_of_ble_eq_true rfl) (Nat.le_refl _) (Nat.le_refl _) (c_SW_pairPlace (nI hh) (nI i) 1 (by decide) _) (fun r1 w1 hp => ?_) rfl rfl
          obtain ⟨rfl, hw1⟩ := hp
          rw [hw1]
          refine ⟨⟨Nat.le_refl _, Or.inl rfl⟩, ?_⟩
          refine z_eqi (y := nI (8 * hh + i)) (by rw [if_neg (nI_nlt (Nat.le_of_lt hi0) (by omega)), if_pos (nI_lt hi0 (by omega)), show nI hh * 8 = nI (hh * 8) from pk_mul hh 8, nI_add, Nat.mul_comm hh 8]) ?_
          refine z_istore_n (pc := 28) (i := 3) (ls' := [(0, .ref l), (1, .int (nI hh)), (2, .int (nI i)), (3, .int (nI (8 * hh + i)))]) rfl rfl (by decide) rfl ?_
          have hpb : vp_in (nI (8 * hh + i)) 64 := vp_in_nI (by omega) (by decide)
          have hb : hasB (zI w (l + 1) hh) i = true := by
            unfold hasB
            by_cases hb : (zI w (l + 1) hh >>> (nI i &&& 31)) &&& 1 = 0
            · exact absurd (if_pos hb) h20
            · simp [hb]
          refine z_aload_n (pc := 29) (i := 0) (j := 0) rfl rfl rfl ?_
          refine z_getR (pc := 30) (x := l + 2) rfl fl_Life_15 hl.1 rfl hl.2.2.2.2.2.2.2.2.2.2.1 ?_
          refine z_iload_n (pc := 33) (i := 3) (j := 3) rfl rfl rfl ?_
          refine z_dup2 (pc := 34) rfl rfl rfl ?_
          refine z_iald (pc := 35) rfl hl.2.2.1 hpb ?_
          refine z_eqi (y := q.1 (8 * hh + i)) (by rw [nI_clamp (by omega)]; exact congrFun ((zr_o _ _ (by omega)).trans (zr_h _ _ _)) _) ?_
          refine z_iconst (pc := 36) (v := 1) rfl (by decide) ?_
          refine z_iadd (pc := 37) rfl ?_
          refine z_iast (pc := 38) rfl hl.2.2.1 hpb ?_
          refine z_aload_n (pc := 39) (i := 0) (j := 0) rfl rfl rfl ?_
          refine z_getR (pc := 40) (x := l + 2) rfl fl_Life_15 hl.1 rfl hl.2.2.2.2.2.2.2.2.2.2.1 ?_
          refine z_iload_n (pc := 43) (i := 3) (j := 3) rfl rfl rfl ?_
          refine z_iald (pc := 44) rfl hl.2.2.1 hpb ?_
          refine z_eqi (y := q.1 (8 * hh + i) + 1) (z2_hit _ _ _ _) ?_
          refine z_iconst (pc := 45) (v := 3) rfl (by decide) ?_
          refine z_irem (pc := 46) rfl (by decide) ?_
          refine z_if_ne (pc := 47) (tgt := 60) rfl (by decide) (fun h47 => ?_) (fun h47 => ?_)
          · refine z_iinc (pc := 60) (i := 2) (j := 2) (v := nI (i + 1)) (ls' := [(0, .ref l), (1, .int (nI hh)), (2, .int (nI (i + 1))), (3, .int (nI (8 * hh + i)))]) rfl rfl (nI_1 i) (by decide) rfl ?_
            refine z_goto (pc := 63) (tgt := 4) rfl (by decide) ?_
            have hq : ageS (zI w (l + 1) hh) hh i q = (upd q.1 (8 * hh + i) (q.1 (8 * hh + i) + 1), q.2) := by unfold ageS; rw [if_pos hb, if_neg h47]
            rw [hq] at kk
            refine z_drop (ls' := [(0, .ref l), (1, .int (nI hh)), (2, .int (nI (i + 1)))]) (by simp) ?_
            refine z_eqw ?_ kk
            refine congrArg (zuI w) ?_
            rw [nI_clamp (by omega)]
            exact age_put1 _ _ _ _ _
          · refine z_aload_n (pc := 50) (i := 0) (j := 0) rfl rfl rfl ?_
            refine z_getR (pc := 51) (x := l + 3) rfl fl_Life_18 hl.1 rfl hl.2.2.2.2.2.2.2.2.2.2.2.1 ?_
            refine z_iload_n (pc := 54) (i := 3) (j := 3) rfl rfl rfl ?_
            refine z_dup2 (pc := 55) rfl rfl rfl ?_
            refine z_iald (pc := 56) rfl hl.2.2.2.1 hpb ?_
            refine z_eqi (y := q.2 (8 * hh + i)) (by rw [nI_clamp (by omega)]; refine (z2_o _ _ _ _ (by omega)).trans ?_; exact congrFun (zr_h _ _ _) _) ?_
            refine z_iconst (pc := 57) (v := 1) rfl (by decide) ?_
            refine z_iadd (pc := 58) rfl ?_
            refine z_iast (pc := 59) rfl hl.2.2.2.1 hpb ?_
            refine z_iinc (pc := 60) (i := 2) (j := 2) (v := nI (i + 1)) (ls' := [(0, .ref l), (1, .int (nI hh)), (2, .int (nI (i + 1))), (3, .int (nI (8 * hh + i)))]) rfl rfl (nI_1 i) (by decide) rfl ?_
            refine z_goto (pc := 63) (tgt := 4) rfl (by decide) ?_
            have hq : ageS (zI w (l + 1) hh) hh i q = (upd q.1 (8 * hh + i) (q.1 (8 * hh + i) + 1), upd q.2 (8 * hh + i) (q.2 (8 * hh + i) + 1)) := by unfold ageS; rw [if_pos hb, if_pos h47]
            rw [hq] at kk
            refine z_drop (ls' := [(0, .ref l), (1, .int (nI hh)), (2, .int (nI (i + 1)))]) (by simp) ?_
            refine z_eqw ?_ kk
            refine congrArg (zuI w) ?_
            rw [nI_clamp (by omega)]
            exact age_put2 _ _ _ _ _ _
    · obtain rfl : i = 8 := by omega
      exact hex
set_option maxRecDepth 100000 in
set_option maxHeartbeats 4000000 in
theorem c_Life_ageWeddings {w : zW} {l : Nat} (hl : zLf w l) {hh : Nat} (h8 : hh < 8) (d : Nat) (hd : 2 ≤ d) : zS 0 0 d m_Life_ageWeddings (fun rv w1 => rv = none ∧ w1 = zuI w (zr (zr (zI w) (l + 2) (ageA (zI w (l + 1) hh) hh (zI w (l + 2), zI w (l + 3)) 8).1) (l + 3) (ageA (zI w (l + 1) hh) hh (zI w (l + 2), zI w (l + 3)) 8).2)) 0 [(0, .ref l), (1, .int (nI hh))] [] w := by
  refine z_iload_n (pc := 0) (i := 1) (j := 1) rfl rfl rfl ?_
  refine z_iconst (pc := 1) (v := 1) rfl (by decide) ?_
  refine z_iadd (pc := 2) rfl ?_
  refine z_eqi (y := nI (hh + 1)) (nI_1 hh) ?_
  refine z_istore_n (pc := 3) (i := 2) (ls' := [(0, .ref l), (1, .int (nI hh)), (2, .int (nI (hh + 1)))]) rfl rfl (by decide) rfl ?_
  refine z_eqw (w2 := zuI w (zr (zr (zI w) (l + 2) (ageA (zI w (l + 1) hh) hh (zI w (l + 2), zI w (l + 3)) (hh + 1)).1) (l + 3) (ageA (zI w (l + 1) hh) hh (zI w (l + 2), zI w (l + 3)) (hh + 1)).2)) ?_ (l_Life_ageWeddings hl h8 d hd 8 (hh + 1) (by omega) (by omega) (by omega))
  rw [ageA_0 _ _ _ _ (Nat.le_refl _)]
  show zuI w (zI w) = _
  refine congrArg (zuI w) ?_
  show zI w = zr (zr (zI w) (l + 2) (zI w (l + 2))) (l + 3) (zI w (l + 3))
  rw [zr_self, zr_self]
