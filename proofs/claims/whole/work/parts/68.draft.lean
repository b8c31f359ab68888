/-! A STREET DRAFTED: names, places, a house more -/
set_option maxRecDepth 100000 in
set_option maxHeartbeats 4000000 in
theorem l_Street_hasName {w : zW} {s H : Nat} (h : zSt w s) (hH : zI w s 11 = nI H) (hH8 : H ≤ 8) (x : Int64) (d : Nat) : ∀ m i, i + m = H → zS 0 0 d m_Street_hasName (fun rv w1 => rv = some (.int (if hasNm (zL w (s + 5)) x m i = true then 1 else 0)) ∧ w1 = w) 2 [(0, .ref s), (1, .long x), (3, .int (nI i))] [] w := by
  intro m
  induction m with
  | zero =>
    intro i him
    obtain rfl : i = H := by omega
    refine z_iload_n (pc := 2) (i := 3) (j := 2) rfl rfl rfl ?_
    refine z_aload_n (pc := 3) (i := 0) (j := 0) rfl rfl rfl ?_
    refine z_getI (pc := 4) rfl fl_Street_54 h.1 rfl ?_
    refine z_eqi (y := nI i) hH ?_
    refine z_icmp_ge (pc := 7) (tgt := 29) rfl (by decide) (fun h7 => ?_) (fun h7 => ?_)
    · refine z_iconst (pc := 29) (v := 0) rfl (by decide) ?_
      exact z_zret (pc := 30) rfl rfl (by decide) ⟨rfl, rfl⟩
    · exact absurd (Int32.le_refl _) h7
  | succ m ih =>
    intro i him
    have hlt : i < H := by omega
    · skip
      refine z_iload_n (pc := 2) (i := 3) (j := 2) rfl rfl rfl ?_
      refine z_aload_n (pc := 3) (i := 0) (j := 0) rfl rfl rfl ?_
      refine z_getI (pc := 4) rfl fl_Street_54 h.1 rfl ?_
      refine z_eqi (y := nI H) hH ?_
      refine z_icmp_ge (pc := 7) (tgt := 29) rfl (by decide) (fun h7 => ?_) (fun h7 => ?_)
      · exact absurd h7 (nI_ge hlt (by omega))
      · refine z_aload_n (pc := 10) (i := 0) (j := 0) rfl rfl rfl ?_
        refine z_getR (pc := 11) (x := s + 5) rfl fl_Street_24 h.1 rfl h.2.2.2.2.2.2.2.2.2.2.1 ?_
        refine z_iload_n (pc := 14) (i := 3) (j := 2) rfl rfl rfl ?_
        refine z_lald (pc := 15) rfl h.2.2.2.2.2.1 (vp_in_nI (n := i) (N := 8) (by omega) (by decide)) ?_
        refine z_eql (y := zL w (s + 5) i) (by rw [nI_clamp (by omega)]) ?_
        refine z_lload_n (pc := 16) (i := 1) (j := 1) rfl rfl rfl ?_
        refine z_lcmp (pc := 17) rfl ?_
        refine z_if_ne (pc := 18) (tgt := 23) rfl (by decide) (fun h18 => ?_) (fun h18 => ?_)
        · refine z_iinc (pc := 23) (i := 3) (j := 2) (v := nI (i + 1)) (ls' := [(0, .ref s), (1, .long x), (3, .int (nI (i + 1)))]) rfl rfl (nI_1 i) (by decide) rfl ?_
          refine z_goto (pc := 26) (tgt := 2) rfl (by decide) ?_
          rw [show hasNm (zL w (s + 5)) x (m + 1) i = hasNm (zL w (s + 5)) x m (i + 1) from if_neg (fun e => h18 ((lg_cmp_eq _ _).mpr e))]
          exact ih (i + 1) (by omega)
        · refine z_iconst (pc := 21) (v := 1) rfl (by decide) ?_
          exact z_zret (pc := 22) rfl rfl (by decide) ⟨by rw [show hasNm (zL w (s + 5)) x (m + 1) i = true from if_pos ((lg_cmp_eq _ _).mp h18)]; rfl, rfl⟩
set_option maxRecDepth 100000 in
set_option maxHeartbeats 4000000 in
theorem c_Street_hasName {w : zW} {s H : Nat} (h : zSt w s) (hH : zI w s 11 = nI H) (hH8 : H ≤ 8) (x : Int64) (d : Nat) : zS 0 0 d m_Street_hasName (fun rv w1 => rv = some (.int (if hasNm (zL w (s + 5)) x H 0 = true then 1 else 0)) ∧ w1 = w) 0 [(0, .ref s), (1, .long x)] [] w := by
  refine z_iconst (pc := 0) (v := 0) rfl (by decide) ?_
  refine z_istore_n (pc := 1) (i := 3) (ls' := [(0, .ref s), (1, .long x), (3, .int 0)]) rfl rfl (by decide) rfl ?_
  exact l_Street_hasName h hH hH8 x d H 0 (by omega)
set_option maxRecDepth 100000 in
set_option maxHeartbeats 4000000 in
theorem l_Street_hasHouseAt {w : zW} {s H : Nat} (h : zSt w s) (hH : zI w s 11 = nI H) (hH8 : H ≤ 8) (x y : Int32) (d : Nat) : ∀ m i, i + m = H → zS 0 0 d m_Street_hasHouseAt (fun rv w1 => rv = some (.int (if hasAt (zI w (s + 1)) (zI w (s + 2)) x y m i = true then 1 else 0)) ∧ w1 = w) 2 [(0, .ref s), (1, .int x), (2, .int y), (3, .int (nI i))] [] w := by
  intro m
  induction m with
  | zero =>
    intro i him
    obtain rfl : i = H := by omega
    refine z_iload_n (pc := 2) (i := 3) (j := 3) rfl rfl rfl ?_
    refine z_aload_n (pc := 3) (i := 0) (j := 0) rfl rfl rfl ?_
    refine z_getI (pc := 4) rfl fl_Street_54 h.1 rfl ?_
    refine z_eqi (y := nI i) hH ?_
    refine z_icmp_ge (pc := 7) (tgt := 38) rfl (by decide) (fun h7 => ?_) (fun h7 => ?_)
    · refine z_iconst (pc := 38) (v := 0) rfl (by decide) ?_
      exact z_zret (pc := 39) rfl rfl (by decide) ⟨rfl, rfl⟩
    · exact absurd (Int32.le_refl _) h7
  | succ m ih =>
    intro i him
    have hlt : i < H := by omega
    · skip
      refine z_iload_n (pc := 2) (i := 3) (j := 3) rfl rfl rfl ?_
      refine z_aload_n (pc := 3) (i := 0) (j := 0) rfl rfl rfl ?_
      refine z_getI (pc := 4) rfl fl_Street_54 h.1 rfl ?_
      refine z_eqi (y := nI H) hH ?_
      refine z_icmp_ge (pc := 7) (tgt := 38) rfl (by decide) (fun h7 => ?_) (fun h7 => ?_)
      · exact absurd h7 (nI_ge hlt (by omega))
      · refine z_aload_n (pc := 10) (i := 0) (j := 0) rfl rfl rfl ?_
        refine z_getR (pc := 11) (x := s + 1) rfl fl_Street_9 h.1 rfl h.2.2.2.2.2.2.1 ?_
        refine z_iload_n (pc := 14) (i := 3) (j := 3) rfl rfl rfl ?_
        refine z_iald (pc := 15) rfl h.2.1 (vp_in_nI (n := i) (N := 8) (by omega) (by decide)) ?_
        refine z_eqi (y := zI w (s + 1) i) (by rw [nI_clamp (by omega)]) ?_
        refine z_iload_n (pc := 16) (i := 1) (j := 1) rfl rfl rfl ?_
        refine z_icmp_ne (pc := 17) (tgt := 32) rfl (by decide) (fun h17 => ?_) (fun h17 => ?_)
        · refine z_iinc (pc := 32) (i := 3) (j := 3) (v := nI (i + 1)) (ls' := [(0, .ref s), (1, .int x), (2, .int y), (3, .int (nI (i + 1)))]) rfl rfl (nI_1 i) (by decide) rfl ?_
          refine z_goto (pc := 35) (tgt := 2) rfl (by decide) ?_
          rw [show hasAt (zI w (s + 1)) (zI w (s + 2)) x y (m + 1) i = hasAt (zI w (s + 1)) (zI w (s + 2)) x y m (i + 1) from if_neg (fun e => h17 e.1)]
          exact ih (i + 1) (by omega)
        · refine z_aload_n (pc := 20) (i := 0) (j := 0) rfl rfl rfl ?_
          refine z_getR (pc := 21) (x := s + 2) rfl fl_Street_15 h.1 rfl h.2.2.2.2.2.2.2.1 ?_
          refine z_iload_n (pc := 24) (i := 3) (j := 3) rfl rfl rfl ?_
          refine z_iald (pc := 25) rfl h.2.2.1 (vp_in_nI (n := i) (N := 8) (by omega) (by decide)) ?_
          refine z_eqi (y := zI w (s + 2) i) (by rw [nI_clamp (by omega)]) ?_
          refine z_iload_n (pc := 26) (i := 2) (j := 2) rfl rfl rfl ?_
          refine z_icmp_ne (pc := 27) (tgt := 32) rfl (by decide) (fun h27 => ?_) (fun h27 => ?_)
          · refine z_iinc (pc := 32) (i := 3) (j := 3) (v := nI (i + 1)) (ls' := [(0, .ref s), (1, .int x), (2, .int y), (3, .int (nI (i + 1)))]) rfl rfl (nI_1 i) (by decide) rfl ?_
            refine z_goto (pc := 35) (tgt := 2) rfl (by decide) ?_
            rw [show hasAt (zI w (s + 1)) (zI w (s + 2)) x y (m + 1) i = hasAt (zI w (s + 1)) (zI w (s + 2)) x y m (i + 1) from if_neg (fun e => h27 e.2)]
            exact ih (i + 1) (by omega)
          · refine z_iconst (pc := 30) (v := 1) rfl (by decide) ?_
            exact z_zret (pc := 31) rfl rfl (by decide) ⟨by rw [show hasAt (zI w (s + 1)) (zI w (s + 2)) x y (m + 1) i = true from if_pos ⟨h17, h27⟩]; rfl, rfl⟩
set_option maxRecDepth 100000 in
set_option maxHeartbeats 4000000 in
theorem c_Street_hasHouseAt {w : zW} {s H : Nat} (h : zSt w s) (hH : zI w s 11 = nI H) (hH8 : H ≤ 8) (x y : Int32) (d : Nat) : zS 0 0 d m_Street_hasHouseAt (fun rv w1 => rv = some (.int (if hasAt (zI w (s + 1)) (zI w (s + 2)) x y H 0 = true then 1 else 0)) ∧ w1 = w) 0 [(0, .ref s), (1, .int x), (2, .int y)] [] w := by
  refine z_iconst (pc := 0) (v := 0) rfl (by decide) ?_
  refine z_istore_n (pc := 1) (i := 3) (ls' := [(0, .ref s), (1, .int x), (2, .int y), (3, .int 0)]) rfl rfl (by decide) rfl ?_
  exact l_Street_hasHouseAt h hH hH8 x y d H 0 (by omega)
set_option maxRecDepth 100000 in
set_option maxHeartbeats 4000000 in
theorem c_Street_addHouse {w : zW} {s H : Nat} (h : zSt w s) (hH : zI w s 11 = nI H) (hH8 : H < 8) (x : Int64) (a b c k : Int32) (d : Nat) : zS 0 0 d m_Street_addHouse (fun rv w1 => rv = none ∧ w1 = zsI (zsI (zsI (zsI (zsI (zsL w (s + 5) H x) (s + 1) H a) (s + 2) H b) (s + 3) H c) (s + 4) H k) s 11 (nI (H + 1))) 0 [(0, .ref s), (1, .long x), (3, .int a), (4, .int b), (5, .int c), (6, .int k)] [] w := by
  refine z_aload_n (pc := 0) (i := 0) (j := 0) rfl rfl rfl ?_
  refine z_getI (pc := 1) rfl fl_Street_54 h.1 rfl ?_
  refine z_eqi (y := nI H) hH ?_
  refine z_bipush (pc := 4) (v := 8) rfl (by decide) ?_
  refine z_icmp_ge (pc := 6) (tgt := 72) rfl (by decide) (fun h6 => ?_) (fun h6 => ?_)
  · exact absurd h6 (nI_ge (b := 8) hH8 (by decide))
  · refine z_aload_n (pc := 9) (i := 0) (j := 0) rfl rfl rfl ?_
    refine z_getR (pc := 10) (x := s + 5) rfl fl_Street_24 h.1 rfl h.2.2.2.2.2.2.2.2.2.2.1 ?_
    refine z_aload_n (pc := 13) (i := 0) (j := 0) rfl rfl rfl ?_
    refine z_getI (pc := 14) rfl fl_Street_54 h.1 rfl ?_
    refine z_eqi (y := nI H) hH ?_
    refine z_lload_n (pc := 17) (i := 1) (j := 1) rfl rfl rfl ?_
    refine z_last (pc := 18) rfl h.2.2.2.2.2.1 (vp_in_nI (n := H) (N := 8) (by omega) (by decide)) ?_
    refine z_aload_n (pc := 19) (i := 0) (j := 0) rfl rfl rfl ?_
    refine z_getR (pc := 20) (x := s + 1) rfl fl_Street_9 h.1 rfl h.2.2.2.2.2.2.1 ?_
    refine z_aload_n (pc := 23) (i := 0) (j := 0) rfl rfl rfl ?_
    refine z_getI (pc := 24) rfl fl_Street_54 h.1 rfl ?_
    refine z_eqi (y := nI H) hH ?_
    refine z_iload_n (pc := 27) (i := 3) (j := 2) rfl rfl rfl ?_
    refine z_iast (pc := 28) rfl h.2.1 (vp_in_nI (n := H) (N := 8) (by omega) (by decide)) ?_
    refine z_aload_n (pc := 29) (i := 0) (j := 0) rfl rfl rfl ?_
    refine z_getR (pc := 30) (x := s + 2) rfl fl_Street_15 h.1 rfl h.2.2.2.2.2.2.2.1 ?_
    refine z_aload_n (pc := 33) (i := 0) (j := 0) rfl rfl rfl ?_
    refine z_getI (pc := 34) rfl fl_Street_54 h.1 rfl ?_
    refine z_eqi (y := nI H) ((zI_o _ _ _ (show s ≠ s + 1 by omega)).trans hH) ?_
    refine z_iload (pc := 37) (i := 4) (j := 3) rfl rfl ?_
    refine z_iast (pc := 39) rfl h.2.2.1 (vp_in_nI (n := H) (N := 8) (by omega) (by decide)) ?_
    refine z_aload_n (pc := 40) (i := 0) (j := 0) rfl rfl rfl ?_
    refine z_getR (pc := 41) (x := s + 3) rfl fl_Street_18 h.1 rfl h.2.2.2.2.2.2.2.2.1 ?_
    refine z_aload_n (pc := 44) (i := 0) (j := 0) rfl rfl rfl ?_
    refine z_getI (pc := 45) rfl fl_Street_54 h.1 rfl ?_
    refine z_eqi (y := nI H) ((zI_o _ _ _ (show s ≠ s + 2 by omega)).trans ((zI_o _ _ _ (show s ≠ s + 1 by omega)).trans hH)) ?_
    refine z_iload (pc := 48) (i := 5) (j := 4) rfl rfl ?_
    refine z_iast (pc := 50) rfl h.2.2.2.1 (vp_in_nI (n := H) (N := 8) (by omega) (by decide)) ?_
    refine z_aload_n (pc := 51) (i := 0) (j := 0) rfl rfl rfl ?_
    refine z_getR (pc := 52) (x := s + 4) rfl fl_Street_21 h.1 rfl h.2.2.2.2.2.2.2.2.2.1 ?_
    refine z_aload_n (pc := 55) (i := 0) (j := 0) rfl rfl rfl ?_
    refine z_getI (pc := 56) rfl fl_Street_54 h.1 rfl ?_
    refine z_eqi (y := nI H) ((zI_o _ _ _ (show s ≠ s + 3 by omega)).trans ((zI_o _ _ _ (show s ≠ s + 2 by omega)).trans ((zI_o _ _ _ (show s ≠ s + 1 by omega)).trans hH))) ?_
    refine z_iload (pc := 59) (i := 6) (j := 5) rfl rfl ?_
    refine z_iast (pc := 61) rfl h.2.2.2.2.1 (vp_in_nI (n := H) (N := 8) (by omega) (by decide)) ?_
    refine z_aload_n (pc := 62) (i := 0) (j := 0) rfl rfl rfl ?_
    refine z_dup (pc := 63) rfl rfl ?_
    refine z_getI (pc := 64) rfl fl_Street_54 h.1 rfl ?_
    refine z_eqi (y := nI H) ((zI_o _ _ _ (show s ≠ s + 4 by omega)).trans ((zI_o _ _ _ (show s ≠ s + 3 by omega)).trans ((zI_o _ _ _ (show s ≠ s + 2 by omega)).trans ((zI_o _ _ _ (show s ≠ s + 1 by omega)).trans hH)))) ?_
    refine z_iconst (pc := 67) (v := 1) rfl (by decide) ?_
    refine z_iadd (pc := 68) rfl ?_
    refine z_eqi (y := nI (H + 1)) (nI_1 H) ?_
    refine z_putI (pc := 69) rfl fl_Street_54 h.1 rfl  ?_
    exact z_vret (pc := 72) rfl rfl ⟨rfl, by rw [nI_clamp (n := H) (by omega)]⟩
def keyS (T : Nat → Int32) (n : Nat) : Nat ⊕ Int32 → Int64
  | .inl p => keyC T (tBeg T n p) (tLen T n p)
  | .inr _ => 0
theorem rS_k {w : zW} {T : Nat → Int32} {n : Nat} {q : Nat ⊕ Int32} (h : rS w T n q) (h2 : tkc T n q = 3) : zL w 3 7 = keyS T n q := by
  cases q with
  | inl p => exact h.2.2.2.2.2.1 h2
  | inr k => exact absurd h2 (by show ¬ (1 : Int32) = 3; decide)
def newS (T : Nat → Int32) (n : Nat) (N : Nat → Int64) (H : Nat) (q : Nat ⊕ Int32) : Nat ⊕ Int32 := if tkc T n q = 3 then (if resO (tkw T n q) = 0 then (if hasNm N (keyS T n q) H 0 = true then wrg T n 3 q else nxt T n q) else wrg T n 1 q) else wrg T n 1 q
set_option maxRecDepth 100000 in
set_option maxHeartbeats 4000000 in
theorem c_Reader_expectNewName {w : zW} {s n : Nat} {T : Nat → Int32} (hk : rdK w s n T) (q : Nat ⊕ Int32) (hq : rS w T n q) {H : Nat} (hH : zI w s 11 = nI H) (hH8 : H ≤ 8) (d : Nat) (hd : 5 ≤ d) : zS 0 0 d m_Reader_expectNewName (fun rv w1 => rv = none ∧ rF w w1 ∧ rS w1 T n (newS T n (zL w (s + 5)) H q)) 0 [(0, .ref 3)] [] w := by
  cases hw : zR w 3 8 with
  | none =>
    refine z_aload_n (pc := 0) (i := 0) (j := 0) rfl rfl rfl ?_
    refine z_getI (pc := 1) rfl fl_Reader_61 hk.1 rfl ?_
    refine z_eqi (y := tkc T n q) (rS_c hq) ?_
    refine z_iconst (pc := 4) (v := 3) rfl (by decide) ?_
    refine z_icmp_ne (pc := 5) (tgt := 25) rfl (by decide) (fun h5 => ?_) (fun h5 => ?_)
    · refine z_aload_n (pc := 25) (i := 0) (j := 0) rfl rfl rfl ?_
      refine z_iconst (pc := 26) (v := 1) rfl (by decide) ?_
      refine z_cV (pc := 27) (mc1 := 0) (ms1 := 0) (mc2 := 0) (ms2 := 0) (as := [.int 1]) (rest := []) (o := 3) rfl rfl hk.1 ok_Reader_wrong rfl rfl cl_Reader_122 (by omega) (Nat.le_of_ble_eq_true rfl) (Nat.le_of_ble_eq_true rfl) (Nat.le_refl _) (Nat.le_refl _) (c_Reader_wrong1 hk q hq 1 (by decide)) (fun r1 w1 hp => ?_) rfl rfl
      obtain ⟨rfl, hF1, hS1⟩ := hp
      refine ⟨⟨by rw [hF1.1]; exact Nat.le_refl _, Or.inl (by rw [hF1.1])⟩, ?_⟩
      have hk1 := rdK_F hk hF1
      refine z_goto (pc := 30) (tgt := 52) rfl (by decide) ?_
      refine z_aload_n (pc := 52) (i := 0) (j := 0) rfl rfl rfl ?_
      refine z_cV (pc := 53) (mc1 := 0) (ms1 := 0) (mc2 := 0) (ms2 := 0) (as := []) (rest := []) (o := 3) rfl rfl hk1.1 ok_Reader_next rfl rfl cl_Reader_58 (by omega) (Nat.le_of_ble_eq_true rfl) (Nat.le_of_ble_eq_true rfl) (Nat.le_refl _) (Nat.le_refl _) (c_Reader_next hk1 _ hS1 4 (by decide)) (fun r1 w2 hp => ?_) rfl rfl
      obtain ⟨rfl, hF2, hS2⟩ := hp
      refine ⟨⟨by rw [hF2.1]; exact Nat.le_refl _, Or.inl (by rw [hF2.1])⟩, ?_⟩
      have hk2 := rdK_F hk1 hF2
      exact z_vret (pc := 56) rfl rfl ⟨rfl, rF_t hF1 hF2, by unfold newS; rw [if_neg h5, ← nxt_wrg]; exact hS2⟩
    · refine z_aload_n (pc := 8) (i := 0) (j := 0) rfl rfl rfl ?_
      refine z_getN (pc := 9) rfl fl_Reader_67 hk.1 rfl hw ?_
      refine z_ifnullN (pc := 12) (tgt := 33) rfl (by decide) ?_
      refine z_aload_n (pc := 33) (i := 0) (j := 0) rfl rfl rfl ?_
      refine z_getR (pc := 34) (x := s) rfl fl_Reader_21 hk.1 rfl hk.2.2.1 ?_
      refine z_aload_n (pc := 37) (i := 0) (j := 0) rfl rfl rfl ?_
      refine z_getL (pc := 38) rfl fl_Reader_137 hk.1 rfl ?_
      refine z_eql (y := keyS T n q) (rS_k hq h5) ?_
      refine z_cV (pc := 41) (mc1 := 0) (ms1 := 0) (mc2 := 0) (ms2 := 0) (as := [.long (keyS T n q)]) (rest := []) (o := s) rfl rfl hk.2.2.2.2.2.2.1.1 ok_Street_hasName rfl rfl cl_Reader_176 (by omega) (Nat.le_of_ble_eq_true rfl) (Nat.le_of_ble_eq_true rfl) (Nat.le_refl _) (Nat.le_refl _) (c_Street_hasName hk.2.2.2.2.2.2.1 hH hH8 (keyS T n q) 0) (fun r1 w1 hp => ?_) rfl rfl
      obtain ⟨rfl, hw1⟩ := hp
      rw [hw1]
      refine ⟨⟨Nat.le_refl _, Or.inl rfl⟩, ?_⟩
      refine z_if_eq (pc := 44) (tgt := 52) rfl (by decide) (fun h44 => ?_) (fun h44 => ?_)
      · refine z_aload_n (pc := 52) (i := 0) (j := 0) rfl rfl rfl ?_
        refine z_cV (pc := 53) (mc1 := 0) (ms1 := 0) (mc2 := 0) (ms2 := 0) (as := []) (rest := []) (o := 3) rfl rfl hk.1 ok_Reader_next rfl rfl cl_Reader_58 (by omega) (Nat.le_of_ble_eq_true rfl) (Nat.le_of_ble_eq_true rfl) (Nat.le_refl _) (Nat.le_refl _) (c_Reader_next hk q hq 4 (by decide)) (fun r1 w2 hp => ?_) rfl rfl
        obtain ⟨rfl, hF2, hS2⟩ := hp
        refine ⟨⟨by rw [hF2.1]; exact Nat.le_refl _, Or.inl (by rw [hF2.1])⟩, ?_⟩
        have hk2 := rdK_F hk hF2
        exact z_vret (pc := 56) rfl rfl ⟨rfl, hF2, by unfold newS; rw [if_pos h5, show resO (tkw T n q) = 0 from by rw [← rS_w hq, hw]; rfl, if_pos rfl, if_neg (fun e => absurd (by rw [if_pos e] at h44; exact h44) (by decide))]; exact hS2⟩
      · refine z_aload_n (pc := 47) (i := 0) (j := 0) rfl rfl rfl ?_
        refine z_iconst (pc := 48) (v := 3) rfl (by decide) ?_
        refine z_cV (pc := 49) (mc1 := 0) (ms1 := 0) (mc2 := 0) (ms2 := 0) (as := [.int 3]) (rest := []) (o := 3) rfl rfl hk.1 ok_Reader_wrong rfl rfl cl_Reader_122 (by omega) (Nat.le_of_ble_eq_true rfl) (Nat.le_of_ble_eq_true rfl) (Nat.le_refl _) (Nat.le_refl _) (c_Reader_wrong3 hk q hq 1 (by decide)) (fun r1 w1 hp => ?_) rfl rfl
        obtain ⟨rfl, hF1, hS1⟩ := hp
        refine ⟨⟨by rw [hF1.1]; exact Nat.le_refl _, Or.inl (by rw [hF1.1])⟩, ?_⟩
        have hk1 := rdK_F hk hF1
        refine z_aload_n (pc := 52) (i := 0) (j := 0) rfl rfl rfl ?_
        refine z_cV (pc := 53) (mc1 := 0) (ms1 := 0) (mc2 := 0) (ms2 := 0) (as := []) (rest := []) (o := 3) rfl rfl hk1.1 ok_Reader_next rfl rfl cl_Reader_58 (by omega) (Nat.le_of_ble_eq_true rfl) (Nat.le_of_ble_eq_true rfl) (Nat.le_refl _) (Nat.le_refl _) (c_Reader_next hk1 _ hS1 4 (by decide)) (fun r1 w2 hp => ?_) rfl rfl
        obtain ⟨rfl, hF2, hS2⟩ := hp
        refine ⟨⟨by rw [hF2.1]; exact Nat.le_refl _, Or.inl (by rw [hF2.1])⟩, ?_⟩
        have hk2 := rdK_F hk1 hF2
        exact z_vret (pc := 56) rfl rfl ⟨rfl, rF_t hF1 hF2, by unfold newS; rw [if_pos h5, show resO (tkw T n q) = 0 from by rw [← rS_w hq, hw]; rfl, if_pos rfl, if_pos (Decidable.byContradiction (fun e => h44 (if_neg e))), ← nxt_wrg]; exact hS2⟩
  | some a =>
    have ha := tkw_c ((rS_w hq).symm.trans hw)
    refine z_aload_n (pc := 0) (i := 0) (j := 0) rfl rfl rfl ?_
    refine z_getI (pc := 1) rfl fl_Reader_61 hk.1 rfl ?_
    refine z_eqi (y := tkc T n q) (rS_c hq) ?_
    refine z_iconst (pc := 4) (v := 3) rfl (by decide) ?_
    refine z_icmp_ne (pc := 5) (tgt := 25) rfl (by decide) (fun h5 => ?_) (fun h5 => ?_)
    · refine z_aload_n (pc := 25) (i := 0) (j := 0) rfl rfl rfl ?_
      refine z_iconst (pc := 26) (v := 1) rfl (by decide) ?_
      refine z_cV (pc := 27) (mc1 := 0) (ms1 := 0) (mc2 := 0) (ms2 := 0) (as := [.int 1]) (rest := []) (o := 3) rfl rfl hk.1 ok_Reader_wrong rfl rfl cl_Reader_122 (by omega) (Nat.le_of_ble_eq_true rfl) (Nat.le_of_ble_eq_true rfl) (Nat.le_refl _) (Nat.le_refl _) (c_Reader_wrong1 hk q hq 1 (by decide)) (fun r1 w1 hp => ?_) rfl rfl
      obtain ⟨rfl, hF1, hS1⟩ := hp
      refine ⟨⟨by rw [hF1.1]; exact Nat.le_refl _, Or.inl (by rw [hF1.1])⟩, ?_⟩
      have hk1 := rdK_F hk hF1
      refine z_goto (pc := 30) (tgt := 52) rfl (by decide) ?_
      refine z_aload_n (pc := 52) (i := 0) (j := 0) rfl rfl rfl ?_
      refine z_cV (pc := 53) (mc1 := 0) (ms1 := 0) (mc2 := 0) (ms2 := 0) (as := []) (rest := []) (o := 3) rfl rfl hk1.1 ok_Reader_next rfl rfl cl_Reader_58 (by omega) (Nat.le_of_ble_eq_true rfl) (Nat.le_of_ble_eq_true rfl) (Nat.le_refl _) (Nat.le_refl _) (c_Reader_next hk1 _ hS1 4 (by decide)) (fun r1 w2 hp => ?_) rfl rfl
      obtain ⟨rfl, hF2, hS2⟩ := hp
      refine ⟨⟨by rw [hF2.1]; exact Nat.le_refl _, Or.inl (by rw [hF2.1])⟩, ?_⟩
      have hk2 := rdK_F hk1 hF2
      exact z_vret (pc := 56) rfl rfl ⟨rfl, rF_t hF1 hF2, by unfold newS; rw [if_neg h5, ← nxt_wrg]; exact hS2⟩
    · refine z_aload_n (pc := 8) (i := 0) (j := 0) rfl rfl rfl ?_
      refine z_getR (pc := 9) (x := a) rfl fl_Reader_67 hk.1 rfl hw ?_
      refine z_ifnull (pc := 12) rfl ?_
      refine z_aload_n (pc := 15) (i := 0) (j := 0) rfl rfl rfl ?_
      refine z_getR (pc := 16) (x := a) rfl fl_Reader_67 hk.1 rfl hw ?_
      refine z_word (pc := 19) (g := zkr) (n1 := "reserved") (d1 := "Z") rfl (by simp [zkF]) gl_Reader_173 ha ?_
      refine z_if_eq (pc := 22) (tgt := 33) rfl (by decide) (fun h22 => ?_) (fun h22 => ?_)
      · refine z_aload_n (pc := 33) (i := 0) (j := 0) rfl rfl rfl ?_
        refine z_getR (pc := 34) (x := s) rfl fl_Reader_21 hk.1 rfl hk.2.2.1 ?_
        refine z_aload_n (pc := 37) (i := 0) (j := 0) rfl rfl rfl ?_
        refine z_getL (pc := 38) rfl fl_Reader_137 hk.1 rfl ?_
        refine z_eql (y := keyS T n q) (rS_k hq h5) ?_
        refine z_cV (pc := 41) (mc1 := 0) (ms1 := 0) (mc2 := 0) (ms2 := 0) (as := [.long (keyS T n q)]) (rest := []) (o := s) rfl rfl hk.2.2.2.2.2.2.1.1 ok_Street_hasName rfl rfl cl_Reader_176 (by omega) (Nat.le_of_ble_eq_true rfl) (Nat.le_of_ble_eq_true rfl) (Nat.le_refl _) (Nat.le_refl _) (c_Street_hasName hk.2.2.2.2.2.2.1 hH hH8 (keyS T n q) 0) (fun r1 w1 hp => ?_) rfl rfl
        obtain ⟨rfl, hw1⟩ := hp
        rw [hw1]
        refine ⟨⟨Nat.le_refl _, Or.inl rfl⟩, ?_⟩
        refine z_if_eq (pc := 44) (tgt := 52) rfl (by decide) (fun h44 => ?_) (fun h44 => ?_)
        · refine z_aload_n (pc := 52) (i := 0) (j := 0) rfl rfl rfl ?_
          refine z_cV (pc := 53) (mc1 := 0) (ms1 := 0) (mc2 := 0) (ms2 := 0) (as := []) (rest := []) (o := 3) rfl rfl hk.1 ok_Reader_next rfl rfl cl_Reader_58 (by omega) (Nat.le_of_ble_eq_true rfl) (Nat.le_of_ble_eq_true rfl) (Nat.le_refl _) (Nat.le_refl _) (c_Reader_next hk q hq 4 (by decide)) (fun r1 w2 hp => ?_) rfl rfl
          obtain ⟨rfl, hF2, hS2⟩ := hp
          refine ⟨⟨by rw [hF2.1]; exact Nat.le_refl _, Or.inl (by rw [hF2.1])⟩, ?_⟩
          have hk2 := rdK_F hk hF2
          exact z_vret (pc := 56) rfl rfl ⟨rfl, hF2, by unfold newS; rw [if_pos h5, show resO (tkw T n q) = zkr.getD (a - 1000000) 0 from by rw [← rS_w hq, hw]; rfl, if_pos h22, if_neg (fun e => absurd (by rw [if_pos e] at h44; exact h44) (by decide))]; exact hS2⟩
        · refine z_aload_n (pc := 47) (i := 0) (j := 0) rfl rfl rfl ?_
          refine z_iconst (pc := 48) (v := 3) rfl (by decide) ?_
          refine z_cV (pc := 49) (mc1 := 0) (ms1 := 0) (mc2 := 0) (ms2 := 0) (as := [.int 3]) (rest := []) (o := 3) rfl rfl hk.1 ok_Reader_wrong rfl rfl cl_Reader_122 (by omega) (Nat.le_of_ble_eq_true rfl) (Nat.le_of_ble_eq_true rfl) (Nat.le_refl _) (Nat.le_refl _) (c_Reader_wrong3 hk q hq 1 (by decide)) (fun r1 w1 hp => ?_) rfl rfl
          obtain ⟨rfl, hF1, hS1⟩ := hp
          refine ⟨⟨by rw [hF1.1]; exact Nat.le_refl _, Or.inl (by rw [hF1.1])⟩, ?_⟩
          have hk1 := rdK_F hk hF1
          refine z_aload_n (pc := 52) (i := 0) (j := 0) rfl rfl rfl ?_
          refine z_cV (pc := 53) (mc1 := 0) (ms1 := 0) (mc2 := 0) (ms2 := 0) (as := []) (rest := []) (o := 3) rfl rfl hk1.1 ok_Reader_next rfl rfl cl_Reader_58 (by omega) (Nat.le_of_ble_eq_true rfl) (Nat.le_of_ble_eq_true rfl) (Nat.le_refl _) (Nat.le_refl _) (c_Reader_next hk1 _ hS1 4 (by decide)) (fun r1 w2 hp => ?_) rfl rfl
          obtain ⟨rfl, hF2, hS2⟩ := hp
          refine ⟨⟨by rw [hF2.1]; exact Nat.le_refl _, Or.inl (by rw [hF2.1])⟩, ?_⟩
          have hk2 := rdK_F hk1 hF2
          exact z_vret (pc := 56) rfl rfl ⟨rfl, rF_t hF1 hF2, by unfold newS; rw [if_pos h5, show resO (tkw T n q) = zkr.getD (a - 1000000) 0 from by rw [← rS_w hq, hw]; rfl, if_pos h22, if_pos (Decidable.byContradiction (fun e => h44 (if_neg e))), ← nxt_wrg]; exact hS2⟩
      · refine z_aload_n (pc := 25) (i := 0) (j := 0) rfl rfl rfl ?_
        refine z_iconst (pc := 26) (v := 1) rfl (by decide) ?_
        refine z_cV (pc := 27) (mc1 := 0) (ms1 := 0) (mc2 := 0) (ms2 := 0) (as := [.int 1]) (rest := []) (o := 3) rfl rfl hk.1 ok_Reader_wrong rfl rfl cl_Reader_122 (by omega) (Nat.le_of_ble_eq_true rfl) (Nat.le_of_ble_eq_true rfl) (Nat.le_refl _) (Nat.le_refl _) (c_Reader_wrong1 hk q hq 1 (by decide)) (fun r1 w1 hp => ?_) rfl rfl
        obtain ⟨rfl, hF1, hS1⟩ := hp
        refine ⟨⟨by rw [hF1.1]; exact Nat.le_refl _, Or.inl (by rw [hF1.1])⟩, ?_⟩
        have hk1 := rdK_F hk hF1
        refine z_goto (pc := 30) (tgt := 52) rfl (by decide) ?_
        refine z_aload_n (pc := 52) (i := 0) (j := 0) rfl rfl rfl ?_
        refine z_cV (pc := 53) (mc1 := 0) (ms1 := 0) (mc2 := 0) (ms2 := 0) (as := []) (rest := []) (o := 3) rfl rfl hk1.1 ok_Reader_next rfl rfl cl_Reader_58 (by omega) (Nat.le_of_ble_eq_true rfl) (Nat.le_of_ble_eq_true rfl) (Nat.le_refl _) (Nat.le_refl _) (c_Reader_next hk1 _ hS1 4 (by decide)) (fun r1 w2 hp => ?_) rfl rfl
        obtain ⟨rfl, hF2, hS2⟩ := hp
        refine ⟨⟨by rw [hF2.1]; exact Nat.le_refl _, Or.inl (by rw [hF2.1])⟩, ?_⟩
        have hk2 := rdK_F hk1 hF2
        exact z_vret (pc := 56) rfl rfl ⟨rfl, rF_t hF1 hF2, by unfold newS; rw [if_pos h5, show resO (tkw T n q) = zkr.getD (a - 1000000) 0 from by rw [← rS_w hq, hw]; rfl, if_neg h22, ← nxt_wrg]; exact hS2⟩
