/-! THE OBJECT'S ASKS: a pair, a sight -/
def ppN (i j : Nat) : Nat := 8 * (if j < i then j else i) + (if i < j then j else i)
theorem ppN_v {i j : Nat} (hi : i < 8) (hj : j < 8) : ((if nI j < nI i then nI j else nI i) * 8) + (if nI i < nI j then nI j else nI i) = nI (ppN i j) := by
  unfold ppN
  have e1 := nI_ltI (a := j) (b := i) (by omega) (by omega)
  have e2 := nI_ltI (a := i) (b := j) (by omega) (by omega)
  simp only [e1, e2]
  rw [show (8 : Int32) = nI 8 from rfl]
  by_cases h1 : j < i
  · rw [if_pos h1, if_neg (by omega), if_pos h1, if_neg (by omega), pk_mul, nI_add, Nat.mul_comm]
  · rw [if_neg h1, if_neg h1]
    by_cases h2 : i < j
    · rw [if_pos h2, if_pos h2, pk_mul, nI_add, Nat.mul_comm]
    · rw [if_neg h2, if_neg h2, pk_mul, nI_add, Nat.mul_comm]
theorem ppN_lt {i j : Nat} (hi : i < 8) (hj : j < 8) : ppN i j < 64 := by
  unfold ppN
  split <;> split <;> omega
def pairV (f : Nat → Nat → Int32) (a b x : Int32) : Int32 := if x = 0 then f 23 (ppN a.toNatClampNeg b.toNatClampNeg) else if x = 1 then f 24 (ppN a.toNatClampNeg b.toNatClampNeg) else -1
set_option maxRecDepth 100000 in
set_option maxHeartbeats 4000000 in
theorem c_SW_pair {w : zW} {s C R H : Nat} {F G : Int32 → Int32 → Int32 → Int32} (hx : zX w s) (hi : zXi (zI w) s C R H F G) (a b x : Int32) (d : Nat) (hd : 2 ≤ d) : zS 0 0 d m_SW_pair (fun rv w1 => rv = some (.int (if twoOK H a b = 0 then -1 else pairV (zI w) a b x)) ∧ w1 = w) 0 [(0, .ref 0), (1, .int a), (2, .int b), (3, .int x)] [] w := by
  refine z_aload_n (pc := 0) (i := 0) (j := 0) rfl rfl rfl ?_
  refine z_iload_n (pc := 1) (i := 1) (j := 1) rfl rfl rfl ?_
  refine z_iload_n (pc := 2) (i := 2) (j := 2) rfl rfl rfl ?_
  refine z_cV (pc := 3) (mc1 := 0) (ms1 := 0) (mc2 := 0) (ms2 := 0) (as := [.int a, .int b]) (rest := []) (o := 0) rfl rfl hx.1 ok_SW_areTwo rfl rfl cl_SW_143 (by omega) (Nat.le_of_ble_eq_true rfl) (Nat.le_of_ble_eq_true rfl) (Nat.le_refl _) (Nat.le_refl _) (c_SW_areTwo (w := w) hx hi.2.2.1 hi.2.2.2.2.2.1 a b 1 (by decide)) (fun r1 w1 hp => ?_) rfl rfl
  obtain ⟨rfl, hw1⟩ := hp
  rw [hw1]
  refine ⟨⟨Nat.le_refl _, Or.inl rfl⟩, ?_⟩
  refine z_if_ne (pc := 6) (tgt := 11) rfl (by decide) (fun h6 => ?_) (fun h6 => ?_)
  · have h2n := h6
    obtain ⟨i, j, hi1, hj1, rfl, rfl, hij⟩ := twoOK_of hi.2.2.2.2.2.1 h6
    have hH8 := hi.2.2.2.2.2.1
    refine z_iload_n (pc := 11) (i := 1) (j := 1) rfl rfl rfl ?_
    refine z_iload_n (pc := 12) (i := 2) (j := 2) rfl rfl rfl ?_
    refine z_cS (pc := 13) (mc1 := 0) (ms1 := 0) (mc2 := 0) (ms2 := 0) (as := [.int (nI i), .int (nI j)]) (rest := []) ok_SW_pairPlace rfl rfl cl_SW_146 (by omega) (Nat.le_of_ble_eq_true rfl) (Nat.le_of_ble_eq_true rfl) (Nat.le_refl _) (Nat.le_refl _) (c_SW_pairPlace (nI i) (nI j) 1 (by decide) _) (fun r1 w1 hp => ?_) rfl rfl
    obtain ⟨rfl, hw1⟩ := hp
    rw [hw1, ppN_v (by omega) (by omega)]
    refine ⟨⟨Nat.le_refl _, Or.inl rfl⟩, ?_⟩
    refine z_istore (pc := 16) (i := 4) (ls' := [(0, .ref 0), (1, .int (nI i)), (2, .int (nI j)), (3, .int x), (4, .int (nI (ppN i j)))]) rfl (by decide) rfl ?_
    refine z_iload_n (pc := 18) (i := 3) (j := 3) rfl rfl rfl ?_
    refine z_if_ne (pc := 19) (tgt := 33) rfl (by decide) (fun h19 => ?_) (fun h19 => ?_)
    · refine z_iload_n (pc := 33) (i := 3) (j := 3) rfl rfl rfl ?_
      refine z_iconst (pc := 34) (v := 1) rfl (by decide) ?_
      refine z_icmp_ne (pc := 35) (tgt := 51) rfl (by decide) (fun h35 => ?_) (fun h35 => ?_)
      · refine z_iconst (pc := 51) (v := (-1)) rfl (by decide) ?_
        exact z_iret (pc := 52) rfl rfl ⟨by unfold pairV; rw [if_neg h2n, if_neg h19, if_neg h35], rfl⟩
      · refine z_aload_n (pc := 38) (i := 0) (j := 0) rfl rfl rfl ?_
        refine z_getR (pc := 39) (x := 21) rfl fl_SW_31 hx.1 rfl hx.2.2.2.2.1 ?_
        refine z_getR (pc := 42) (x := 24) rfl fl_SW_152 hx.2.2.2.2.2.2.2.2.2.2.2.2.1.1 rfl hx.2.2.2.2.2.2.2.2.2.2.2.2.1.2.2.2.2.2.2.2.2.2.2.2.1 ?_
        refine z_iload (pc := 45) (i := 4) (j := 4) rfl rfl ?_
        refine z_iald (pc := 47) rfl hx.2.2.2.2.2.2.2.2.2.2.2.2.1.2.2.2.1 (vp_in_nI (ppN_lt (i := i) (j := j) (by omega) (by omega)) (by decide)) ?_
        refine z_eqi (y := zI w 24 (ppN i j)) (by rw [nI_clamp (n := ppN i j) (by have := ppN_lt (i := i) (j := j) (by omega) (by omega); omega)]) ?_
        refine z_goto (pc := 48) (tgt := 52) rfl (by decide) ?_
        exact z_iret (pc := 52) rfl rfl ⟨by unfold pairV; rw [if_neg h2n, if_neg h19, if_pos h35, nI_clamp (n := i) (by omega), nI_clamp (n := j) (by omega)], rfl⟩
    · refine z_aload_n (pc := 22) (i := 0) (j := 0) rfl rfl rfl ?_
      refine z_getR (pc := 23) (x := 21) rfl fl_SW_31 hx.1 rfl hx.2.2.2.2.1 ?_
      refine z_getR (pc := 26) (x := 23) rfl fl_SW_149 hx.2.2.2.2.2.2.2.2.2.2.2.2.1.1 rfl hx.2.2.2.2.2.2.2.2.2.2.2.2.1.2.2.2.2.2.2.2.2.2.2.1 ?_
      refine z_iload (pc := 29) (i := 4) (j := 4) rfl rfl ?_
      refine z_iald (pc := 31) rfl hx.2.2.2.2.2.2.2.2.2.2.2.2.1.2.2.1 (vp_in_nI (ppN_lt (i := i) (j := j) (by omega) (by omega)) (by decide)) ?_
      refine z_eqi (y := zI w 23 (ppN i j)) (by rw [nI_clamp (n := ppN i j) (by have := ppN_lt (i := i) (j := j) (by omega) (by omega); omega)]) ?_
      exact z_iret (pc := 32) rfl rfl ⟨by unfold pairV; rw [if_neg h2n, if_pos h19, nI_clamp (n := i) (by omega), nI_clamp (n := j) (by omega)], rfl⟩
  · refine z_iconst (pc := 9) (v := (-1)) rfl (by decide) ?_
    exact z_iret (pc := 10) rfl rfl ⟨by rw [if_pos h6], rfl⟩
set_option maxRecDepth 100000 in
set_option maxHeartbeats 4000000 in
theorem c_SW_sight {w : zW} {s C R H : Nat} {F G : Int32 → Int32 → Int32 → Int32} (hx : zX w s) (hi : zXi (zI w) s C R H F G) {n : Nat} (hn : zI w 21 12 = nI n) (hn1 : n ≤ 10) (a b t : Int32) (d : Nat) (hd : 2 ≤ d) : zS 0 0 d m_SW_sight (fun rv w1 => rv = some (.int (if twoOK H a b = 0 then -1 else if n < 10 then nI (n + 1) else -1)) ∧ w1 = if twoOK H a b = 0 then w else if n < 10 then zuI w (z2 (z2 (z2 (z2 (zI w) 27 n a) 28 n b) 29 n (if t = 0 then 0 else 1)) 21 12 (nI (n + 1))) else w) 0 [(0, .ref 0), (1, .int a), (2, .int b), (3, .int t)] [] w := by
  refine z_aload_n (pc := 0) (i := 0) (j := 0) rfl rfl rfl ?_
  refine z_iload_n (pc := 1) (i := 1) (j := 1) rfl rfl rfl ?_
  refine z_iload_n (pc := 2) (i := 2) (j := 2) rfl rfl rfl ?_
  refine z_cV (pc := 3) (mc1 := 0) (ms1 := 0) (mc2 := 0) (ms2 := 0) (as := [.int a, .int b]) (rest := []) (o := 0) rfl rfl hx.1 ok_SW_areTwo rfl rfl cl_SW_143 (by omega) (Nat.le_of_ble_eq_true rfl) (Nat.le_of_ble_eq_true rfl) (Nat.le_refl _) (Nat.le_refl _) (c_SW_areTwo (w := w) hx hi.2.2.1 hi.2.2.2.2.2.1 a b 1 (by decide)) (fun r1 w1 hp => ?_) rfl rfl
  obtain ⟨rfl, hw1⟩ := hp
  rw [hw1]
  refine ⟨⟨Nat.le_refl _, Or.inl rfl⟩, ?_⟩
  refine z_if_eq (pc := 6) (tgt := 21) rfl (by decide) (fun h6 => ?_) (fun h6 => ?_)
  · refine z_iconst (pc := 21) (v := (-1)) rfl (by decide) ?_
    exact z_iret (pc := 22) rfl rfl ⟨by rw [if_pos h6], by rw [if_pos h6]⟩
  · refine z_aload_n (pc := 9) (i := 0) (j := 0) rfl rfl rfl ?_
    refine z_getR (pc := 10) (x := 21) rfl fl_SW_31 hx.1 rfl hx.2.2.2.2.1 ?_
    refine z_getI (pc := 13) rfl fl_SW_198 hx.2.2.2.2.2.2.2.2.2.2.2.2.1.1 rfl ?_
    refine z_eqi (y := nI n) hn ?_
    refine z_bipush (pc := 16) (v := 10) rfl (by decide) ?_
    refine z_icmp_lt (pc := 18) (tgt := 23) rfl (by decide) (fun h18 => ?_) (fun h18 => ?_)
    · have hn2 : n < 10 := (nI_ltI (b := 10) (by omega) (by decide)).mp h18
      refine z_aload_n (pc := 23) (i := 0) (j := 0) rfl rfl rfl ?_
      refine z_getR (pc := 24) (x := 21) rfl fl_SW_31 hx.1 rfl hx.2.2.2.2.1 ?_
      refine z_iload_n (pc := 27) (i := 1) (j := 1) rfl rfl rfl ?_
      refine z_iload_n (pc := 28) (i := 2) (j := 2) rfl rfl rfl ?_
      refine z_iload_n (pc := 29) (i := 3) (j := 3) rfl rfl rfl ?_
      refine z_cV (pc := 30) (mc1 := 0) (ms1 := 0) (mc2 := 0) (ms2 := 0) (as := [.int a, .int b, .int t]) (rest := []) (o := 21) rfl rfl hx.2.2.2.2.2.2.2.2.2.2.2.2.1.1 ok_Life_addSight rfl rfl cl_SW_201 (by omega) (Nat.le_of_ble_eq_true rfl) (Nat.le_of_ble_eq_true rfl) (Nat.le_refl _) (Nat.le_refl _) (c_Life_addSight (w := w) (l := 21) (hx.2.2.2.2.2.2.2.2.2.2.2.2.1) hn hn2 a b t 0) (fun r1 w1 hp => ?_) rfl rfl
      obtain ⟨rfl, hw1⟩ := hp
      rw [hw1]
      refine ⟨⟨Nat.le_refl _, Or.inl rfl⟩, ?_⟩
      refine z_aload_n (pc := 33) (i := 0) (j := 0) rfl rfl rfl ?_
      refine z_getR (pc := 34) (x := 21) rfl fl_SW_31 hx.1 rfl hx.2.2.2.2.1 ?_
      refine z_getI (pc := 37) rfl fl_SW_198 hx.2.2.2.2.2.2.2.2.2.2.2.2.1.1 rfl ?_
      refine z_eqi (y := nI (n + 1)) rfl ?_
      exact z_iret (pc := 40) rfl rfl ⟨by rw [if_neg h6, if_pos hn2], by rw [if_neg h6, if_pos hn2]⟩
    · refine z_iconst (pc := 21) (v := (-1)) rfl (by decide) ?_
      exact z_iret (pc := 22) rfl rfl ⟨by rw [if_neg h6, if_neg (fun z => h18 (nI_lt (b := 10) z (by decide)))], by rw [if_neg h6, if_neg (fun z => h18 (nI_lt (b := 10) z (by decide)))]⟩
