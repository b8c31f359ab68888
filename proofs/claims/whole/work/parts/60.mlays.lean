/-! MOVES, COPIES, LAYS of the model -/
theorem put_rd {g : Nat → Int32} {n fr to i : Nat} (hi : i < n) (h : fr ≠ to) : fb_put g (fun k => g (n * fr + k)) (n * to) i (n * fr + i) = g (n * fr + i) := by
  refine fb_put_out ?_
  rcases Nat.lt_or_gt_of_ne h with h | h
  · left
    have := Nat.mul_le_mul_left n (show fr + 1 ≤ to from h)
    rw [Nat.mul_add, Nat.mul_one] at this
    omega
  · right
    have := Nat.mul_le_mul_left n (show to + 1 ≤ fr from h)
    rw [Nat.mul_add, Nat.mul_one] at this
    omega
set_option maxRecDepth 100000 in
set_option maxHeartbeats 4000000 in
theorem l_Mod_moves {w : zW} {o N : Nat} (ho : w.1[o]? = some (10, N)) {n fr to : Nat} (hN : N ≤ 10000) (h1 : n * fr + n ≤ N) (h2 : n * to + n ≤ N) (hft : fr ≠ to) (d : Nat) : ∀ (m i : Nat), i ≤ n → n ≤ i + m → zS 0 0 d m_Mod_moves (fun rv w1 => rv = none ∧ w1 = zuI w (zr (zI w) o (fb_put (zI w o) (fun k => zI w o (n * fr + k)) (n * to) n))) 3 [(0, .ref o), (1, .int (nI n)), (2, .int (nI fr)), (3, .int (nI to)), (4, .int (nI i))] [] (zuI w (zr (zI w) o (fb_put (zI w o) (fun k => zI w o (n * fr + k)) (n * to) i))) := by
  have hnn : n ≤ N := by omega
  have hex : zS 0 0 d m_Mod_moves (fun rv w1 => rv = none ∧ w1 = zuI w (zr (zI w) o (fb_put (zI w o) (fun k => zI w o (n * fr + k)) (n * to) n))) 3 [(0, .ref o), (1, .int (nI n)), (2, .int (nI fr)), (3, .int (nI to)), (4, .int (nI n))] [] (zuI w (zr (zI w) o (fb_put (zI w o) (fun k => zI w o (n * fr + k)) (n * to) n))) := by
    refine z_iload (pc := 3) (i := 4) (j := 4) rfl rfl ?_
    refine z_iload_n (pc := 5) (i := 1) (j := 1) rfl rfl rfl ?_
    refine z_icmp_ge (pc := 6) (tgt := 31) rfl (by decide) (fun h6 => ?_) (fun h6 => ?_)
    · exact z_vret (pc := 31) rfl rfl ⟨rfl, rfl⟩
    · exact absurd (Int32.le_refl _) h6
  intro m
  induction m with
  | zero =>
    intro i hii hmm
    obtain rfl : i = n := by omega
    exact hex
  | succ m ih =>
    intro i hii hmm
    by_cases hlt : i < n
    · have kk := ih (i + 1) (by omega) (by omega)
      refine z_iload (pc := 3) (i := 4) (j := 4) rfl rfl ?_
      refine z_iload_n (pc := 5) (i := 1) (j := 1) rfl rfl rfl ?_
      refine z_icmp_ge (pc := 6) (tgt := 31) rfl (by decide) (fun h6 => ?_) (fun h6 => ?_)
      · exact absurd h6 (nI_ge (b := n) hlt (by omega))
      · refine z_aload_n (pc := 9) (i := 0) (j := 0) rfl rfl rfl ?_
        refine z_iload_n (pc := 10) (i := 1) (j := 1) rfl rfl rfl ?_
        refine z_iload_n (pc := 11) (i := 3) (j := 3) rfl rfl rfl ?_
        refine z_imul (pc := 12) rfl ?_
        refine z_iload (pc := 13) (i := 4) (j := 4) rfl rfl ?_
        refine z_iadd (pc := 15) rfl ?_
        refine z_eqi (y := nI (n * to + i)) (by rw [pk_mul, nI_add]) ?_
        refine z_aload_n (pc := 16) (i := 0) (j := 0) rfl rfl rfl ?_
        refine z_iload_n (pc := 17) (i := 1) (j := 1) rfl rfl rfl ?_
        refine z_iload_n (pc := 18) (i := 2) (j := 2) rfl rfl rfl ?_
        refine z_imul (pc := 19) rfl ?_
        refine z_iload (pc := 20) (i := 4) (j := 4) rfl rfl ?_
        refine z_iadd (pc := 22) rfl ?_
        refine z_eqi (y := nI (n * fr + i)) (by rw [pk_mul, nI_add]) ?_
        refine z_iald (pc := 23) rfl ho (vp_in_nI (show n * fr + i < N by omega) (by omega)) ?_
        refine z_eqi (y := zI w o (n * fr + i)) (by rw [nI_clamp (by omega)]; exact (zr_hu w (zI w) o _ _).trans (put_rd hlt hft)) ?_
        refine z_iast (pc := 24) rfl ho (vp_in_nI (show n * to + i < N by omega) (by omega)) ?_
        refine z_iinc (pc := 25) (i := 4) (j := 4) (v := nI (i + 1)) (ls' := [(0, .ref o), (1, .int (nI n)), (2, .int (nI fr)), (3, .int (nI to)), (4, .int (nI (i + 1)))]) rfl rfl (nI_1 i) (by decide) rfl ?_
        refine z_goto (pc := 28) (tgt := 3) rfl (by decide) ?_
        rw [nI_clamp (by omega), zs_zr, show zI w o (n * fr + i) = (fun k => zI w o (n * fr + k)) i from rfl, fb_put_succ]
        exact kk
    · obtain rfl : i = n := by omega
      exact hex
set_option maxRecDepth 100000 in
set_option maxHeartbeats 4000000 in
theorem c_Mod_moves {w : zW} {o N : Nat} (ho : w.1[o]? = some (10, N)) {n fr to : Nat} (hN : N ≤ 10000) (h1 : n * fr + n ≤ N) (h2 : n * to + n ≤ N) (hft : fr ≠ to) (d : Nat) : zS 0 0 d m_Mod_moves (fun rv w1 => rv = none ∧ w1 = zuI w (zr (zI w) o (fb_put (zI w o) (fun k => zI w o (n * fr + k)) (n * to) n))) 0 [(0, .ref o), (1, .int (nI n)), (2, .int (nI fr)), (3, .int (nI to))] [] w := by
  refine z_iconst (pc := 0) (v := nI 0) rfl rfl ?_
  refine z_istore (pc := 1) (i := 4) (ls' := [(0, .ref o), (1, .int (nI n)), (2, .int (nI fr)), (3, .int (nI to)), (4, .int (nI 0))]) rfl (by decide) rfl ?_
  have l := l_Mod_moves ho hN h1 h2 hft d n 0 (by omega) (by omega)
  rw [fb_put_0, zr_self] at l
  exact l
set_option maxRecDepth 100000 in
set_option maxHeartbeats 4000000 in
theorem l_Mod_copies {w : zW} {o q N M : Nat} (ho : w.1[o]? = some (10, N)) (hq : w.1[q]? = some (10, M)) (hoq : o ≠ q) {a b : Nat} (hN : N ≤ 10000) (hM : M ≤ 10000) (h1 : a + 1344 ≤ N) (h2 : b + 1344 ≤ M) (d : Nat) : ∀ (m i : Nat), i ≤ 1344 → 1344 ≤ i + m → zS 0 0 d m_Mod_copies (fun rv w1 => rv = none ∧ w1 = zuI w (zr (zI w) q (fb_put (zI w q) (fun k => zI w o (a + k)) b 1344))) 3 [(0, .ref o), (1, .int (nI a)), (2, .ref q), (3, .int (nI b)), (4, .int (nI i))] [] (zuI w (zr (zI w) q (fb_put (zI w q) (fun k => zI w o (a + k)) b i))) := by
  have hex : zS 0 0 d m_Mod_copies (fun rv w1 => rv = none ∧ w1 = zuI w (zr (zI w) q (fb_put (zI w q) (fun k => zI w o (a + k)) b 1344))) 3 [(0, .ref o), (1, .int (nI a)), (2, .ref q), (3, .int (nI b)), (4, .int (nI 1344))] [] (zuI w (zr (zI w) q (fb_put (zI w q) (fun k => zI w o (a + k)) b 1344))) := by
    refine z_iload (pc := 3) (i := 4) (j := 4) rfl rfl ?_
    refine z_sipush (pc := 5) (v := 1344) rfl (by decide) ?_
    refine z_icmp_ge (pc := 8) (tgt := 29) rfl (by decide) (fun h8 => ?_) (fun h8 => ?_)
    · exact z_vret (pc := 29) rfl rfl ⟨rfl, rfl⟩
    · exact absurd (by decide) h8
  intro m
  induction m with
  | zero =>
    intro i hii hmm
    obtain rfl : i = 1344 := by omega
    exact hex
  | succ m ih =>
    intro i hii hmm
    by_cases hlt : i < 1344
    · have kk := ih (i + 1) (by omega) (by omega)
      refine z_iload (pc := 3) (i := 4) (j := 4) rfl rfl ?_
      refine z_sipush (pc := 5) (v := 1344) rfl (by decide) ?_
      refine z_icmp_ge (pc := 8) (tgt := 29) rfl (by decide) (fun h8 => ?_) (fun h8 => ?_)
      · exact absurd h8 (nI_ge (b := 1344) hlt (by decide))
      · refine z_aload_n (pc := 11) (i := 2) (j := 2) rfl rfl rfl ?_
        refine z_iload_n (pc := 12) (i := 3) (j := 3) rfl rfl rfl ?_
        refine z_iload (pc := 13) (i := 4) (j := 4) rfl rfl ?_
        refine z_iadd (pc := 15) rfl ?_
        refine z_eqi (y := nI (b + i)) (nI_add b i) ?_
        refine z_aload_n (pc := 16) (i := 0) (j := 0) rfl rfl rfl ?_
        refine z_iload_n (pc := 17) (i := 1) (j := 1) rfl rfl rfl ?_
        refine z_iload (pc := 18) (i := 4) (j := 4) rfl rfl ?_
        refine z_iadd (pc := 20) rfl ?_
        refine z_eqi (y := nI (a + i)) (nI_add a i) ?_
        refine z_iald (pc := 21) rfl ho (vp_in_nI (show a + i < N by omega) (by omega)) ?_
        refine z_eqi (y := zI w o (a + i)) (by rw [nI_clamp (by omega)]; exact congrFun (zr_u w (zI w) _ (o := q) (a := o) hoq) _) ?_
        refine z_iast (pc := 22) rfl hq (vp_in_nI (show b + i < M by omega) (by omega)) ?_
        refine z_iinc (pc := 23) (i := 4) (j := 4) (v := nI (i + 1)) (ls' := [(0, .ref o), (1, .int (nI a)), (2, .ref q), (3, .int (nI b)), (4, .int (nI (i + 1)))]) rfl rfl (nI_1 i) (by decide) rfl ?_
        refine z_goto (pc := 26) (tgt := 3) rfl (by decide) ?_
        rw [nI_clamp (by omega), zs_zr, show zI w o (a + i) = (fun k => zI w o (a + k)) i from rfl, fb_put_succ]
        exact kk
    · obtain rfl : i = 1344 := by omega
      exact hex
set_option maxRecDepth 100000 in
set_option maxHeartbeats 4000000 in
theorem c_Mod_copies {w : zW} {o q N M : Nat} (ho : w.1[o]? = some (10, N)) (hq : w.1[q]? = some (10, M)) (hoq : o ≠ q) {a b : Nat} (hN : N ≤ 10000) (hM : M ≤ 10000) (h1 : a + 1344 ≤ N) (h2 : b + 1344 ≤ M) (d : Nat) : zS 0 0 d m_Mod_copies (fun rv w1 => rv = none ∧ w1 = zuI w (zr (zI w) q (fb_put (zI w q) (fun k => zI w o (a + k)) b 1344))) 0 [(0, .ref o), (1, .int (nI a)), (2, .ref q), (3, .int (nI b))] [] w := by
  refine z_iconst (pc := 0) (v := nI 0) rfl rfl ?_
  refine z_istore (pc := 1) (i := 4) (ls' := [(0, .ref o), (1, .int (nI a)), (2, .ref q), (3, .int (nI b)), (4, .int (nI 0))]) rfl (by decide) rfl ?_
  have l := l_Mod_copies ho hq hoq hN hM h1 h2 d 1344 0 (by omega) (by omega)
  rw [fb_put_0, zr_self] at l
  exact l
/-- the rows of a street moved from one place to another -/
def lay1 (f : Nat → Nat → Int32) (o n fr to : Nat) : Nat → Nat → Int32 := zr f o (fb_put (f o) (fun k => f o (n * fr + k)) (n * to) n)
theorem lay1_o (f : Nat → Nat → Int32) {o n fr to a : Nat} (h : a ≠ o) : lay1 f o n fr to a = f a := zr_o f (o := o) (a := a) _ h
theorem lay1_h (f : Nat → Nat → Int32) (o n fr to : Nat) : lay1 f o n fr to o = fb_put (f o) (fun k => f o (n * fr + k)) (n * to) n := zr_h f o _
def lay6 (f : Nat → Nat → Int32) (fr to : Nat) : Nat → Nat → Int32 := lay1 (lay1 (lay1 (lay1 (lay1 (lay1 f 46 5 fr to) 48 8 fr to) 49 8 fr to) 50 8 fr to) 51 8 fr to) 54 1000 fr to
def layL (f : Nat → Nat → Int32) (fr to : Nat) (k : Nat) : Nat → Nat → Int32 := z2 (z2 f 52 (2 * to + k) (f 52 (2 * fr + k) + 1000 * (nI to - nI fr))) 53 (2 * to + k) (f 53 (2 * fr + k) + 1000 * (nI to - nI fr))
def laysF (f : Nat → Nat → Int32) (fr to : Nat) : Nat → Nat → Int32 := layL (layL (lay6 f fr to) fr to 0) fr to 1
set_option maxRecDepth 100000 in
set_option maxHeartbeats 4000000 in
theorem c_Mod_lays {w : zW} (hm : zMo w) {fr to : Nat} (hfr : fr < 6) (hto : to < 6) (hft : fr ≠ to) (d : Nat) (hd : 1 ≤ d) : zS 0 0 d m_Mod_lays (fun rv w1 => rv = none ∧ w1 = zuI w (laysF (zI w) fr to)) 0 [(0, .ref 44), (1, .int (nI fr)), (2, .int (nI to))] [] w := by
  refine z_aload_n (pc := 0) (i := 0) (j := 0) rfl rfl rfl ?_
  refine z_getR (pc := 1) (x := 46) rfl fl_Mod_13 hm.1 rfl (mr_46 hm) ?_
  refine z_iconst (pc := 4) (v := 5) rfl (by decide) ?_
  refine z_iload_n (pc := 5) (i := 1) (j := 1) rfl rfl rfl ?_
  refine z_iload_n (pc := 6) (i := 2) (j := 2) rfl rfl rfl ?_
  refine z_cS (pc := 7) (mc1 := 0) (ms1 := 0) (mc2 := 0) (ms2 := 0) (as := [.ref 46, .int (nI 5), .int (nI fr), .int (nI to)]) (rest := []) ok_Mod_moves rfl rfl cl_Mod_259 (by omega) (Nat.le_of_ble_eq_true rfl) (Nat.le_of_ble_eq_true rfl) (Nat.le_refl _) (Nat.le_refl _) (c_Mod_moves (w := w) (o := 46) (N := 30) (mk_46 hm) (n := 5) (fr := fr) (to := to) (by decide) (by omega) (by omega) hft 0) (fun r1 w1 hp => ?_) rfl rfl
  obtain ⟨rfl, hw1⟩ := hp
  rw [hw1]
  refine ⟨⟨Nat.le_refl _, Or.inl rfl⟩, ?_⟩
  refine z_aload_n (pc := 10) (i := 0) (j := 0) rfl rfl rfl ?_
  refine z_getR (pc := 11) (x := 48) rfl fl_Mod_20 hm.1 rfl (mr_48 hm) ?_
  refine z_bipush (pc := 14) (v := 8) rfl (by decide) ?_
  refine z_iload_n (pc := 16) (i := 1) (j := 1) rfl rfl rfl ?_
  refine z_iload_n (pc := 17) (i := 2) (j := 2) rfl rfl rfl ?_
  refine z_cS (pc := 18) (mc1 := 0) (ms1 := 0) (mc2 := 0) (ms2 := 0) (as := [.ref 48, .int (nI 8), .int (nI fr), .int (nI to)]) (rest := []) ok_Mod_moves rfl rfl cl_Mod_259 (by omega) (Nat.le_of_ble_eq_true rfl) (Nat.le_of_ble_eq_true rfl) (Nat.le_refl _) (Nat.le_refl _) (c_Mod_moves (w := zuI w (lay1 (zI w) 46 5 fr to)) (o := 48) (N := 48) (mk_48 hm) (n := 8) (fr := fr) (to := to) (by decide) (by omega) (by omega) hft 0) (fun r1 w1 hp => ?_) rfl rfl
  obtain ⟨rfl, hw1⟩ := hp
  rw [hw1]
  refine ⟨⟨Nat.le_refl _, Or.inl rfl⟩, ?_⟩
  refine z_aload_n (pc := 21) (i := 0) (j := 0) rfl rfl rfl ?_
  refine z_getR (pc := 22) (x := 49) rfl fl_Mod_23 hm.1 rfl (mr_49 hm) ?_
  refine z_bipush (pc := 25) (v := 8) rfl (by decide) ?_
  refine z_iload_n (pc := 27) (i := 1) (j := 1) rfl rfl rfl ?_
  refine z_iload_n (pc := 28) (i := 2) (j := 2) rfl rfl rfl ?_
  refine z_cS (pc := 29) (mc1 := 0) (ms1 := 0) (mc2 := 0) (ms2 := 0) (as := [.ref 49, .int (nI 8), .int (nI fr), .int (nI to)]) (rest := []) ok_Mod_moves rfl rfl cl_Mod_259 (by omega) (Nat.le_of_ble_eq_true rfl) (Nat.le_of_ble_eq_true rfl) (Nat.le_refl _) (Nat.le_refl _) (c_Mod_moves (w := zuI w (lay1 (lay1 (zI w) 46 5 fr to) 48 8 fr to)) (o := 49) (N := 48) (mk_49 hm) (n := 8) (fr := fr) (to := to) (by decide) (by omega) (by omega) hft 0) (fun r1 w1 hp => ?_) rfl rfl
  obtain ⟨rfl, hw1⟩ := hp
  rw [hw1]
  refine ⟨⟨Nat.le_refl _, Or.inl rfl⟩, ?_⟩
  refine z_aload_n (pc := 32) (i := 0) (j := 0) rfl rfl rfl ?_
  refine z_getR (pc := 33) (x := 50) rfl fl_Mod_26 hm.1 rfl (mr_50 hm) ?_
  refine z_bipush (pc := 36) (v := 8) rfl (by decide) ?_
  refine z_iload_n (pc := 38) (i := 1) (j := 1) rfl rfl rfl ?_
  refine z_iload_n (pc := 39) (i := 2) (j := 2) rfl rfl rfl ?_
  refine z_cS (pc := 40) (mc1 := 0) (ms1 := 0) (mc2 := 0) (ms2 := 0) (as := [.ref 50, .int (nI 8), .int (nI fr), .int (nI to)]) (rest := []) ok_Mod_moves rfl rfl cl_Mod_259 (by omega) (Nat.le_of_ble_eq_true rfl) (Nat.le_of_ble_eq_true rfl) (Nat.le_refl _) (Nat.le_refl _) (c_Mod_moves (w := zuI w (lay1 (lay1 (lay1 (zI w) 46 5 fr to) 48 8 fr to) 49 8 fr to)) (o := 50) (N := 48) (mk_50 hm) (n := 8) (fr := fr) (to := to) (by decide) (by omega) (by omega) hft 0) (fun r1 w1 hp => ?_) rfl rfl
  obtain ⟨rfl, hw1⟩ := hp
  rw [hw1]
  refine ⟨⟨Nat.le_refl _, Or.inl rfl⟩, ?_⟩
  refine z_aload_n (pc := 43) (i := 0) (j := 0) rfl rfl rfl ?_
  refine z_getR (pc := 44) (x := 51) rfl fl_Mod_29 hm.1 rfl (mr_51 hm) ?_
  refine z_bipush (pc := 47) (v := 8) rfl (by decide) ?_
  refine z_iload_n (pc := 49) (i := 1) (j := 1) rfl rfl rfl ?_
  refine z_iload_n (pc := 50) (i := 2) (j := 2) rfl rfl rfl ?_
  refine z_cS (pc := 51) (mc1 := 0) (ms1 := 0) (mc2 := 0) (ms2 := 0) (as := [.ref 51, .int (nI 8), .int (nI fr), .int (nI to)]) (rest := []) ok_Mod_moves rfl rfl cl_Mod_259 (by omega) (Nat.le_of_ble_eq_true rfl) (Nat.le_of_ble_eq_true rfl) (Nat.le_refl _) (Nat.le_refl _) (c_Mod_moves (w := zuI w (lay1 (lay1 (lay1 (lay1 (zI w) 46 5 fr to) 48 8 fr to) 49 8 fr to) 50 8 fr to)) (o := 51) (N := 48) (mk_51 hm) (n := 8) (fr := fr) (to := to) (by decide) (by omega) (by omega) hft 0) (fun r1 w1 hp => ?_) rfl rfl
  obtain ⟨rfl, hw1⟩ := hp
  rw [hw1]
  refine ⟨⟨Nat.le_refl _, Or.inl rfl⟩, ?_⟩
  refine z_aload_n (pc := 54) (i := 0) (j := 0) rfl rfl rfl ?_
  refine z_getR (pc := 55) (x := 54) rfl fl_Mod_38 hm.1 rfl (mr_54 hm) ?_
  refine z_sipush (pc := 58) (v := 1000) rfl (by decide) ?_
  refine z_iload_n (pc := 61) (i := 1) (j := 1) rfl rfl rfl ?_
  refine z_iload_n (pc := 62) (i := 2) (j := 2) rfl rfl rfl ?_
  refine z_cS (pc := 63) (mc1 := 0) (ms1 := 0) (mc2 := 0) (ms2 := 0) (as := [.ref 54, .int (nI 1000), .int (nI fr), .int (nI to)]) (rest := []) ok_Mod_moves rfl rfl cl_Mod_259 (by omega) (Nat.le_of_ble_eq_true rfl) (Nat.le_of_ble_eq_true rfl) (Nat.le_refl _) (Nat.le_refl _) (c_Mod_moves (w := zuI w (lay1 (lay1 (lay1 (lay1 (lay1 (zI w) 46 5 fr to) 48 8 fr to) 49 8 fr to) 50 8 fr to) 51 8 fr to)) (o := 54) (N := 6000) (mk_54 hm) (n := 1000) (fr := fr) (to := to) (by decide) (by omega) (by omega) hft 0) (fun r1 w1 hp => ?_) rfl rfl
  obtain ⟨rfl, hw1⟩ := hp
  rw [hw1]
  refine ⟨⟨Nat.le_refl _, Or.inl rfl⟩, ?_⟩
  refine z_iconst (pc := 66) (v := 0) rfl (by decide) ?_
  refine z_istore_n (pc := 67) (i := 3) (ls' := [(0, .ref 44), (1, .int (nI fr)), (2, .int (nI to)), (3, .int 0)]) rfl rfl (by decide) rfl ?_
  change zS _ _ _ _ _ _ [(0, .ref 44), (1, .int (nI fr)), (2, .int (nI to)), (3, .int (nI 0))] _ (zuI w (lay6 (zI w) fr to))
  refine z_iload_n (pc := 68) (i := 3) (j := 3) rfl rfl rfl ?_
  refine z_iconst (pc := 69) (v := 2) rfl (by decide) ?_
  refine z_icmp_ge (pc := 70) (tgt := 135) rfl (by decide) (fun h70 => ?_) (fun h70 => ?_)
  · exact absurd h70 (by decide)
  · refine z_aload_n (pc := 73) (i := 0) (j := 0) rfl rfl rfl ?_
    refine z_getR (pc := 74) (x := 52) rfl fl_Mod_32 hm.1 rfl (mr_52 hm) ?_
    refine z_iconst (pc := 77) (v := 2) rfl (by decide) ?_
    refine z_iload_n (pc := 78) (i := 2) (j := 2) rfl rfl rfl ?_
    refine z_imul (pc := 79) rfl ?_
    refine z_iload_n (pc := 80) (i := 3) (j := 3) rfl rfl rfl ?_
    refine z_iadd (pc := 81) rfl ?_
    refine z_eqi (y := nI (2 * to + 0)) (by rw [show (2 : Int32) = nI 2 from rfl, pk_mul, nI_add]) ?_
    refine z_aload_n (pc := 82) (i := 0) (j := 0) rfl rfl rfl ?_
    refine z_getR (pc := 83) (x := 52) rfl fl_Mod_32 hm.1 rfl (mr_52 hm) ?_
    refine z_iconst (pc := 86) (v := 2) rfl (by decide) ?_
    refine z_iload_n (pc := 87) (i := 1) (j := 1) rfl rfl rfl ?_
    refine z_imul (pc := 88) rfl ?_
    refine z_iload_n (pc := 89) (i := 3) (j := 3) rfl rfl rfl ?_
    refine z_iadd (pc := 90) rfl ?_
    refine z_eqi (y := nI (2 * fr + 0)) (by rw [show (2 : Int32) = nI 2 from rfl, pk_mul, nI_add]) ?_
    refine z_iald (pc := 91) rfl (mk_52 hm) (vp_in_nI (show 2 * fr + 0 < 12 by omega) (by decide)) ?_
    refine z_eqi (y := (lay6 (zI w) fr to) 52 (2 * fr + 0)) (by rw [nI_clamp (by omega)]; rfl) ?_
    refine z_sipush (pc := 92) (v := 1000) rfl (by decide) ?_
    refine z_iload_n (pc := 95) (i := 2) (j := 2) rfl rfl rfl ?_
    refine z_iload_n (pc := 96) (i := 1) (j := 1) rfl rfl rfl ?_
    refine z_isub (pc := 97) rfl ?_
    refine z_imul (pc := 98) rfl ?_
    refine z_iadd (pc := 99) rfl ?_
    refine z_iast (pc := 100) rfl (mk_52 hm) (vp_in_nI (show 2 * to + 0 < 12 by omega) (by decide)) ?_
    refine z_aload_n (pc := 101) (i := 0) (j := 0) rfl rfl rfl ?_
    refine z_getR (pc := 102) (x := 53) rfl fl_Mod_35 hm.1 rfl (mr_53 hm) ?_
    refine z_iconst (pc := 105) (v := 2) rfl (by decide) ?_
    refine z_iload_n (pc := 106) (i := 2) (j := 2) rfl rfl rfl ?_
    refine z_imul (pc := 107) rfl ?_
    refine z_iload_n (pc := 108) (i := 3) (j := 3) rfl rfl rfl ?_
    refine z_iadd (pc := 109) rfl ?_
    refine z_eqi (y := nI (2 * to + 0)) (by rw [show (2 : Int32) = nI 2 from rfl, pk_mul, nI_add]) ?_
    refine z_aload_n (pc := 110) (i := 0) (j := 0) rfl rfl rfl ?_
    refine z_getR (pc := 111) (x := 53) rfl fl_Mod_35 hm.1 rfl (mr_53 hm) ?_
    refine z_iconst (pc := 114) (v := 2) rfl (by decide) ?_
    refine z_iload_n (pc := 115) (i := 1) (j := 1) rfl rfl rfl ?_
    refine z_imul (pc := 116) rfl ?_
    refine z_iload_n (pc := 117) (i := 3) (j := 3) rfl rfl rfl ?_
    refine z_iadd (pc := 118) rfl ?_
    refine z_eqi (y := nI (2 * fr + 0)) (by rw [show (2 : Int32) = nI 2 from rfl, pk_mul, nI_add]) ?_
    refine z_iald (pc := 119) rfl (mk_53 hm) (vp_in_nI (show 2 * fr + 0 < 12 by omega) (by decide)) ?_
    refine z_eqi (y := (lay6 (zI w) fr to) 53 (2 * fr + 0)) (by rw [nI_clamp (by omega), nI_clamp (by omega)]; exact zI_o (w := zuI w (lay6 (zI w) fr to)) (o := 52) (a := 53) _ _ _ (by decide)) ?_
    refine z_sipush (pc := 120) (v := 1000) rfl (by decide) ?_
    refine z_iload_n (pc := 123) (i := 2) (j := 2) rfl rfl rfl ?_
    refine z_iload_n (pc := 124) (i := 1) (j := 1) rfl rfl rfl ?_
    refine z_isub (pc := 125) rfl ?_
    refine z_imul (pc := 126) rfl ?_
    refine z_iadd (pc := 127) rfl ?_
    refine z_iast (pc := 128) rfl (mk_53 hm) (vp_in_nI (show 2 * to + 0 < 12 by omega) (by decide)) ?_
    refine z_iinc (pc := 129) (i := 3) (j := 3) (v := nI 1) (ls' := [(0, .ref 44), (1, .int (nI fr)), (2, .int (nI to)), (3, .int (nI 1))]) rfl rfl rfl (by decide) rfl ?_
    refine z_goto (pc := 132) (tgt := 68) rfl (by decide) ?_
    rw [nI_clamp (by omega)]
    change zS _ _ _ _ _ _ _ _ (zuI w (layL (lay6 (zI w) fr to) fr to 0))
    refine z_iload_n (pc := 68) (i := 3) (j := 3) rfl rfl rfl ?_
    refine z_iconst (pc := 69) (v := 2) rfl (by decide) ?_
    refine z_icmp_ge (pc := 70) (tgt := 135) rfl (by decide) (fun h70 => ?_) (fun h70 => ?_)
    · exact absurd h70 (by decide)
    · refine z_aload_n (pc := 73) (i := 0) (j := 0) rfl rfl rfl ?_
      refine z_getR (pc := 74) (x := 52) rfl fl_Mod_32 hm.1 rfl (mr_52 hm) ?_
      refine z_iconst (pc := 77) (v := 2) rfl (by decide) ?_
      refine z_iload_n (pc := 78) (i := 2) (j := 2) rfl rfl rfl ?_
      refine z_imul (pc := 79) rfl ?_
      refine z_iload_n (pc := 80) (i := 3) (j := 3) rfl rfl rfl ?_
      refine z_iadd (pc := 81) rfl ?_
      refine z_eqi (y := nI (2 * to + 1)) (by rw [show (2 : Int32) = nI 2 from rfl, pk_mul, nI_add]) ?_
      refine z_aload_n (pc := 82) (i := 0) (j := 0) rfl rfl rfl ?_
      refine z_getR (pc := 83) (x := 52) rfl fl_Mod_32 hm.1 rfl (mr_52 hm) ?_
      refine z_iconst (pc := 86) (v := 2) rfl (by decide) ?_
      refine z_iload_n (pc := 87) (i := 1) (j := 1) rfl rfl rfl ?_
      refine z_imul (pc := 88) rfl ?_
      refine z_iload_n (pc := 89) (i := 3) (j := 3) rfl rfl rfl ?_
      refine z_iadd (pc := 90) rfl ?_
      refine z_eqi (y := nI (2 * fr + 1)) (by rw [show (2 : Int32) = nI 2 from rfl, pk_mul, nI_add]) ?_
      refine z_iald (pc := 91) rfl (mk_52 hm) (vp_in_nI (show 2 * fr + 1 < 12 by omega) (by decide)) ?_
      refine z_eqi (y := (layL (lay6 (zI w) fr to) fr to 0) 52 (2 * fr + 1)) (by rw [nI_clamp (by omega)]; rfl) ?_
      refine z_sipush (pc := 92) (v := 1000) rfl (by decide) ?_
      refine z_iload_n (pc := 95) (i := 2) (j := 2) rfl rfl rfl ?_
      refine z_iload_n (pc := 96) (i := 1) (j := 1) rfl rfl rfl ?_
      refine z_isub (pc := 97) rfl ?_
      refine z_imul (pc := 98) rfl ?_
      refine z_iadd (pc := 99) rfl ?_
      refine z_iast (pc := 100) rfl (mk_52 hm) (vp_in_nI (show 2 * to + 1 < 12 by omega) (by decide)) ?_
      refine z_aload_n (pc := 101) (i := 0) (j := 0) rfl rfl rfl ?_
      refine z_getR (pc := 102) (x := 53) rfl fl_Mod_35 hm.1 rfl (mr_53 hm) ?_
      refine z_iconst (pc := 105) (v := 2) rfl (by decide) ?_
      refine z_iload_n (pc := 106) (i := 2) (j := 2) rfl rfl rfl ?_
      refine z_imul (pc := 107) rfl ?_
      refine z_iload_n (pc := 108) (i := 3) (j := 3) rfl rfl rfl ?_
      refine z_iadd (pc := 109) rfl ?_
      refine z_eqi (y := nI (2 * to + 1)) (by rw [show (2 : Int32) = nI 2 from rfl, pk_mul, nI_add]) ?_
      refine z_aload_n (pc := 110) (i := 0) (j := 0) rfl rfl rfl ?_
      refine z_getR (pc := 111) (x := 53) rfl fl_Mod_35 hm.1 rfl (mr_53 hm) ?_
      refine z_iconst (pc := 114) (v := 2) rfl (by decide) ?_
      refine z_iload_n (pc := 115) (i := 1) (j := 1) rfl rfl rfl ?_
      refine z_imul (pc := 116) rfl ?_
      refine z_iload_n (pc := 117) (i := 3) (j := 3) rfl rfl rfl ?_
      refine z_iadd (pc := 118) rfl ?_
      refine z_eqi (y := nI (2 * fr + 1)) (by rw [show (2 : Int32) = nI 2 from rfl, pk_mul, nI_add]) ?_
      refine z_iald (pc := 119) rfl (mk_53 hm) (vp_in_nI (show 2 * fr + 1 < 12 by omega) (by decide)) ?_
      refine z_eqi (y := (layL (lay6 (zI w) fr to) fr to 0) 53 (2 * fr + 1)) (by rw [nI_clamp (by omega), nI_clamp (by omega)]; exact zI_o (w := zuI w (layL (lay6 (zI w) fr to) fr to 0)) (o := 52) (a := 53) _ _ _ (by decide)) ?_
      refine z_sipush (pc := 120) (v := 1000) rfl (by decide) ?_
      refine z_iload_n (pc := 123) (i := 2) (j := 2) rfl rfl rfl ?_
      refine z_iload_n (pc := 124) (i := 1) (j := 1) rfl rfl rfl ?_
      refine z_isub (pc := 125) rfl ?_
      refine z_imul (pc := 126) rfl ?_
      refine z_iadd (pc := 127) rfl ?_
      refine z_iast (pc := 128) rfl (mk_53 hm) (vp_in_nI (show 2 * to + 1 < 12 by omega) (by decide)) ?_
      refine z_iinc (pc := 129) (i := 3) (j := 3) (v := nI (1 + 1)) (ls' := [(0, .ref 44), (1, .int (nI fr)), (2, .int (nI to)), (3, .int (nI (1 + 1)))]) rfl rfl rfl (by decide) rfl ?_
      refine z_goto (pc := 132) (tgt := 68) rfl (by decide) ?_
      rw [nI_clamp (by omega)]
      change zS _ _ _ _ _ _ _ _ (zuI w (layL (layL (lay6 (zI w) fr to) fr to 0) fr to 1))
      refine z_iload_n (pc := 68) (i := 3) (j := 3) rfl rfl rfl ?_
      refine z_iconst (pc := 69) (v := 2) rfl (by decide) ?_
      refine z_icmp_ge (pc := 70) (tgt := 135) rfl (by decide) (fun h70 => ?_) (fun h70 => ?_)
      · exact z_vret (pc := 135) rfl rfl ⟨rfl, rfl⟩
      · exact absurd (by decide) h70
