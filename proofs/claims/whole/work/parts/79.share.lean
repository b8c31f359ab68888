/-! THE OBJECT: the common divisor, shares, a puff of smoke -/
theorem mod_half {b r : Nat} (h0 : 0 < r) (h : r < b) : 2 * (b % r) < b := by
  by_cases h1 : 2 * r ≤ b
  · have := Nat.mod_lt b h0; omega
  · rw [show b % r = b - r by rw [Nat.mod_eq_sub_mod (by omega), Nat.mod_eq_of_lt (by omega)]]; omega
set_option maxRecDepth 100000 in
set_option maxHeartbeats 4000000 in
theorem l_cd {P : Option Value → zW → Prop} {w : zW} (x y : Int32) {i a b d : Nat} (hi : i < 100) (ha : a < 2 ^ 31) (hb : b < 2 ^ 31) (hb0 : 0 < b) (kk : zS 0 0 d m_SW_commonDivisor P 7 [(0, .int x), (1, .int y), (2, .int (nI b)), (3, .int (nI (a % b))), (4, .int (nI (i + 1)))] [] w) : zS 0 0 d m_SW_commonDivisor P 7 [(0, .int x), (1, .int y), (2, .int (nI a)), (3, .int (nI b)), (4, .int (nI i))] [] w := by
  refine z_iload (pc := 7) (i := 4) (j := 4) rfl rfl ?_
  refine z_bipush (pc := 9) (v := 100) rfl (by decide) ?_
  refine z_icmp_ge (pc := 11) (tgt := 34) rfl (by decide) (fun h11 => ?_) (fun h11 => ?_)
  · exact absurd h11 (nI_ge (b := 100) hi (by decide))
  · refine z_iload_n (pc := 14) (i := 3) (j := 3) rfl rfl rfl ?_
    refine z_if_eq (pc := 15) (tgt := 34) rfl (by decide) (fun h15 => ?_) (fun h15 => ?_)
    · exact absurd h15 (nI_ne0 hb0 (by omega))
    · refine z_iload_n (pc := 18) (i := 2) (j := 2) rfl rfl rfl ?_
      refine z_iload_n (pc := 19) (i := 3) (j := 3) rfl rfl rfl ?_
      refine z_irem (pc := 20) rfl (nI_ne0 hb0 (by omega)) ?_
      refine z_eqi (y := nI (a % b)) (pk_rem (by omega) hb0 (by omega)) ?_
      refine z_istore (pc := 21) (i := 5) (ls' := [(0, .int x), (1, .int y), (2, .int (nI a)), (3, .int (nI b)), (4, .int (nI i)), (5, .int (nI (a % b)))]) rfl (by decide) rfl ?_
      refine z_iload_n (pc := 23) (i := 3) (j := 3) rfl rfl rfl ?_
      refine z_istore_n (pc := 24) (i := 2) (ls' := [(0, .int x), (1, .int y), (2, .int (nI b)), (3, .int (nI b)), (4, .int (nI i)), (5, .int (nI (a % b)))]) rfl rfl (by decide) rfl ?_
      refine z_iload (pc := 25) (i := 5) (j := 5) rfl rfl ?_
      refine z_istore_n (pc := 27) (i := 3) (ls' := [(0, .int x), (1, .int y), (2, .int (nI b)), (3, .int (nI (a % b))), (4, .int (nI i)), (5, .int (nI (a % b)))]) rfl rfl (by decide) rfl ?_
      refine z_iinc (pc := 28) (i := 4) (j := 4) (v := nI (i + 1)) (ls' := [(0, .int x), (1, .int y), (2, .int (nI b)), (3, .int (nI (a % b))), (4, .int (nI (i + 1))), (5, .int (nI (a % b)))]) rfl rfl (nI_1 i) (by decide) rfl ?_
      refine z_goto (pc := 31) (tgt := 7) rfl (by decide) ?_
      refine z_drop ?_ kk
      simp
set_option maxRecDepth 100000 in
set_option maxHeartbeats 4000000 in
theorem l_cd0 {P : Option Value → zW → Prop} {w : zW} (x y : Int32) {i a d : Nat} (hP : P (some (.int (nI a))) w) : zS 0 0 d m_SW_commonDivisor P 7 [(0, .int x), (1, .int y), (2, .int (nI a)), (3, .int (nI 0)), (4, .int (nI i))] [] w := by
  refine z_iload (pc := 7) (i := 4) (j := 4) rfl rfl ?_
  refine z_bipush (pc := 9) (v := 100) rfl (by decide) ?_
  refine z_icmp_ge (pc := 11) (tgt := 34) rfl (by decide) (fun h11 => ?_) (fun h11 => ?_)
  · refine z_iload_n (pc := 34) (i := 2) (j := 2) rfl rfl rfl ?_
    exact z_iret (pc := 35) rfl rfl hP
  · refine z_iload_n (pc := 14) (i := 3) (j := 3) rfl rfl rfl ?_
    refine z_if_eq (pc := 15) (tgt := 34) rfl (by decide) (fun h15 => ?_) (fun h15 => ?_)
    · refine z_iload_n (pc := 34) (i := 2) (j := 2) rfl rfl rfl ?_
      exact z_iret (pc := 35) rfl rfl hP
    · exact absurd rfl h15
theorem l_cdk {P : Option Value → zW → Prop} {w : zW} (x y : Int32) {d : Nat} : ∀ (k i a b : Nat), i + 2 * k ≤ 100 → a < 2 ^ 31 → b < 2 ^ 31 → b < 2 ^ k → P (some (.int (nI (Nat.gcd b a)))) w → zS 0 0 d m_SW_commonDivisor P 7 [(0, .int x), (1, .int y), (2, .int (nI a)), (3, .int (nI b)), (4, .int (nI i))] [] w
  | 0, i, a, b, _, _, _, h, hP => by
    obtain rfl : b = 0 := by simpa using h
    rw [Nat.gcd_zero_left] at hP
    exact l_cd0 x y hP
  | k + 1, i, a, b, hi, ha, hb, h, hP => by
    by_cases hb0 : b = 0
    · subst hb0
      rw [Nat.gcd_zero_left] at hP
      exact l_cd0 x y hP
    · have hr := Nat.mod_lt a (show 0 < b by omega)
      refine l_cd x y (by omega) ha hb (by omega) ?_
      rw [Nat.gcd_rec] at hP
      by_cases hr0 : a % b = 0
      · rw [hr0] at hP ⊢
        rw [Nat.gcd_zero_left] at hP
        exact l_cd0 x y hP
      · have hh := mod_half (show 0 < a % b by omega) hr
        refine l_cd x y (by omega) hb (by omega) (by omega) ?_
        rw [Nat.gcd_rec] at hP
        refine l_cdk x y k (i + 1 + 1) (a % b) (b % (a % b)) (by omega) (by omega) (by omega) ?_ hP
        rw [Nat.pow_succ] at h
        omega
set_option maxRecDepth 100000 in
set_option maxHeartbeats 4000000 in
theorem c_SW_commonDivisor (w : zW) (d : Nat) {a b : Nat} (ha : a < 2 ^ 31) (hb : b < 2 ^ 31) : zS 0 0 d m_SW_commonDivisor (fun rv w1 => rv = some (.int (nI (Nat.gcd b a))) ∧ w1 = w) 0 [(0, .int (nI a)), (1, .int (nI b))] [] w := by
  refine z_iload_n (pc := 0) (i := 0) (j := 0) rfl rfl rfl ?_
  refine z_istore_n (pc := 1) (i := 2) (ls' := [(0, .int (nI a)), (1, .int (nI b)), (2, .int (nI a))]) rfl rfl (by decide) rfl ?_
  refine z_iload_n (pc := 2) (i := 1) (j := 1) rfl rfl rfl ?_
  refine z_istore_n (pc := 3) (i := 3) (ls' := [(0, .int (nI a)), (1, .int (nI b)), (2, .int (nI a)), (3, .int (nI b))]) rfl rfl (by decide) rfl ?_
  refine z_iconst (pc := 4) (v := 0) rfl (by decide) ?_
  refine z_istore (pc := 5) (i := 4) (ls' := [(0, .int (nI a)), (1, .int (nI b)), (2, .int (nI a)), (3, .int (nI b)), (4, .int 0)]) rfl (by decide) rfl ?_
  exact l_cdk (nI a) (nI b) 31 0 a b (by decide) ha hb hb ⟨rfl, rfl⟩
def shareV (f : Nat → Nat → Int32) (C R H : Nat) (x y b v : Int32) : Int32 := match cellP C R x y with
  | none => -1
  | some p => if hOK H b = true then (if v < 0 then -1 else if v ≤ 1 then (if rsum (fun k => f 26 (144 * k + p)) 8 < 1 then -1 else (if v = 0 then f 26 (144 * b.toNatClampNeg + p) else rsum (fun k => f 26 (144 * k + p)) 8) / nI (Nat.gcd (f 26 (144 * b.toNatClampNeg + p)).toNatClampNeg (rsum (fun k => f 26 (144 * k + p)) 8).toNatClampNeg)) else -1) else -1
set_option maxRecDepth 100000 in
set_option maxHeartbeats 4000000 in
theorem c_SW_share {w : zW} {s C R H : Nat} {F G : Int32 → Int32 → Int32 → Int32} (hx : zX w s) (hi : zXi (zI w) s C R H F G) (hso : ∀ p, p < 144 → ∃ m : Nat, m < 2 ^ 31 ∧ rsum (fun k => zI w 26 (144 * k + p)) 8 = nI m) (hob : ∀ q, q < 1152 → ∃ o : Nat, o < 2 ^ 31 ∧ zI w 26 q = nI o) (x y b v : Int32) (d : Nat) (hd : 3 ≤ d) : zS 0 0 d m_SW_share (fun rv w1 => rv = some (.int (shareV (zI w) C R H x y b v)) ∧ w1 = w) 0 [(0, .ref 0), (1, .int x), (2, .int y), (3, .int b), (4, .int v)] [] w := by
  refine z_aload_n (pc := 0) (i := 0) (j := 0) rfl rfl rfl ?_
  refine z_getR (pc := 1) (x := s) rfl fl_SW_48 hx.1 rfl hx.2.2.2.2.2.2.2.1 ?_
  refine z_iload_n (pc := 4) (i := 1) (j := 1) rfl rfl rfl ?_
  refine z_iload_n (pc := 5) (i := 2) (j := 2) rfl rfl rfl ?_
  refine z_cV (pc := 6) (mc1 := 0) (ms1 := 0) (mc2 := 0) (ms2 := 0) (as := [.int x, .int y]) (rest := []) (o := s) rfl rfl hx.2.2.2.2.2.2.2.2.2.2.2.2.2.2.2.1.1 ok_Street_hasCell rfl rfl cl_SW_123 (by omega) (Nat.le_of_ble_eq_true rfl) (Nat.le_of_ble_eq_true rfl) (Nat.le_refl _) (Nat.le_refl _) (c_Street_hasCell (w := w) (hx.2.2.2.2.2.2.2.2.2.2.2.2.2.2.2.1) x y 0) (fun r1 w1 hp => ?_) rfl rfl
  obtain ⟨rfl, hw1⟩ := hp
  rw [hw1, hi.1, hi.2.1, cell_has hi.2.2.2.1 hi.2.2.2.2.1]
  refine ⟨⟨Nat.le_refl _, Or.inl rfl⟩, ?_⟩
  refine z_if_eq (pc := 9) (tgt := 31) rfl (by decide) (fun h9 => ?_) (fun h9 => ?_)
  · refine z_iconst (pc := 31) (v := (-1)) rfl (by decide) ?_
    exact z_iret (pc := 32) rfl rfl ⟨by unfold shareV; rw [Option.not_isSome_iff_eq_none.mp (ite_eq h9)], rfl⟩
  · obtain ⟨p, hp9⟩ := Option.isSome_iff_exists.mp (ite_ne h9)
    have hcy := cell_in hi.2.2.2.1 hi.2.2.2.2.1 hp9
    obtain ⟨m, hm1, hm⟩ := hso p hcy.1
    refine z_aload_n (pc := 12) (i := 0) (j := 0) rfl rfl rfl ?_
    refine z_iload_n (pc := 13) (i := 3) (j := 3) rfl rfl rfl ?_
    refine z_cV (pc := 14) (mc1 := 0) (ms1 := 0) (mc2 := 0) (ms2 := 0) (as := [.int b]) (rest := []) (o := 0) rfl rfl hx.1 ok_SW_isHouse rfl rfl cl_SW_72 (by omega) (Nat.le_of_ble_eq_true rfl) (Nat.le_of_ble_eq_true rfl) (Nat.le_refl _) (Nat.le_refl _) (c_SW_isHouse (w := w) hx hi.2.2.1 hi.2.2.2.2.2.1 b 0) (fun r1 w1 hp => ?_) rfl rfl
    obtain ⟨rfl, hw1⟩ := hp
    rw [hw1]
    refine ⟨⟨Nat.le_refl _, Or.inl rfl⟩, ?_⟩
    refine z_if_eq (pc := 17) (tgt := 31) rfl (by decide) (fun h17 => ?_) (fun h17 => ?_)
    · refine z_iconst (pc := 31) (v := (-1)) rfl (by decide) ?_
      exact z_iret (pc := 32) rfl rfl ⟨by unfold shareV; rw [hp9]; show _ = some (Value.int (if _ then _ else _)); rw [if_neg (ite_eq h17)], rfl⟩
    · obtain ⟨j, hj, rfl⟩ := hOK_of hi.2.2.2.2.2.1 (ite_ne h17)
      have hj8 : j < 8 := Nat.lt_of_lt_of_le hj hi.2.2.2.2.2.1
      obtain ⟨o, ho1, ho⟩ := hob (144 * j + p) (by have hpp : p < 144 := hcy.1; omega)
      refine z_iload (pc := 20) (i := 4) (j := 4) rfl rfl ?_
      refine z_if_lt (pc := 22) (tgt := 31) rfl (by decide) (fun h22 => ?_) (fun h22 => ?_)
      · refine z_iconst (pc := 31) (v := (-1)) rfl (by decide) ?_
        exact z_iret (pc := 32) rfl rfl ⟨by unfold shareV; rw [hp9]; show _ = some (Value.int (if _ then _ else _)); rw [if_pos (ite_ne h17), if_pos h22], rfl⟩
      · refine z_iload (pc := 25) (i := 4) (j := 4) rfl rfl ?_
        refine z_iconst (pc := 27) (v := 1) rfl (by decide) ?_
        refine z_icmp_le (pc := 28) (tgt := 33) rfl (by decide) (fun h28 => ?_) (fun h28 => ?_)
        · refine z_aload_n (pc := 33) (i := 0) (j := 0) rfl rfl rfl ?_
          refine z_getR (pc := 34) (x := 21) rfl fl_SW_31 hx.1 rfl hx.2.2.2.2.1 ?_
          refine z_iload_n (pc := 37) (i := 1) (j := 1) rfl rfl rfl ?_
          refine z_iload_n (pc := 38) (i := 2) (j := 2) rfl rfl rfl ?_
          refine z_cV (pc := 39) (mc1 := 0) (ms1 := 0) (mc2 := 0) (ms2 := 0) (as := [.int x, .int y]) (rest := []) (o := 21) rfl rfl hx.2.2.2.2.2.2.2.2.2.2.2.2.1.1 ok_Life_drift rfl rfl cl_SW_158 (by omega) (Nat.le_of_ble_eq_true rfl) (Nat.le_of_ble_eq_true rfl) (Nat.le_refl _) (Nat.le_refl _) (c_Life_drift (w := w) (l := 21) (hx.2.2.2.2.2.2.2.2.2.2.2.2.1) hcy.2.1 hcy.1 2 (by decide)) (fun r1 w1 hp => ?_) rfl rfl
          obtain ⟨rfl, hw1⟩ := hp
          rw [hw1, hm]
          refine ⟨⟨Nat.le_refl _, Or.inl rfl⟩, ?_⟩
          refine z_istore (pc := 42) (i := 5) (ls' := [(0, .ref 0), (1, .int x), (2, .int y), (3, .int (nI j)), (4, .int v), (5, .int (nI m))]) rfl (by decide) rfl ?_
          refine z_aload_n (pc := 44) (i := 0) (j := 0) rfl rfl rfl ?_
          refine z_getR (pc := 45) (x := 21) rfl fl_SW_31 hx.1 rfl hx.2.2.2.2.1 ?_
          refine z_getR (pc := 48) (x := 26) rfl fl_SW_161 hx.2.2.2.2.2.2.2.2.2.2.2.2.1.1 rfl hx.2.2.2.2.2.2.2.2.2.2.2.2.1.2.2.2.2.2.2.2.2.2.2.2.2.2.1 ?_
          refine z_iload_n (pc := 51) (i := 3) (j := 3) rfl rfl rfl ?_
          refine z_iload_n (pc := 52) (i := 1) (j := 1) rfl rfl rfl ?_
          refine z_iload_n (pc := 53) (i := 2) (j := 2) rfl rfl rfl ?_
          refine z_cS (pc := 54) (mc1 := 0) (ms1 := 0) (mc2 := 0) (ms2 := 0) (as := [.int (nI j), .int x, .int y]) (rest := [.ref 26]) ok_SW_sootPlace rfl rfl cl_SW_164 (by omega) (Nat.le_of_ble_eq_true rfl) (Nat.le_of_ble_eq_true rfl) (Nat.le_refl _) (Nat.le_refl _) (c_SW_sootPlace (nI j) x y 1 (by decide) _) (fun r1 w1 hp => ?_) rfl rfl
          obtain ⟨rfl, hw1⟩ := hp
          rw [hw1, hcy.2.1, show nI j * 144 + nI p = nI (144 * j + p) from by rw [show (144 : Int32) = nI 144 from rfl, pk_mul, nI_add, Nat.mul_comm]]
          refine ⟨⟨Nat.le_refl _, Or.inl rfl⟩, ?_⟩
          refine z_iald (pc := 57) rfl hx.2.2.2.2.2.2.2.2.2.2.2.2.1.2.2.2.2.2.1 (vp_in_nI (n := 144 * j + p) (N := 1152) (by omega) (by decide)) ?_
          refine z_eqi (y := nI o) (by rw [nI_clamp (by omega)]; exact ho) ?_
          refine z_istore (pc := 58) (i := 6) (ls' := [(0, .ref 0), (1, .int x), (2, .int y), (3, .int (nI j)), (4, .int v), (5, .int (nI m)), (6, .int (nI o))]) rfl (by decide) rfl ?_
          refine z_iload (pc := 60) (i := 5) (j := 5) rfl rfl ?_
          refine z_iload (pc := 62) (i := 6) (j := 6) rfl rfl ?_
          refine z_cS (pc := 64) (mc1 := 0) (ms1 := 0) (mc2 := 0) (ms2 := 0) (as := [.int (nI m), .int (nI o)]) (rest := []) ok_SW_commonDivisor rfl rfl cl_SW_209 (by omega) (Nat.le_of_ble_eq_true rfl) (Nat.le_of_ble_eq_true rfl) (Nat.le_refl _) (Nat.le_refl _) (c_SW_commonDivisor _ 0 (a := m) (b := o) hm1 ho1) (fun r1 w1 hp => ?_) rfl rfl
          obtain ⟨rfl, hw1⟩ := hp
          rw [hw1]
          refine ⟨⟨Nat.le_refl _, Or.inl rfl⟩, ?_⟩
          refine z_istore (pc := 67) (i := 7) (ls' := [(0, .ref 0), (1, .int x), (2, .int y), (3, .int (nI j)), (4, .int v), (5, .int (nI m)), (6, .int (nI o)), (7, .int (nI (Nat.gcd o m)))]) rfl (by decide) rfl ?_
          refine z_iload (pc := 69) (i := 5) (j := 5) rfl rfl ?_
          refine z_iconst (pc := 71) (v := 1) rfl (by decide) ?_
          refine z_icmp_lt (pc := 72) (tgt := 81) rfl (by decide) (fun h72 => ?_) (fun h72 => ?_)
          · refine z_iconst (pc := 81) (v := (-1)) rfl (by decide) ?_
            exact z_iret (pc := 82) rfl rfl ⟨by unfold shareV; rw [hp9]; show _ = some (Value.int (if _ then _ else _)); rw [if_pos (ite_ne h17), if_neg h22, if_pos h28, hm, if_pos h72], rfl⟩
          · have hm0 : 1 ≤ m := zle_of 1 (by decide) h72
            have hg0 : 0 < Nat.gcd o m := Nat.gcd_pos_of_pos_right _ (by omega)
            have hgl : Nat.gcd o m ≤ m := Nat.gcd_le_right _ (by omega)
            refine z_iload (pc := 75) (i := 7) (j := 7) rfl rfl ?_
            refine z_iconst (pc := 77) (v := 1) rfl (by decide) ?_
            refine z_icmp_ge (pc := 78) (tgt := 83) rfl (by decide) (fun h78 => ?_) (fun h78 => ?_)
            · refine z_iload (pc := 83) (i := 4) (j := 4) rfl rfl ?_
              refine z_if_ne (pc := 85) (tgt := 93) rfl (by decide) (fun h85 => ?_) (fun h85 => ?_)
              · refine z_iload (pc := 93) (i := 5) (j := 5) rfl rfl ?_
                refine z_iload (pc := 95) (i := 7) (j := 7) rfl rfl ?_
                refine z_idiv (pc := 97) rfl (nI_ne0 hg0 (by omega)) ?_
                exact z_iret (pc := 98) rfl rfl ⟨by unfold shareV; rw [hp9]; show _ = some (Value.int (if _ then _ else _)); rw [if_pos (ite_ne h17), if_neg h22, if_pos h28, hm, if_neg h72, if_neg h85, nI_clamp (n := j) (by omega), ho, nI_clamp (n := o) ho1, nI_clamp (n := m) hm1], rfl⟩
              · refine z_iload (pc := 88) (i := 6) (j := 6) rfl rfl ?_
                refine z_goto (pc := 90) (tgt := 95) rfl (by decide) ?_
                refine z_iload (pc := 95) (i := 7) (j := 7) rfl rfl ?_
                refine z_idiv (pc := 97) rfl (nI_ne0 hg0 (by omega)) ?_
                exact z_iret (pc := 98) rfl rfl ⟨by unfold shareV; rw [hp9]; show _ = some (Value.int (if _ then _ else _)); rw [if_pos (ite_ne h17), if_neg h22, if_pos h28, hm, if_neg h72, if_pos h85, nI_clamp (n := j) (by omega), ho, nI_clamp (n := o) ho1, nI_clamp (n := m) hm1], rfl⟩
            · exact absurd (nI_le (a := 1) (by omega) (by omega)) h78
        · refine z_iconst (pc := 31) (v := (-1)) rfl (by decide) ?_
          exact z_iret (pc := 32) rfl rfl ⟨by unfold shareV; rw [hp9]; show _ = some (Value.int (if _ then _ else _)); rw [if_pos (ite_ne h17), if_neg h22, if_neg h28], rfl⟩
