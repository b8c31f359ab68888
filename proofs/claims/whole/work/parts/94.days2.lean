/-! THE OBJECT'S DAYS: the runs -/
theorem cdT_lt (f : Nat → Nat → Int32) (s C R H : Nat) (F G : Int32 → Int32 → Int32 → Int32) : ∀ (m t : Nat) (q : CD), q.2.2.1 < 2 ^ 31 → (cdT f s C R H F G m t q).2.2.1 < 2 ^ 31
  | 0, _, _, h => h
  | m + 1, t, q, _ => cdT_lt f s C R H F G m (t + 1) _ (cdS_lt _ _ _ _ _ _ _ _ _)
def cdQ (f : Nat → Nat → Int32) (s C R H : Nat) (F G : Int32 → Int32 → Int32 → Int32) (n : Nat) (p : Int32 × Nat × Int32) : CD := cdT f s C R H F G n 0 (f 22, p.1, p.2.1, p.2.2, f 21 9)
def cdR (f : Nat → Nat → Int32) (s C R H : Nat) (F G : Int32 → Int32 → Int32 → Int32) (n : Nat) : Nat → Int32 × Nat × Int32 → Int32 × Nat × Int32
  | 0, p => p
  | r + 1, p => cdR f s C R H F G n r ((cdQ f s C R H F G n p).2.1, (cdQ f s C R H F G n p).2.2.1, (cdQ f s C R H F G n p).2.2.2.1)
set_option maxRecDepth 100000 in
set_option maxHeartbeats 1000000 in
theorem l_days61 {w : zW} {s C R H : Nat} {F G : Int32 → Int32 → Int32 → Int32} (hx : zX w s) (hi : zXi (zI w) s C R H F G) (hs : stIn (zI w) s C R H) {n N : Nat} (hn : n ≤ 72) (hN : N ≤ 20) (x1 x4 : Int32) (d : Nat) (hd : 4 ≤ d) : ∀ (m r : Nat) (p : Int32 × Nat × Int32) (f : Nat → Nat → Int32), r + m = N → dFr s w f → p.2.1 < 2 ^ 31 → zS 0 0 d m_SW_days (fun rv w1 => ∃ f, w1 = zuI w f ∧ dFr s w f ∧ rv = some (.int (if x4 = 0 then (cdR (zI w) s C R H F G n m p).1 else (cdR (zI w) s C R H F G n m p).2.2))) 61 [(0, .ref 0), (1, .int x1), (2, .int (nI N)), (3, .int (nI n)), (4, .int x4), (5, .long (lN p.2.1)), (7, .int p.1), (8, .int p.2.2), (9, .int (nI r))] [] (zuI w f) := by
  have hss := (hx.2.2.2.2.2.2.2.2.2.2.2.2.2.2.2.2)
  intro m
  induction m with
  | zero =>
    intro r p f hrm hf hp
    obtain rfl : r = N := by omega
    refine z_iload (pc := 61) (i := 9) (j := 8) rfl rfl ?_
    refine z_iload_n (pc := 63) (i := 2) (j := 2) rfl rfl rfl ?_
    refine z_icmp_ge (pc := 64) (tgt := 248) rfl (by decide) (fun h64 => ?_) (fun h64 => absurd (Int32.le_refl _) h64)
    refine z_iload (pc := 248) (i := 4) (j := 4) rfl rfl ?_
    refine z_if_ne (pc := 250) (tgt := 258) rfl (by decide) (fun h250 => ?_) (fun h250 => ?_)
    · refine z_iload (pc := 258) (i := 8) (j := 7) rfl rfl ?_
      exact z_iret (pc := 260) rfl rfl ⟨f, rfl, hf, by rw [if_neg h250]; rfl⟩
    · refine z_iload (pc := 253) (i := 7) (j := 6) rfl rfl ?_
      refine z_goto (pc := 255) (tgt := 260) rfl (by decide) ?_
      exact z_iret (pc := 260) rfl rfl ⟨f, rfl, hf, by rw [if_pos h250]; rfl⟩
  | succ m ih =>
    intro r p f hrm hf hp
    · skip
      refine z_iload (pc := 61) (i := 9) (j := 8) rfl rfl ?_
      refine z_iload_n (pc := 63) (i := 2) (j := 2) rfl rfl rfl ?_
      refine z_icmp_ge (pc := 64) (tgt := 248) rfl (by decide) (fun h64 => ?_) (fun h64 => ?_)
      · exact absurd h64 (nI_ge (b := N) (by omega) (by omega))
      · refine z_aload_n (pc := 67) (i := 0) (j := 0) rfl rfl rfl ?_
        refine z_getR (pc := 68) (x := 21) rfl fl_SW_31 hx.1 rfl hx.2.2.2.2.1 ?_
        refine z_getR (pc := 71) (x := 22) rfl fl_SW_94 hx.2.2.2.2.2.2.2.2.2.2.2.2.1.1 rfl hx.2.2.2.2.2.2.2.2.2.2.2.2.1.2.2.2.2.2.2.2.2.2.1 ?_
        refine z_iconst (pc := 74) (v := 0) rfl (by decide) ?_
        refine z_aload_n (pc := 75) (i := 0) (j := 0) rfl rfl rfl ?_
        refine z_getR (pc := 76) (x := 31) rfl fl_SW_41 hx.1 rfl hx.2.2.2.2.2.2.1 ?_
        refine z_iconst (pc := 79) (v := 0) rfl (by decide) ?_
        refine z_bipush (pc := 80) (v := 8) rfl (by decide) ?_
        refine z_cpI (pc := 82) (w := w) (f := f) 8 rfl sl_SW_212 hx.2.2.2.2.2.2.2.2.2.2.2.2.1.2.1 hx.2.2.2.2.2.2.2.2.2.2.2.2.2.2.1 (by decide) (by decide) (by decide) (by decide) (by omega) (Nat.le_of_ble_eq_true rfl) (fun g1 hg1 rg1 => ?_)
        refine z_aload_n (pc := 85) (i := 0) (j := 0) rfl rfl rfl ?_
        refine z_getR (pc := 86) (x := 21) rfl fl_SW_31 hx.1 rfl hx.2.2.2.2.1 ?_
        refine z_getI (pc := 89) rfl fl_SW_181 hx.2.2.2.2.2.2.2.2.2.2.2.2.1.1 rfl ?_
        refine z_eqi (y := zI w 21 9) ((congrFun (hg1 21 (by decide)) 9).trans (congrFun (hf 21 (by omega) (by omega) (by omega) (by omega) (by omega) (by omega) (by omega)) 9)) ?_
        refine z_istore (pc := 92) (i := 10) (ls' := [(0, .ref 0), (1, .int x1), (2, .int (nI N)), (3, .int (nI n)), (4, .int x4), (5, .long (lN p.2.1)), (7, .int p.1), (8, .int p.2.2), (9, .int (nI r)), (10, .int (zI w 21 9))]) rfl (by decide) rfl ?_
        refine z_iconst (pc := 94) (v := 0) rfl (by decide) ?_
        refine z_istore (pc := 95) (i := 11) (ls' := [(0, .ref 0), (1, .int x1), (2, .int (nI N)), (3, .int (nI n)), (4, .int x4), (5, .long (lN p.2.1)), (7, .int p.1), (8, .int p.2.2), (9, .int (nI r)), (10, .int (zI w 21 9)), (11, .int 0)]) rfl (by decide) rfl ?_
        refine l_days97 hx hi hs hn x1 (nI N) x4 (nI r) d hd n 0 (zI w 22, p.1, p.2.1, p.2.2, zI w 21 9) g1 (by omega) (fun o a1 a2 a3 a4 a5 a6 a7 => (hg1 o a7).trans (hf o a1 a2 a3 a4 a5 a6 a7)) (fun k hk => ?_) hp (fun f2 Q hf2 hQ => ?_)
        · rw [rg1 k, if_pos hk]
          exact congrFun (hf 22 (by omega) (by omega) (by omega) (by omega) (by omega) (by omega) (by omega)) k
        · refine z_iinc (pc := 242) (i := 9) (j := 8) (v := nI (r + 1)) (ls' := [(0, .ref 0), (1, .int x1), (2, .int (nI N)), (3, .int (nI n)), (4, .int x4), (5, .long (lN Q.2.2.1)), (7, .int Q.2.1), (8, .int Q.2.2.2.1), (9, .int (nI (r + 1)))]) rfl rfl (nI_1 r) (by decide) rfl ?_
          refine z_goto (pc := 245) (tgt := 61) rfl (by decide) ?_
          have kk := ih (r + 1) (Q.2.1, Q.2.2.1, Q.2.2.2.1) f2 (by omega) hf2 (by rw [hQ]; exact cdT_lt _ _ _ _ _ _ _ _ _ _ hp)
          have e0 : cdR (zI w) s C R H F G n (m + 1) p = cdR (zI w) s C R H F G n m (Q.2.1, Q.2.2.1, Q.2.2.2.1) := by rw [hQ]; rfl
          rw [e0]
          exact kk
def daysV (f : Nat → Nat → Int32) (s C R H : Nat) (F G : Int32 → Int32 → Int32 → Int32) (x1 x2 x3 x4 : Int32) : Int32 := if x1 < 0 then -1 else if 9999 < x1 then -1 else if x2 < 1 then -1 else if x2 ≤ 20 then (if x3 < 1 then -1 else if 72 < x3 then -1 else if x4 < 0 then -1 else if x4 ≤ 1 then (if x4 = 0 then (cdR f s C R H F G x3.toNatClampNeg x2.toNatClampNeg (0, x1.toNatClampNeg, 0)).1 else (cdR f s C R H F G x3.toNatClampNeg x2.toNatClampNeg (0, x1.toNatClampNeg, 0)).2.2) else -1) else -1
set_option maxRecDepth 100000 in
set_option maxHeartbeats 1000000 in
theorem c_SW_days {w : zW} {s C R H : Nat} {F G : Int32 → Int32 → Int32 → Int32} (hx : zX w s) (hi : zXi (zI w) s C R H F G) (hs : stIn (zI w) s C R H) (x1 x2 x3 x4 : Int32) (d : Nat) (hd : 4 ≤ d) : zS 0 0 d m_SW_days (fun rv w1 => ∃ f, w1 = zuI w f ∧ dFr s w f ∧ rv = some (.int (daysV (zI w) s C R H F G x1 x2 x3 x4))) 0 [(0, .ref 0), (1, .int x1), (2, .int x2), (3, .int x3), (4, .int x4)] [] w := by
  refine z_iload_n (pc := 0) (i := 1) (j := 1) rfl rfl rfl ?_
  refine z_if_lt (pc := 1) (tgt := 22) rfl (by decide) (fun h1 => ?_) (fun h1 => ?_)
  · refine z_iconst (pc := 22) (v := (-1)) rfl (by decide) ?_
    exact z_iret (pc := 23) rfl rfl ⟨zI w, rfl, fun _ _ _ _ _ _ _ _ => rfl, by unfold daysV; rw [if_pos h1]⟩
  · refine z_iload_n (pc := 4) (i := 1) (j := 1) rfl rfl rfl ?_
    refine z_sipush (pc := 5) (v := 9999) rfl (by decide) ?_
    refine z_icmp_gt (pc := 8) (tgt := 22) rfl (by decide) (fun h8 => ?_) (fun h8 => ?_)
    · refine z_iconst (pc := 22) (v := (-1)) rfl (by decide) ?_
      exact z_iret (pc := 23) rfl rfl ⟨zI w, rfl, fun _ _ _ _ _ _ _ _ => rfl, by unfold daysV; rw [if_neg h1, if_pos h8]⟩
    · refine z_iload_n (pc := 11) (i := 2) (j := 2) rfl rfl rfl ?_
      refine z_iconst (pc := 12) (v := 1) rfl (by decide) ?_
      refine z_icmp_lt (pc := 13) (tgt := 22) rfl (by decide) (fun h13 => ?_) (fun h13 => ?_)
      · refine z_iconst (pc := 22) (v := (-1)) rfl (by decide) ?_
        exact z_iret (pc := 23) rfl rfl ⟨zI w, rfl, fun _ _ _ _ _ _ _ _ => rfl, by unfold daysV; rw [if_neg h1, if_neg h8, if_pos h13]⟩
      · refine z_iload_n (pc := 16) (i := 2) (j := 2) rfl rfl rfl ?_
        refine z_bipush (pc := 17) (v := 20) rfl (by decide) ?_
        refine z_icmp_le (pc := 19) (tgt := 24) rfl (by decide) (fun h19 => ?_) (fun h19 => ?_)
        · refine z_iload_n (pc := 24) (i := 3) (j := 3) rfl rfl rfl ?_
          refine z_iconst (pc := 25) (v := 1) rfl (by decide) ?_
          refine z_icmp_lt (pc := 26) (tgt := 46) rfl (by decide) (fun h26 => ?_) (fun h26 => ?_)
          · refine z_iconst (pc := 46) (v := (-1)) rfl (by decide) ?_
            exact z_iret (pc := 47) rfl rfl ⟨zI w, rfl, fun _ _ _ _ _ _ _ _ => rfl, by unfold daysV; rw [if_neg h1, if_neg h8, if_neg h13, if_pos h19, if_pos h26]⟩
          · refine z_iload_n (pc := 29) (i := 3) (j := 3) rfl rfl rfl ?_
            refine z_bipush (pc := 30) (v := 72) rfl (by decide) ?_
            refine z_icmp_gt (pc := 32) (tgt := 46) rfl (by decide) (fun h32 => ?_) (fun h32 => ?_)
            · refine z_iconst (pc := 46) (v := (-1)) rfl (by decide) ?_
              exact z_iret (pc := 47) rfl rfl ⟨zI w, rfl, fun _ _ _ _ _ _ _ _ => rfl, by unfold daysV; rw [if_neg h1, if_neg h8, if_neg h13, if_pos h19, if_neg h26, if_pos h32]⟩
            · refine z_iload (pc := 35) (i := 4) (j := 4) rfl rfl ?_
              refine z_if_lt (pc := 37) (tgt := 46) rfl (by decide) (fun h37 => ?_) (fun h37 => ?_)
              · refine z_iconst (pc := 46) (v := (-1)) rfl (by decide) ?_
                exact z_iret (pc := 47) rfl rfl ⟨zI w, rfl, fun _ _ _ _ _ _ _ _ => rfl, by unfold daysV; rw [if_neg h1, if_neg h8, if_neg h13, if_pos h19, if_neg h26, if_neg h32, if_pos h37]⟩
              · refine z_iload (pc := 40) (i := 4) (j := 4) rfl rfl ?_
                refine z_iconst (pc := 42) (v := 1) rfl (by decide) ?_
                refine z_icmp_le (pc := 43) (tgt := 48) rfl (by decide) (fun h43 => ?_) (fun h43 => ?_)
                · have b1 := h1
                  have b8 := h8
                  have b13 := h13
                  have b19 := h19
                  have b26 := h26
                  have b32 := h32
                  obtain ⟨sd, hsd, rfl⟩ := nI_of2 (x := x1) (M := 9999) (n := 9999) rfl h1 (Int32.not_lt.mp h8)
                  obtain ⟨N, hN, rfl⟩ := nI_of2 (x := x2) (M := 20) (n := 20) rfl (fun z => h13 (Int32.lt_trans z (by decide))) h19
                  obtain ⟨n, hn, rfl⟩ := nI_of2 (x := x3) (M := 72) (n := 72) rfl (fun z => h26 (Int32.lt_trans z (by decide))) (Int32.not_lt.mp h32)
                  refine z_iload_n (pc := 48) (i := 1) (j := 1) rfl rfl rfl ?_
                  refine z_i2l (pc := 49) rfl ?_
                  refine z_eql (y := lN sd) (nI_l (by omega)) ?_
                  refine z_lstore (pc := 50) (i := 5) (ls' := [(0, .ref 0), (1, .int (nI sd)), (2, .int (nI N)), (3, .int (nI n)), (4, .int x4), (5, .long (lN sd))]) rfl (by decide) rfl ?_
                  refine z_iconst (pc := 52) (v := 0) rfl (by decide) ?_
                  refine z_istore (pc := 53) (i := 7) (ls' := [(0, .ref 0), (1, .int (nI sd)), (2, .int (nI N)), (3, .int (nI n)), (4, .int x4), (5, .long (lN sd)), (7, .int 0)]) rfl (by decide) rfl ?_
                  refine z_iconst (pc := 55) (v := 0) rfl (by decide) ?_
                  refine z_istore (pc := 56) (i := 8) (ls' := [(0, .ref 0), (1, .int (nI sd)), (2, .int (nI N)), (3, .int (nI n)), (4, .int x4), (5, .long (lN sd)), (7, .int 0), (8, .int 0)]) rfl (by decide) rfl ?_
                  refine z_iconst (pc := 58) (v := 0) rfl (by decide) ?_
                  refine z_istore (pc := 59) (i := 9) (ls' := [(0, .ref 0), (1, .int (nI sd)), (2, .int (nI N)), (3, .int (nI n)), (4, .int x4), (5, .long (lN sd)), (7, .int 0), (8, .int 0), (9, .int 0)]) rfl (by decide) rfl ?_
                  refine z_mono (fun r w9 h9 => ?_) (l_days61 hx hi hs hn hN (nI sd) x4 d hd N 0 (0, sd, 0) (zI w) (by omega) (fun _ _ _ _ _ _ _ _ => rfl) (show sd < 2 ^ 31 by omega))
                  obtain ⟨f9, a1, a2, a3⟩ := h9
                  refine ⟨f9, a1, a2, ?_⟩
                  unfold daysV
                  rw [if_neg b1, if_neg b8, if_neg b13, if_pos b19, if_neg b26, if_neg b32, if_neg h37, if_pos h43, nI_clamp (n := sd) (by omega), nI_clamp (n := N) (by omega), nI_clamp (n := n) (by omega)]
                  exact a3
                · refine z_iconst (pc := 46) (v := (-1)) rfl (by decide) ?_
                  exact z_iret (pc := 47) rfl rfl ⟨zI w, rfl, fun _ _ _ _ _ _ _ _ => rfl, by unfold daysV; rw [if_neg h1, if_neg h8, if_neg h13, if_pos h19, if_neg h26, if_neg h32, if_neg h37, if_neg h43]⟩
        · refine z_iconst (pc := 22) (v := (-1)) rfl (by decide) ?_
          exact z_iret (pc := 23) rfl rfl ⟨zI w, rfl, fun _ _ _ _ _ _ _ _ => rfl, by unfold daysV; rw [if_neg h1, if_neg h8, if_neg h13, if_neg h19]⟩
