/-! DAYS of the model -/
def nxN (n : Nat) : Nat := (12345 + 1103515245 * n) % 2147483648
theorem nxN_lt (n : Nat) : nxN n < 2 ^ 31 := Nat.mod_lt _ (by decide)
theorem nx_n {n : Nat} (hn : n < 2 ^ 31) : ((lN n * 1103515245) + 12345) - ((lN n * 1103515245) + 12345) / 2147483648 * 2147483648 = lN (nxN n) := by
  rw [show (1103515245 : Int64) = lN 1103515245 from rfl, show (12345 : Int64) = lN 12345 from rfl, show (2147483648 : Int64) = lN 2147483648 from rfl, lN_mul, lN_add, pk_lRem (by omega) (by decide) (by decide)]
  unfold nxN
  rw [Nat.add_comm, Nat.mul_comm]
theorem dr_n {n m : Nat} (hn : n < 2 ^ 31) (h0 : 0 < m) (hm : m < 100) : (lN n / 65536 - lN n / 65536 / (nI m).toInt64 * (nI m).toInt64).toInt32 = nI (n / 65536 % m) := by
  rw [nI_l (by omega), show (65536 : Int64) = lN 65536 from rfl, pk_lDiv (by omega) (by decide) (by decide), pk_lRem (by omega) h0 (by omega), lN_i]
theorem dz_over (w : zW) (f : Nat → Nat → Int32) (o k : Nat) (a b : Int64) : zsL (zuI (zsL w o k a) f) o k b = zuI (zsL w o k b) f := by
  unfold zsL zuI
  refine congrArg (fun g => (w.1, f, g, zR w)) ?_
  funext x y
  show z2 (z2 (zL w) o k a) o k b x y = z2 (zL w) o k b x y
  unfold z2
  by_cases h : x = o ∧ y = k <;> simp [h]
theorem zL_over (w : zW) (o k : Nat) (a b : Int64) : zsL (zsL w o k a) o k b = zsL w o k b := dz_over w (zI w) o k a b
set_option maxRecDepth 100000 in
set_option maxHeartbeats 4000000 in
theorem c_Mod_draws {w : zW} (hm : zMo w) {n m : Nat} (hn : n < 2 ^ 31) (hL : zL w 44 41 = lN n) (h0 : 0 < m) (hm1 : m < 100) (d : Nat) : zS 0 0 d m_Mod_draws (fun rv w1 => rv = some (.int (nI (nxN n / 65536 % m))) ∧ w1 = zsL w 44 41 (lN (nxN n))) 0 [(0, .ref 44), (1, .int (nI m))] [] w := by
  refine z_aload_n (pc := 0) (i := 0) (j := 0) rfl rfl rfl ?_
  refine z_aload_n (pc := 1) (i := 0) (j := 0) rfl rfl rfl ?_
  refine z_getL (pc := 2) rfl fl_Mod_342 hm.1 rfl ?_
  refine z_eql (y := lN n) hL ?_
  refine z_ldc2 (pc := 5) (v := 1103515245) rfl kl_Mod_345 ?_
  refine z_lmul (pc := 8) rfl ?_
  refine z_ldc2 (pc := 9) (v := 12345) rfl kl_Mod_347 ?_
  refine z_ladd (pc := 12) rfl ?_
  refine z_ldc2 (pc := 13) (v := 2147483648) rfl kl_Mod_349 ?_
  refine z_lrem (pc := 16) rfl (by decide) ?_
  refine z_eql (y := lN (nxN n)) (nx_n hn) ?_
  refine z_putL (pc := 17) rfl fl_Mod_342 hm.1 rfl  ?_
  refine z_aload_n (pc := 20) (i := 0) (j := 0) rfl rfl rfl ?_
  refine z_getL (pc := 21) rfl fl_Mod_342 hm.1 rfl ?_
  refine z_eql (y := lN (nxN n)) (zL_hit w 44 41 _) ?_
  refine z_ldc2 (pc := 24) (v := 65536) rfl kl_Mod_351 ?_
  refine z_ldiv (pc := 27) rfl (by decide) ?_
  refine z_iload_n (pc := 28) (i := 1) (j := 1) rfl rfl rfl ?_
  refine z_i2l (pc := 29) rfl ?_
  refine z_lrem (pc := 30) rfl (by rw [nI_l (by omega)]; exact fun z => absurd ((lN_eq (a := m) (b := 0) (by omega) (by decide)).mp z) (by omega)) ?_
  refine z_l2i (pc := 31) rfl ?_
  refine z_eqi (y := nI (nxN n / 65536 % m)) (dr_n (nxN_lt n) h0 hm1) ?_
  exact z_iret (pc := 32) rfl rfl ⟨rfl, rfl⟩
theorem wedS_64 (t : Int32) (met : Nat → Int32) {a b : Nat} (ha : a < 8) (hb : b < 8) (q : (Nat → Int32) × Int32) {k : Nat} (hk : 64 ≤ k) : (wedS t 0 met a b q).1 k = q.1 k := by
  show upd (upd _ _ _) _ _ k = _
  by_cases e : k = 64 + (8 * a + b)
  · subst e
    rw [pk_us, show wedE 0 _ = 0 from if_pos rfl, Int32.add_zero]
  · rw [pk_un e, pk_un (by omega)]
theorem wedN_64 (t : Int32) (met : Nat → Int32) {a : Nat} (ha : a < 8) (q : (Nat → Int32) × Int32) {k : Nat} (hk : 64 ≤ k) : ∀ n, n ≤ 8 → (wedN t 0 met a q n).1 k = q.1 k
  | 0, _ => rfl
  | n + 1, h => (wedS_64 t met ha (by omega) _ hk).trans (wedN_64 t met ha q hk n (by omega))
theorem wedA_64 (t : Int32) (met : Nat → Int32) {H : Nat} (hH : H ≤ 8) (q : (Nat → Int32) × Int32) {k : Nat} (hk : 64 ≤ k) : ∀ n, n ≤ 8 → (wedA t 0 met H q n).1 k = q.1 k
  | 0, _ => rfl
  | n + 1, h => (wedN_64 t met (by omega) _ hk H hH).trans (wedA_64 t met hH q hk n (by omega))
/-- row, weddings, draws, most, last -/
abbrev DQ : Type := (Nat → Int32) × Int32 × Nat × Int32 × Int32
def dyv (f : Nat → Nat → Int32) (V : Int32 → Int32) (t n : Nat) : Nat × Nat := if f 46 3 ≤ nI (nxN n / 65536 % 10) then (yvO V (f 67 138 + nI t), nxN n) else (nxN (nxN n) / 65536 % 8, nxN (nxN n))
theorem dyv_lt (f : Nat → Nat → Int32) (V : Int32 → Int32) (t n : Nat) : (dyv f V t n).1 < 8 := by
  unfold dyv
  split
  · exact yvO_lt _ _
  · exact Nat.mod_lt _ (by decide)
theorem dyv_2 (f : Nat → Nat → Int32) (V : Int32 → Int32) (t n : Nat) : (dyv f V t n).2 < 2 ^ 31 := by
  unfold dyv
  split <;> exact nxN_lt _
def oftM (r : Nat → Int32) (h : Nat) : Int32 := if bts (orN (wedTo r h) 8) ≤ 1 then 0 else 1
def dayW (f : Nat → Nat → Int32) (C R H : Nat) (V : Int32 → Int32) (G : Int32 → Int32 → Int32 → Int32) (t : Nat) (q : DQ) : (Nat → Int32) × Int32 := wedA (turnM q.2.2.2.2 (dyv f V t q.2.2.1).1) 0 (mset f C R (dyv f V t q.2.2.1).1 G (f 67 138 + nI t) (burnR (f 67)) H) H (q.1, q.2.1) H
def dayS (f : Nat → Nat → Int32) (C R H : Nat) (V : Int32 → Int32) (G : Int32 → Int32 → Int32 → Int32) (t : Nat) (q : DQ) : DQ :=
  ((dayW f C R H V G t q).1, (dayW f C R H V G t q).2, (dyv f V t q.2.2.1).2, (if q.2.2.2.1 < rsum (oftM (dayW f C R H V G t q).1) H then rsum (oftM (dayW f C R H V G t q).1) H else q.2.2.2.1), 1 + nI (dyv f V t q.2.2.1).1)
def dayT (f : Nat → Nat → Int32) (C R H : Nat) (V : Int32 → Int32) (G : Int32 → Int32 → Int32 → Int32) (q : DQ) : Nat → DQ
  | 0 => q
  | t + 1 => dayS f C R H V G t (dayT f C R H V G q t)
def dayR (f : Nat → Nat → Int32) (C R H : Nat) (V : Int32 → Int32) (G : Int32 → Int32 → Int32 → Int32) (hs seed : Nat) : Nat → Int32 × Nat × Int32
  | 0 => (0, seed, 0)
  | r + 1 => (dayT f C R H V G (f 67, (dayR f C R H V G hs seed r).1, (dayR f C R H V G hs seed r).2.1, (dayR f C R H V G hs seed r).2.2, f 67 139) hs).2.1 |> fun a => (a, (dayT f C R H V G (f 67, (dayR f C R H V G hs seed r).1, (dayR f C R H V G hs seed r).2.1, (dayR f C R H V G hs seed r).2.2, f 67 139) hs).2.2.1, (dayT f C R H V G (f 67, (dayR f C R H V G hs seed r).1, (dayR f C R H V G hs seed r).2.1, (dayR f C R H V G hs seed r).2.2, f 67 139) hs).2.2.2.1)
theorem dayT_s (f : Nat → Nat → Int32) (C R H : Nat) (V : Int32 → Int32) (G : Int32 → Int32 → Int32 → Int32) (q : DQ) (t : Nat) : dayT f C R H V G q (t + 1) = dayS f C R H V G t (dayT f C R H V G q t) := rfl
theorem dayS_n (f : Nat → Nat → Int32) (C R H : Nat) (V : Int32 → Int32) (G : Int32 → Int32 → Int32 → Int32) (t : Nat) (q : DQ) : (dayS f C R H V G t q).2.2.1 = (dyv f V t q.2.2.1).2 := by unfold dayS; rfl
theorem dayS_1 (f : Nat → Nat → Int32) (C R H : Nat) (V : Int32 → Int32) (G : Int32 → Int32 → Int32 → Int32) (t : Nat) (q : DQ) : (dayS f C R H V G t q).1 = (dayW f C R H V G t q).1 := by unfold dayS; rfl
theorem dayT_n {f : Nat → Nat → Int32} {C R H : Nat} {V : Int32 → Int32} {G : Int32 → Int32 → Int32 → Int32} {q : DQ} (hq : q.2.2.1 < 2 ^ 31) : ∀ t, (dayT f C R H V G q t).2.2.1 < 2 ^ 31
  | 0 => hq
  | t + 1 => by rw [dayT_s, dayS_n]; exact dyv_2 _ _ _ _
theorem dayT_64 {f : Nat → Nat → Int32} {C R H : Nat} {V : Int32 → Int32} {G : Int32 → Int32 → Int32 → Int32} {q : DQ} (hH : H ≤ 8) {k : Nat} (hk : 64 ≤ k) : ∀ t, (dayT f C R H V G q t).1 k = q.1 k
  | 0 => rfl
  | t + 1 => by rw [dayT_s, dayS_1]; unfold dayW; rw [wedA_64 _ _ hH _ hk H hH]; exact dayT_64 hH hk t
def zFd (w : zW) (f : Nat → Nat → Int32) (r : Nat → Int32) (x : Int32) (a : Nat → Int32) : Prop := (∀ o, (o < 57 ∨ 66 < o) → o ≠ 44 → o ≠ 67 → o ≠ 69 → o ≠ 70 → o ≠ 71 → f o = zI w o) ∧ f 67 = r ∧ f 44 40 = x ∧ f 69 = a ∧ (∀ k, k ≠ 0 → k ≠ 40 → f 44 k = zI w 44 k) ∧ f 44 0 = 0
theorem zFd_s {w : zW} {f n : Nat → Nat → Int32} {r : Nat → Int32} {x : Int32} {a : Nat → Int32} (h : zFd w f r x a) (e : ∀ o, (o < 57 ∨ 66 < o) → o ≠ 70 → o ≠ 71 → n o = f o) : zFd w n r x a :=
  ⟨fun o h1 h2 h3 h4 h5 h6 => (e o h1 h5 h6).trans (h.1 o h1 h2 h3 h4 h5 h6), (e 67 (by omega) (by decide) (by decide)).trans h.2.1, (congrFun (e 44 (by omega) (by decide) (by decide)) 40).trans h.2.2.1, (e 69 (by omega) (by decide) (by decide)).trans h.2.2.2.1, fun k h1 h2 => (congrFun (e 44 (by omega) (by decide) (by decide)) k).trans (h.2.2.2.2.1 k h1 h2), (congrFun (e 44 (by omega) (by decide) (by decide)) 0).trans h.2.2.2.2.2⟩
theorem zFd_w {w : zW} {f n : Nat → Nat → Int32} {r : Nat → Int32} {x : Int32} {a : Nat → Int32} (h : zFd w f r x a) (e : ∀ o, (o < 57 ∨ 66 < o) → n o = f o) : zFd w n r x a := zFd_s h (fun o h1 _ _ => e o h1)
theorem zFd_i {w : zW} {f : Nat → Nat → Int32} {r : Nat → Int32} {x : Int32} {a : Nat → Int32} {C R H : Nat} {V : Int32 → Int32} {G : Int32 → Int32 → Int32 → Int32} (h : zFd w f r x a) (hi : zMi (zI w) C R H V G) : zMi f C R H V G := zMi_c hi (h.1 46 (by omega) (by decide) (by decide) (by decide) (by decide) (by decide)) (h.1 52 (by omega) (by decide) (by decide) (by decide) (by decide) (by decide)) (h.1 53 (by omega) (by decide) (by decide) (by decide) (by decide) (by decide)) (h.1 54 (by omega) (by decide) (by decide) (by decide) (by decide) (by decide))
set_option maxRecDepth 100000 in
set_option maxHeartbeats 4000000 in
theorem lD_Mod_days {w : zW} (hm : zMo w) {P : Option Value → zW → Prop} (f : Nat → Nat → Int32) {H : Nat} (hH : f 46 4 = nI H) (hH8 : H ≤ 8) (y1 y2 y3 y4 y5 y6 y7 y8 : Int32) (d : Nat) (hd : 1 ≤ d) (kx : zS 0 0 d m_Mod_days P 257 [(0, .ref 44), (1, .int y1), (2, .int y2), (3, .int y3), (4, .int y4), (5, .int y5), (6, .int y6), (7, .int y7), (8, .int y8), (11, .int (rsum (oftM (f 67)) H))] [] (zuI w f)) : ∀ (m i : Nat), i ≤ H → H ≤ i + m → zS 0 0 d m_Mod_days P 217 [(0, .ref 44), (1, .int y1), (2, .int y2), (3, .int y3), (4, .int y4), (5, .int y5), (6, .int y6), (7, .int y7), (8, .int y8), (11, .int (rsum (oftM (f 67)) i)), (12, .int (nI i))] [] (zuI w f) := by
  have hex : zS 0 0 d m_Mod_days P 217 [(0, .ref 44), (1, .int y1), (2, .int y2), (3, .int y3), (4, .int y4), (5, .int y5), (6, .int y6), (7, .int y7), (8, .int y8), (11, .int (rsum (oftM (f 67)) H)), (12, .int (nI H))] [] (zuI w f) := by
    refine z_iload (pc := 217) (i := 12) (j := 10) rfl rfl ?_
    refine z_aload_n (pc := 219) (i := 0) (j := 0) rfl rfl rfl ?_
    refine z_getR (pc := 220) (x := 46) rfl fl_Mod_13 hm.1 rfl (mr_46 hm) ?_
    refine z_iconst (pc := 223) (v := 4) rfl (by decide) ?_
    refine z_iald (pc := 224) rfl (mk_46 hm) (vp_in_nI (n := 4) (by decide) (by decide)) ?_
    refine z_eqi (y := nI H) hH ?_
    refine z_icmp_ge (pc := 225) (tgt := 257) rfl (by decide) (fun h225 => ?_) (fun h225 => ?_)
    · refine z_drop ?_ kx
      simp
    · exact absurd (Int32.le_refl _) h225
  intro m
  induction m with
  | zero =>
    intro i hii hmm
    obtain rfl : i = H := by omega
    exact hex
  | succ m ih =>
    intro i hii hmm
    by_cases hlt : i < H
    · have kk := ih (i + 1) (by omega) (by omega)
      refine z_iload (pc := 217) (i := 12) (j := 10) rfl rfl ?_
      refine z_aload_n (pc := 219) (i := 0) (j := 0) rfl rfl rfl ?_
      refine z_getR (pc := 220) (x := 46) rfl fl_Mod_13 hm.1 rfl (mr_46 hm) ?_
      refine z_iconst (pc := 223) (v := 4) rfl (by decide) ?_
      refine z_iald (pc := 224) rfl (mk_46 hm) (vp_in_nI (n := 4) (by decide) (by decide)) ?_
      refine z_eqi (y := nI H) hH ?_
      refine z_icmp_ge (pc := 225) (tgt := 257) rfl (by decide) (fun h225 => ?_) (fun h225 => ?_)
      · exact absurd h225 (nI_ge (b := H) hlt (by omega))
      · refine z_iload (pc := 228) (i := 11) (j := 9) rfl rfl ?_
        refine z_aload_n (pc := 230) (i := 0) (j := 0) rfl rfl rfl ?_
        refine z_iload (pc := 231) (i := 12) (j := 10) rfl rfl ?_
        refine z_cV (pc := 233) (mc1 := 0) (ms1 := 0) (mc2 := 0) (ms2 := 0) (as := [.int (nI i)]) (rest := [.int (rsum (oftM (f 67)) i)]) (o := 44) rfl rfl hm.1 ok_Mod_wedTo rfl rfl cl_Mod_273 (by omega) (Nat.le_of_ble_eq_true rfl) (Nat.le_of_ble_eq_true rfl) (Nat.le_refl _) (Nat.le_refl _) (c_Mod_wedTo (w := zuI w f) hm (j := i) (by omega) 0) (fun r1 w1 hp => ?_) rfl rfl
        obtain ⟨rfl, hw1⟩ := hp
        rw [hw1]
        refine ⟨⟨Nat.le_refl _, Or.inl rfl⟩, ?_⟩
        refine z_cS (pc := 236) (mc1 := 0) (ms1 := 0) (mc2 := 0) (ms2 := 0) (as := [.int (orN (wedTo (f 67) i) 8)]) (rest := [.int (rsum (oftM (f 67)) i)]) ok_Mod_bits rfl rfl cl_Mod_336 (by omega) (Nat.le_of_ble_eq_true rfl) (Nat.le_of_ble_eq_true rfl) (Nat.le_refl _) (Nat.le_refl _) (c_Mod_bts (orN (wedTo (f 67) i) 8) _ 0) (fun r1 w1 hp => ?_) rfl rfl
        obtain ⟨rfl, hw1⟩ := hp
        rw [hw1]
        refine ⟨⟨Nat.le_refl _, Or.inl rfl⟩, ?_⟩
        have j248 : ∀ u : Int32, (u = oftM (f 67) i) → zS 0 0 d m_Mod_days P 248 [(0, .ref 44), (1, .int y1), (2, .int y2), (3, .int y3), (4, .int y4), (5, .int y5), (6, .int y6), (7, .int y7), (8, .int y8), (11, .int (rsum (oftM (f 67)) i)), (12, .int (nI i))] [.int u, .int (rsum (oftM (f 67)) i)] (zuI w f) := by
          intro u h_j248
          refine z_iadd (pc := 248) rfl ?_
          refine z_istore (pc := 249) (i := 11) (ls' := [(0, .ref 44), (1, .int y1), (2, .int y2), (3, .int y3), (4, .int y4), (5, .int y5), (6, .int y6), (7, .int y7), (8, .int y8), (11, .int ((rsum (oftM (f 67)) i) + u)), (12, .int (nI i))]) rfl (by decide) rfl ?_
          refine z_iinc (pc := 251) (i := 12) (j := 10) (v := nI (i + 1)) (ls' := [(0, .ref 44), (1, .int y1), (2, .int y2), (3, .int y3), (4, .int y4), (5, .int y5), (6, .int y6), (7, .int y7), (8, .int y8), (11, .int ((rsum (oftM (f 67)) i) + u)), (12, .int (nI (i + 1)))]) rfl rfl (nI_1 i) (by decide) rfl ?_
          refine z_goto (pc := 254) (tgt := 217) rfl (by decide) ?_
          rw [h_j248]
          exact kk
        refine z_iconst (pc := 239) (v := 1) rfl (by decide) ?_
        refine z_icmp_le (pc := 240) (tgt := 247) rfl (by decide) (fun h240 => ?_) (fun h240 => ?_)
        · refine z_iconst (pc := 247) (v := 0) rfl (by decide) ?_
          exact j248 _ (by unfold oftM; rw [if_pos h240])
        · refine z_iconst (pc := 243) (v := 1) rfl (by decide) ?_
          refine z_goto (pc := 244) (tgt := 248) rfl (by decide) ?_
          exact j248 _ (by unfold oftM; rw [if_neg h240])
    · obtain rfl : i = H := by omega
      exact hex
set_option maxRecDepth 100000 in
set_option maxHeartbeats 4000000 in
theorem lA_Mod_days {w : zW} (hm : zMo w) {P : Option Value → zW → Prop} (f : Nat → Nat → Int32) (y1 y2 y3 y4 y5 : Int32) (d : Nat) (kx : zS 0 0 d m_Mod_days P 92 [(0, .ref 44), (1, .int y1), (2, .int y2), (3, .int y3), (4, .int y4), (5, .int y5)] [] (zuI w (zr f 69 (fa_fill (f 67) (f 69) 64)))) : ∀ (m i : Nat), i ≤ 64 → 64 ≤ i + m → zS 0 0 d m_Mod_days P 65 [(0, .ref 44), (1, .int y1), (2, .int y2), (3, .int y3), (4, .int y4), (5, .int y5), (6, .int (nI i))] [] (zuI w (zr f 69 (fa_fill (f 67) (f 69) i))) := by
  have hex : zS 0 0 d m_Mod_days P 65 [(0, .ref 44), (1, .int y1), (2, .int y2), (3, .int y3), (4, .int y4), (5, .int y5), (6, .int (nI 64))] [] (zuI w (zr f 69 (fa_fill (f 67) (f 69) 64))) := by
    refine z_iload (pc := 65) (i := 6) (j := 6) rfl rfl ?_
    refine z_bipush (pc := 67) (v := 64) rfl (by decide) ?_
    refine z_icmp_ge (pc := 69) (tgt := 92) rfl (by decide) (fun h69 => ?_) (fun h69 => ?_)
    · refine z_drop ?_ kx
      simp
    · exact absurd (by decide) h69
  intro m
  induction m with
  | zero =>
    intro i hii hmm
    obtain rfl : i = 64 := by omega
    exact hex
  | succ m ih =>
    intro i hii hmm
    by_cases hlt : i < 64
    · have kk := ih (i + 1) (by omega) (by omega)
      refine z_iload (pc := 65) (i := 6) (j := 6) rfl rfl ?_
      refine z_bipush (pc := 67) (v := 64) rfl (by decide) ?_
      refine z_icmp_ge (pc := 69) (tgt := 92) rfl (by decide) (fun h69 => ?_) (fun h69 => ?_)
      · exact absurd h69 (nI_ge (b := 64) hlt (by decide))
      · refine z_aload_n (pc := 72) (i := 0) (j := 0) rfl rfl rfl ?_
        refine z_getR (pc := 73) (x := 69) rfl fl_Mod_84 hm.1 rfl (mr_69 hm) ?_
        refine z_iload (pc := 76) (i := 6) (j := 6) rfl rfl ?_
        refine z_aload_n (pc := 78) (i := 0) (j := 0) rfl rfl rfl ?_
        refine z_getR (pc := 79) (x := 67) rfl fl_Mod_78 hm.1 rfl (mr_67 hm) ?_
        refine z_iload (pc := 82) (i := 6) (j := 6) rfl rfl ?_
        refine z_iald (pc := 84) rfl (mk_67 hm) (vp_in_nI (show i < 1344 by omega) (by decide)) ?_
        refine z_eqi (y := f 67 i) (by rw [nI_clamp (by omega)]; exact congrFun (zr_u w f _ (o := 69) (a := 67) (by decide)) i) ?_
        refine z_iast (pc := 85) rfl (mk_69 hm) (vp_in_nI hlt (by decide)) ?_
        refine z_iinc (pc := 86) (i := 6) (j := 6) (v := nI (i + 1)) (ls' := [(0, .ref 44), (1, .int y1), (2, .int y2), (3, .int y3), (4, .int y4), (5, .int y5), (6, .int (nI (i + 1)))]) rfl rfl (nI_1 i) (by decide) rfl ?_
        refine z_goto (pc := 89) (tgt := 65) rfl (by decide) ?_
        rw [nI_clamp (by omega), zs_zr, fa_fill_succ]
        exact kk
    · obtain rfl : i = 64 := by omega
      exact hex
set_option maxRecDepth 100000 in
set_option maxHeartbeats 4000000 in
theorem lE_Mod_days {w : zW} (hm : zMo w) {P : Option Value → zW → Prop} (f : Nat → Nat → Int32) (y1 y2 y3 y4 y5 y6 : Int32) (d : Nat) (kx : zS 0 0 d m_Mod_days P 302 [(0, .ref 44), (1, .int y1), (2, .int y2), (3, .int y3), (4, .int y4), (5, .int y5), (6, .int y6)] [] (zuI w (zr f 67 (fa_fill (f 69) (f 67) 64)))) : ∀ (m i : Nat), i ≤ 64 → 64 ≤ i + m → zS 0 0 d m_Mod_days P 275 [(0, .ref 44), (1, .int y1), (2, .int y2), (3, .int y3), (4, .int y4), (5, .int y5), (6, .int y6), (8, .int (nI i))] [] (zuI w (zr f 67 (fa_fill (f 69) (f 67) i))) := by
  have hex : zS 0 0 d m_Mod_days P 275 [(0, .ref 44), (1, .int y1), (2, .int y2), (3, .int y3), (4, .int y4), (5, .int y5), (6, .int y6), (8, .int (nI 64))] [] (zuI w (zr f 67 (fa_fill (f 69) (f 67) 64))) := by
    refine z_iload (pc := 275) (i := 8) (j := 7) rfl rfl ?_
    refine z_bipush (pc := 277) (v := 64) rfl (by decide) ?_
    refine z_icmp_ge (pc := 279) (tgt := 302) rfl (by decide) (fun h279 => ?_) (fun h279 => ?_)
    · refine z_drop ?_ kx
      simp
    · exact absurd (by decide) h279
  intro m
  induction m with
  | zero =>
    intro i hii hmm
    obtain rfl : i = 64 := by omega
    exact hex
  | succ m ih =>
    intro i hii hmm
    by_cases hlt : i < 64
    · have kk := ih (i + 1) (by omega) (by omega)
      refine z_iload (pc := 275) (i := 8) (j := 7) rfl rfl ?_
      refine z_bipush (pc := 277) (v := 64) rfl (by decide) ?_
      refine z_icmp_ge (pc := 279) (tgt := 302) rfl (by decide) (fun h279 => ?_) (fun h279 => ?_)
      · exact absurd h279 (nI_ge (b := 64) hlt (by decide))
      · refine z_aload_n (pc := 282) (i := 0) (j := 0) rfl rfl rfl ?_
        refine z_getR (pc := 283) (x := 67) rfl fl_Mod_78 hm.1 rfl (mr_67 hm) ?_
        refine z_iload (pc := 286) (i := 8) (j := 7) rfl rfl ?_
        refine z_aload_n (pc := 288) (i := 0) (j := 0) rfl rfl rfl ?_
        refine z_getR (pc := 289) (x := 69) rfl fl_Mod_84 hm.1 rfl (mr_69 hm) ?_
        refine z_iload (pc := 292) (i := 8) (j := 7) rfl rfl ?_
        refine z_iald (pc := 294) rfl (mk_69 hm) (vp_in_nI hlt (by decide)) ?_
        refine z_eqi (y := f 69 i) (by rw [nI_clamp (by omega)]; exact congrFun (zr_u w f _ (o := 67) (a := 69) (by decide)) i) ?_
        refine z_iast (pc := 295) rfl (mk_67 hm) (vp_in_nI (show i < 1344 by omega) (by decide)) ?_
        refine z_iinc (pc := 296) (i := 8) (j := 7) (v := nI (i + 1)) (ls' := [(0, .ref 44), (1, .int y1), (2, .int y2), (3, .int y3), (4, .int y4), (5, .int y5), (6, .int y6), (8, .int (nI (i + 1)))]) rfl rfl (nI_1 i) (by decide) rfl ?_
        refine z_goto (pc := 299) (tgt := 275) rfl (by decide) ?_
        rw [nI_clamp (by omega), zs_zr, fa_fill_succ]
        exact kk
    · obtain rfl : i = 64 := by omega
      exact hex
