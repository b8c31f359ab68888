/-! THE OBJECT'S MARKS -/
def cpS (w : zW) (s k : Nat) (w1 : zW) : Prop := ∃ (n1 n2 : Nat) (f : Nat → Nat → Int32) (nu : Nat → Int64), n1 ≤ 1000 ∧ n2 ≤ 1000 ∧ zI w (k + 6) 2 = nI n1 ∧ zI w (k + 9) 2 = nI n2 ∧ w1 = zuI (zrL w (s + 5) nu) f ∧ (∀ o, (o < s ∨ s + 12 ≤ o) → f o = zI w o) ∧ (∀ j, j < 8 → f (s + 1) j = zI w (k + 1) j) ∧ (∀ j, j < 8 → f (s + 2) j = zI w (k + 2) j) ∧ (∀ j, j < 8 → f (s + 3) j = zI w (k + 3) j) ∧ (∀ j, j < 8 → f (s + 4) j = zI w (k + 4) j) ∧ (∀ j, j < n1 → f (s + 7) j = zI w (k + 7) j) ∧ f (s + 6) 2 = nI n1 ∧ (∀ j, j < n2 → f (s + 10) j = zI w (k + 10) j) ∧ f (s + 9) 2 = nI n2 ∧ f s 7 = zI w k 7 ∧ f s 8 = zI w k 8 ∧ f s 9 = zI w k 9 ∧ f s 10 = zI w k 10 ∧ f s 11 = zI w k 11
def cpL (w : zW) (l k : Nat) (w1 : zW) : Prop := ∃ f : Nat → Nat → Int32, w1 = zuI w f ∧ (∀ o, (o < l ∨ l + 9 ≤ o) → f o = zI w o) ∧ (∀ j, j < 8 → f (l + 1) j = zI w (k + 1) j) ∧ (∀ j, j < 64 → f (l + 2) j = zI w (k + 2) j) ∧ (∀ j, j < 64 → f (l + 3) j = zI w (k + 3) j) ∧ (∀ j, j < 8 → f (l + 4) j = zI w (k + 4) j) ∧ (∀ j, j < 1152 → f (l + 5) j = zI w (k + 5) j) ∧ (∀ j, j < 10 → f (l + 6) j = zI w (k + 6) j) ∧ (∀ j, j < 10 → f (l + 7) j = zI w (k + 7) j) ∧ (∀ j, j < 10 → f (l + 8) j = zI w (k + 8) j) ∧ f l 8 = zI w k 8 ∧ f l 9 = zI w k 9 ∧ f l 10 = zI w k 10 ∧ f l 11 = zI w k 11 ∧ f l 12 = zI w k 12
def lwS (w : zW) (s : Nat) : Prop := ∃ n1 n2 : Nat, n1 ≤ 1000 ∧ n2 ≤ 1000 ∧ zI w (s + 6) 2 = nI n1 ∧ zI w (s + 9) 2 = nI n2
theorem c_cpS {w : zW} {s k : Nat} (h : zSt w s) (hk : zSt w k) (hsk : s + 12 ≤ k ∨ k + 12 ≤ s) (hL : lwS w k) (d : Nat) (hd : 2 ≤ d) : zS 0 0 d m_Street_copy (fun rv w1 => rv = none ∧ cpS w s k w1) 0 [(0, .ref s), (1, .ref k)] [] w := by
  obtain ⟨n1, n2, h1, h2, e1, e2⟩ := hL
  refine z_mono ?_ (c_Street_copy h hk hsk e1 h1 e2 h2 d hd)
  rintro rv w1 ⟨f, nu, a1, a2, a3⟩
  exact ⟨a2, n1, n2, f, nu, h1, h2, e1, e2, a1, a3⟩
theorem c_cpL {w : zW} {l k : Nat} (h : zLf w l) (hk : zLf w k) (hlk : l + 9 ≤ k ∨ k + 9 ≤ l) (d : Nat) (hd : 1 ≤ d) : zS 0 0 d m_Life_copy (fun rv w1 => rv = none ∧ cpL w l k w1) 0 [(0, .ref l), (1, .ref k)] [] w := by
  refine z_mono ?_ (c_Life_copy h hk hlk d hd)
  rintro rv w1 ⟨f, a1, a2, a3⟩
  exact ⟨a2, f, a1, a3⟩
theorem cpS_w {w w1 : zW} {s k : Nat} (h : cpS w s k w1) : w1.1 = w.1 ∧ zR w1 = zR w := by
  obtain ⟨n1, n2, f, nu, -, -, -, -, e, -⟩ := h
  rw [e]
  exact ⟨rfl, rfl⟩
theorem zLf_mv {w w1 : zW} {l : Nat} (h : zLf w l) (e : w1.1 = w.1 ∧ zR w1 = zR w) : zLf w1 l := by
  unfold zLf at *
  rw [e.1, e.2]
  exact h
def mkS (w : zW) (m : Nat) : Prop := 73 ≤ m ∧ m + 22 ≤ w.1.length ∧ w.1[m]? = some (2, 2) ∧ zR w m 0 = some (m + 1) ∧ zR w m 1 = some (m + 13) ∧ zSt w (m + 1) ∧ zLf w (m + 13)
def mkR (w : zW) (s1 : Nat) (x t : Int32) (rv : Option Value) (w1 : zW) : Prop :=
  ((x < 0 ∨ 4 ≤ x) → rv = some (.int 0) ∧ w1 = w) ∧ ∀ k : Nat, k < 4 → x = nI k →
  (¬ t = 0 → zR w 30 k = none → rv = some (.int 0) ∧ w1 = w) ∧ (¬ t = 0 → ∀ m, zR w 30 k = some m → rv = some (.int 1) ∧ ∃ w2, cpS w s1 (m + 1) w2 ∧ cpL w2 21 (m + 13) w1) ∧
  (t = 0 → rv = some (.int 1) ∧ ∃ m w0, ((zR w 30 k = some m ∧ w0 = w) ∨ (zR w 30 k = none ∧ m = w.1.length ∧ ∃ w', mrkP (zN w (2, 2)) m w' ∧ w0 = zsR w' 30 k (some m))) ∧ ∃ w2, cpS w0 (m + 1) s1 w2 ∧ cpL w2 (m + 13) 21 w1)

theorem z_more {mc ms mc2 ms2 d : Nat} {M : zM} {P : Option Value → zW → Prop} {pc : Nat} {ls : List (Nat × Value)} {st : List Value} {w : zW} (k : zS mc ms d M P pc ls st w) (h1 : mc ≤ mc2) (h2 : ms ≤ ms2) : zS mc2 ms2 d M P pc ls st w := fun p l e R s m args below meth c Q D cA h0 ad0 n0 C ad H locs cells slots la hA hS hg hc hs hl => k p l e R s m args below meth c Q D cA h0 ad0 n0 C ad H locs cells slots la hA hS hg (by omega) (by omega) hl
theorem zAir_ex {w w1 : zW} {a : Nat} (h : zAir w a) (e1 : ∀ (x : Nat) (q : Nat × Nat), w.1[x]? = some q → w1.1[x]? = some q) (e2 : ∀ b, zR w1 a b = zR w a b) : zAir w1 a := by
  obtain ⟨a1, a2, a3, a4, a5, b1, b2, b3, b4⟩ := h
  exact ⟨e1 _ _ a1, e1 _ _ a2, e1 _ _ a3, e1 _ _ a4, e1 _ _ a5, (e2 _).trans b1, (e2 _).trans b2, (e2 _).trans b3, (e2 _).trans b4⟩
theorem zLf_ex {w w1 : zW} {l : Nat} (h : zLf w l) (e1 : ∀ (x : Nat) (q : Nat × Nat), w.1[x]? = some q → w1.1[x]? = some q) (e2 : ∀ b, zR w1 l b = zR w l b) : zLf w1 l := by
  obtain ⟨a1, a2, a3, a4, a5, a6, a7, a8, a9, b1, b2, b3, b4, b5, b6, b7, b8⟩ := h
  exact ⟨e1 _ _ a1, e1 _ _ a2, e1 _ _ a3, e1 _ _ a4, e1 _ _ a5, e1 _ _ a6, e1 _ _ a7, e1 _ _ a8, e1 _ _ a9, (e2 _).trans b1, (e2 _).trans b2, (e2 _).trans b3, (e2 _).trans b4, (e2 _).trans b5, (e2 _).trans b6, (e2 _).trans b7, (e2 _).trans b8⟩
/-- the object's shape in a larger world: what it reads of references lies in cells below 44, but for the marks' own row -/
theorem zX_ex {w w1 : zW} {s : Nat} (h : zX w s) (e1 : ∀ (x : Nat) (q : Nat × Nat), w.1[x]? = some q → w1.1[x]? = some q) (e2 : ∀ a, (a < 44 ∧ a ≠ 30) → ∀ b, zR w1 a b = zR w a b) : zX w1 s := by
  obtain ⟨a1, a2, a3, a4, a5, a6, a7, a8, b1, b2, b3, b4, b5, b6, b7, b8, b9⟩ := h
  exact ⟨e1 _ _ a1, (e2 0 (by omega) _).trans a2, (e2 0 (by omega) _).trans a3, (e2 0 (by omega) _).trans a4, (e2 0 (by omega) _).trans a5, (e2 0 (by omega) _).trans a6, (e2 0 (by omega) _).trans a7, (e2 0 (by omega) _).trans a8, e1 _ _ b1, e1 _ _ b2, (e2 1 (by omega) _).trans b3, zAir_ex b4 e1 (e2 16 (by omega)), zLf_ex b5 e1 (e2 21 (by omega)), e1 _ _ b6, e1 _ _ b7, zSt_ex b8 e1 (fun a b h1 h2 => e2 a (by omega) b), b9⟩
theorem lwS_ex {w w1 : zW} {s : Nat} (h : lwS w s) (e : ∀ a, a < 44 → zI w1 a = zI w a) (hs : s = 4 ∨ s = 32) : lwS w1 s := by
  obtain ⟨n1, n2, h1, h2, h3, h4⟩ := h
  exact ⟨n1, n2, h1, h2, by rw [e _ (by omega)]; exact h3, by rw [e _ (by omega)]; exact h4⟩
set_option maxRecDepth 100000 in
set_option maxHeartbeats 400000 in
theorem l_mark71 {w : zW} {s1 m : Nat} {x t : Int32} {P : Option Value → zW → Prop} (hx : zX w s1) (hm : mkS w m) (hL : lwS w s1) (d : Nat) (hd : 3 ≤ d) (hP : ∀ w2 w1, cpS w (m + 1) s1 w2 → cpL w2 (m + 13) 21 w1 → P (some (.int 1)) w1) : zS 0 0 d m_SW_mark P 71 [(0, .ref 0), (1, .int x), (2, .int t), (3, .ref m)] [] w := by
  obtain ⟨m1, m2, m3, m4, m5, m6, m7⟩ := hm
  have hs1 : s1 = 4 ∨ s1 = 32 := hx.2.2.2.2.2.2.2.2.2.2.2.2.2.2.2.2
  refine z_aload_n (pc := 71) (i := 3) (j := 3) rfl rfl rfl ?_
  refine z_getR (pc := 72) (x := m + 1) rfl fl_SW_239 m3 rfl m4 ?_
  refine z_aload_n (pc := 75) (i := 0) (j := 0) rfl rfl rfl ?_
  refine z_getR (pc := 76) (x := s1) rfl fl_SW_48 hx.1 rfl hx.2.2.2.2.2.2.2.1 ?_
  refine z_cV (pc := 79) (mc1 := 0) (ms1 := 0) (mc2 := 0) (ms2 := 0) (as := [.ref s1]) (rest := []) (o := m + 1) rfl rfl m6.1 ok_Street_copy rfl rfl cl_SW_240 (show 2 < d by omega) (Nat.le_of_ble_eq_true rfl) (Nat.le_of_ble_eq_true rfl) (Nat.le_refl _) (Nat.le_refl _) (c_cpS m6 hx.2.2.2.2.2.2.2.2.2.2.2.2.2.2.2.1 (by omega) hL 2 (by decide)) (fun r1 w2 hp => ?_) rfl rfl
  obtain ⟨rfl, hc⟩ := hp
  have e := cpS_w hc
  refine ⟨⟨by rw [e.1]; exact Nat.le_refl _, Or.inl (by rw [e.1])⟩, ?_⟩
  refine z_aload_n (pc := 82) (i := 3) (j := 3) rfl rfl rfl ?_
  refine z_getR (pc := 83) (x := m + 13) rfl fl_SW_244 (by rw [e.1]; exact m3) rfl (by rw [e.2]; exact m5) ?_
  refine z_aload_n (pc := 86) (i := 0) (j := 0) rfl rfl rfl ?_
  refine z_getR (pc := 87) (x := 21) rfl fl_SW_31 (by rw [e.1]; exact hx.1) rfl (by rw [e.2]; exact hx.2.2.2.2.1) ?_
  refine z_cV (pc := 90) (mc1 := 0) (ms1 := 0) (mc2 := 0) (ms2 := 0) (as := [.ref 21]) (rest := []) (o := m + 13) rfl rfl (by rw [e.1]; exact m7.1) ok_Life_copy rfl rfl cl_SW_245 (show 1 < d by omega) (Nat.le_of_ble_eq_true rfl) (Nat.le_of_ble_eq_true rfl) (Nat.le_refl _) (Nat.le_refl _) (c_cpL (zLf_mv m7 e) (zLf_mv hx.2.2.2.2.2.2.2.2.2.2.2.2.1 e) (by omega) 1 (by decide)) (fun r1 w4 hp => ?_) rfl rfl
  obtain ⟨rfl, hc2⟩ := hp
  have e4 : w4.1 = w2.1 := by obtain ⟨f, e5, -⟩ := hc2; rw [e5]; rfl
  refine ⟨⟨by rw [e4]; exact Nat.le_refl _, Or.inl (by rw [e4])⟩, ?_⟩
  refine z_iconst (pc := 93) (v := 1) rfl (by decide) ?_
  exact z_zret (pc := 94) rfl rfl (by decide) (hP w2 w4 hc hc2)
set_option maxRecDepth 100000 in
set_option maxHeartbeats 800000 in
theorem c_SW_mark {w : zW} {s1 : Nat} (hx : zX w s1) (hM : ∀ k m, k < 4 → zR w 30 k = some m → mkS w m) (hL : lwS w s1) (hLm : ∀ k m, k < 4 → zR w 30 k = some m → lwS w (m + 1)) (h73 : 73 ≤ w.1.length) (hn : w.1.length + 30 < 1000000) (x t : Int32) (d : Nat) (hd : 6 ≤ d) : zS 22 3463 d m_SW_mark (mkR w s1 x t) 0 [(0, .ref 0), (1, .int x), (2, .int t)] [] w := by
  have hs1 : s1 = 4 ∨ s1 = 32 := hx.2.2.2.2.2.2.2.2.2.2.2.2.2.2.2.2
  have hout : (x < 0 ∨ 4 ≤ x) → mkR w s1 x t (some (.int 0)) w := fun h => ⟨fun _ => ⟨rfl, rfl⟩, fun k hk e => by
    rw [e] at h
    rcases h with h | h
    · exact absurd h (nI_pos (by omega))
    · exact absurd h (nI_ge (b := 4) hk (by decide))⟩
  refine z_iload_n (pc := 0) (i := 1) (j := 1) rfl rfl rfl ?_
  refine z_if_lt (pc := 1) (tgt := 9) rfl (by decide) (fun h1 => ?_) (fun h1 => ?_)
  · refine z_iconst (pc := 9) (v := 0) rfl (by decide) ?_
    exact z_zret (pc := 10) rfl rfl (by decide) (hout (Or.inl h1))
  refine z_iload_n (pc := 4) (i := 1) (j := 1) rfl rfl rfl ?_
  refine z_iconst (pc := 5) (v := 4) rfl (by decide) ?_
  refine z_icmp_lt (pc := 6) (tgt := 11) rfl (by decide) (fun h6 => ?_) (fun h6 => ?_)
  case refine_2 =>
    refine z_iconst (pc := 9) (v := 0) rfl (by decide) ?_
    exact z_zret (pc := 10) rfl rfl (by decide) (hout (Or.inr (Int32.not_lt.mp h6)))
  obtain ⟨k, hk0, rfl⟩ := nI_of h1
  have hk : k < 4 := (nI_ltI (a := k) (b := 4) hk0 (by decide)).mp h6
  have hin : ∀ (rv : Option Value) (w1 : zW), ((¬ t = 0 → zR w 30 k = none → rv = some (.int 0) ∧ w1 = w) ∧ (¬ t = 0 → ∀ m, zR w 30 k = some m → rv = some (.int 1) ∧ ∃ w2, cpS w s1 (m + 1) w2 ∧ cpL w2 21 (m + 13) w1) ∧ (t = 0 → rv = some (.int 1) ∧ ∃ m w0, ((zR w 30 k = some m ∧ w0 = w) ∨ (zR w 30 k = none ∧ m = w.1.length ∧ ∃ w', mrkP (zN w (2, 2)) m w' ∧ w0 = zsR w' 30 k (some m))) ∧ ∃ w2, cpS w0 (m + 1) s1 w2 ∧ cpL w2 (m + 13) 21 w1)) → mkR w s1 (nI k) t rv w1 := fun rv w1 h => ⟨fun z => by
    rcases z with z | z
    · exact absurd z h1
    · exact absurd h6 (Int32.not_lt.mpr z), fun k2 hk2 e => by
    obtain rfl : k = k2 := (nI_eq hk0 (by omega)).mp e
    exact h⟩
  refine z_aload_n (pc := 11) (i := 0) (j := 0) rfl rfl rfl ?_
  refine z_getR (pc := 12) (x := 30) rfl fl_SW_37 hx.1 rfl hx.2.2.2.2.2.1 ?_
  refine z_iload_n (pc := 15) (i := 1) (j := 1) rfl rfl rfl ?_
  refine z_aald2 (pc := 16) rfl hx.2.2.2.2.2.2.2.2.2.2.2.2.2.1 (vp_in_nI hk (by decide)) ?_
  rw [nI_clamp hk0]
  cases hq : zR w 30 k with
  | none =>
    refine z_eqs (st2 := [.null]) rfl rfl ?_
    refine z_astore_nN (pc := 17) (i := 3) (ls' := [(0, .ref 0), (1, .int (nI k)), (2, .int t), (3, .null)]) rfl rfl (by decide) rfl ?_
    refine z_iload_n (pc := 18) (i := 2) (j := 2) rfl rfl rfl ?_
    refine z_if_eq (pc := 19) (tgt := 52) rfl (by decide) (fun h19 => ?_) (fun h19 => ?_)
    · refine z_aload_nN (pc := 52) (i := 3) (j := 3) rfl rfl rfl ?_
      refine z_nonnullN (pc := 53) rfl ?_
      refine z_new (M := m_SW_mark) (idx := 35) (mc := 21) (ms := 3461) (w := w) (pc := 56) (c0 := 2) rfl rfl nl_SW_35 (by omega) (Or.inr ⟨fun q hq => ?_, fun v hv => (by cases hv)⟩) ?_
      · simp only [List.mem_cons, List.not_mem_nil, or_false] at hq
        rcases hq with rfl | rfl | rfl | rfl <;> (intro y hy; cases hy)
        exact Or.inl (show 0 < w.1.length by omega)
      generalize hm : w.1.length = m at *
      have km : (zN w (2, 2)).1[m]? = some (2, 2) := by show (w.1 ++ [(2, 2)])[m]? = _; rw [← hm]; simp
      have lm : (zN w (2, 2)).1.length = m + 1 := by rw [zN_len, hm]
      change zS _ _ _ _ _ _ _ [.ref m] (zN w (2, 2))
      refine z_dup (pc := 59) rfl rfl ?_
      refine z_cIN (pc := 60) (mc1 := 21) (ms1 := 3461) (mc2 := 0) (ms2 := 0) (as := []) (rest := [.ref m]) (o := m) rfl ok_Mark_init rfl rfl cl_SW_248 (show 4 < d by omega) (Nat.le_of_ble_eq_true rfl) (Nat.le_of_ble_eq_true rfl) (Nat.le_refl _) (Nat.le_refl _) (c_Mark_init (w := zN w (2, 2)) (o := m) km (by omega) (by omega) 4 (by decide)) (fun r1 w1 hp => ?_) rfl rfl
      obtain ⟨rfl, hp⟩ := hp
      have p1 := hp.1
      refine ⟨⟨by rw [lm, p1]; omega, Or.inr ⟨fun q hq => ?_, fun v hv => ?_⟩⟩, ?_⟩
      · simp only [List.mem_cons, List.not_mem_nil, or_false] at hq
        rcases hq with rfl | rfl | rfl | rfl <;> (intro y hy; cases hy)
        exact Or.inl (by show 0 < (zN w (2, 2)).1.length; omega)
      · rw [List.mem_singleton] at hv; subst hv; intro y hy; cases hy; exact Or.inl (by show m < (zN w (2, 2)).1.length; omega)
      refine z_astore_n (pc := 63) (i := 3) (ls' := [(0, .ref 0), (1, .int (nI k)), (2, .int t), (3, .ref m)]) rfl rfl (by decide) rfl ?_
      have hx1 : zX w1 s1 := zX_ex hx (fun a q e => hp.2.1 a q (zN_at e)) (fun a ha b => by
        have e1 := hp.2.2.1 a (by omega)
        rw [e1.2.2 b, zN_r _ _ (by omega)])
      refine z_aload_n (pc := 64) (i := 0) (j := 0) rfl rfl rfl ?_
      refine z_getR (pc := 65) (x := 30) rfl fl_SW_37 hx1.1 rfl hx1.2.2.2.2.2.1 ?_
      refine z_iload_n (pc := 68) (i := 1) (j := 1) rfl rfl rfl ?_
      refine z_aload_n (pc := 69) (i := 3) (j := 3) rfl rfl rfl ?_
      refine z_aast (pc := 70) rfl hx1.2.2.2.2.2.2.2.2.2.2.2.2.2.1 (hp.2.1 m _ km) (vp_in_nI hk (by decide)) ?_
      rw [nI_clamp hk0]
      refine l_mark71 (w := zsR w1 30 k (some m)) (s1 := s1) (m := m) (zX_ex hx1 (fun a q e => e) (fun a ha b => (exF_R (w := w1) (o := 30) (k := k) (some m) (by omega)).2.2 b)) ⟨by omega, by show m + 22 ≤ w1.1.length; omega, hp.2.1 m _ km, ((exF_R (w := w1) (o := 30) (k := k) (some m) (by omega)).2.2 0).trans hp.2.2.2.1, ((exF_R (w := w1) (o := 30) (k := k) (some m) (by omega)).2.2 1).trans hp.2.2.2.2.1, zSt_ex hp.2.2.2.2.2.1 (fun _ _ e => e) (fun a b h1 h2 => (exF_R (w := w1) (o := 30) (k := k) (some m) (by omega)).2.2 b), zLf_R hp.2.2.2.2.2.2 (by omega)⟩ (lwS_ex hL (fun a ha => by
        have e1 := hp.2.2.1 a (by omega)
        show zI w1 a = zI w a
        rw [e1.1, zN_i _ (by omega)]) hs1) d (by omega) (fun w2 w4 c1 c2 => hin _ _ ⟨fun z => absurd h19 z, fun z => absurd h19 z, fun _ => ⟨rfl, m, _, Or.inr ⟨hq, rfl, w1, hp, rfl⟩, w2, c1, c2⟩⟩)
    · refine z_aload_nN (pc := 22) (i := 3) (j := 3) rfl rfl rfl ?_
      refine z_nonnullN (pc := 23) rfl ?_
      refine z_iconst (pc := 26) (v := 0) rfl (by decide) ?_
      exact z_zret (pc := 27) rfl rfl (by decide) (hin _ _ ⟨fun _ _ => ⟨rfl, rfl⟩, fun _ m e => (by rw [hq] at e; cases e), fun z => absurd z h19⟩)
  | some m =>
    have hm := hM k m hk hq
    obtain ⟨m1, m2, m3, m4, m5, m6, m7⟩ := hm
    refine z_eqs (st2 := [.ref m]) rfl rfl ?_
    refine z_astore_n (pc := 17) (i := 3) (ls' := [(0, .ref 0), (1, .int (nI k)), (2, .int t), (3, .ref m)]) rfl rfl (by decide) rfl ?_
    refine z_iload_n (pc := 18) (i := 2) (j := 2) rfl rfl rfl ?_
    refine z_if_eq (pc := 19) (tgt := 52) rfl (by decide) (fun h19 => ?_) (fun h19 => ?_)
    · refine z_aload_n (pc := 52) (i := 3) (j := 3) rfl rfl rfl ?_
      refine z_nonnull (pc := 53) (tgt := 71) rfl (by decide) ?_
      refine z_more (mc := 0) (ms := 0) ?_ (by omega) (by omega)
      exact l_mark71 hx ⟨m1, m2, m3, m4, m5, m6, m7⟩ hL d (by omega) (fun w2 w4 c1 c2 => hin _ _ ⟨fun z => absurd h19 z, fun z => absurd h19 z, fun _ => ⟨rfl, m, w, Or.inl ⟨hq, rfl⟩, w2, c1, c2⟩⟩)
    · refine z_aload_n (pc := 22) (i := 3) (j := 3) rfl rfl rfl ?_
      refine z_nonnull (pc := 23) (tgt := 28) rfl (by decide) ?_
      refine z_aload_n (pc := 28) (i := 0) (j := 0) rfl rfl rfl ?_
      refine z_getR (pc := 29) (x := s1) rfl fl_SW_48 hx.1 rfl hx.2.2.2.2.2.2.2.1 ?_
      refine z_aload_n (pc := 32) (i := 3) (j := 3) rfl rfl rfl ?_
      refine z_getR (pc := 33) (x := m + 1) rfl fl_SW_239 m3 rfl m4 ?_
      refine z_cV (pc := 36) (mc1 := 0) (ms1 := 0) (mc2 := 0) (ms2 := 0) (as := [.ref (m + 1)]) (rest := []) (o := s1) rfl rfl hx.2.2.2.2.2.2.2.2.2.2.2.2.2.2.2.1.1 ok_Street_copy rfl rfl cl_SW_240 (show 2 < d by omega) (Nat.le_of_ble_eq_true rfl) (Nat.le_of_ble_eq_true rfl) (by omega) (by omega) (c_cpS hx.2.2.2.2.2.2.2.2.2.2.2.2.2.2.2.1 m6 (by omega) (hLm k m hk hq) 2 (by decide)) (fun r1 w2 hp => ?_) rfl rfl
      obtain ⟨rfl, hc⟩ := hp
      have e := cpS_w hc
      refine ⟨⟨by rw [e.1]; exact Nat.le_refl _, Or.inl (by rw [e.1])⟩, ?_⟩
      refine z_aload_n (pc := 39) (i := 0) (j := 0) rfl rfl rfl ?_
      refine z_getR (pc := 40) (x := 21) rfl fl_SW_31 (by rw [e.1]; exact hx.1) rfl (by rw [e.2]; exact hx.2.2.2.2.1) ?_
      refine z_aload_n (pc := 43) (i := 3) (j := 3) rfl rfl rfl ?_
      refine z_getR (pc := 44) (x := m + 13) rfl fl_SW_244 (by rw [e.1]; exact m3) rfl (by rw [e.2]; exact m5) ?_
      refine z_cV (pc := 47) (mc1 := 0) (ms1 := 0) (mc2 := 0) (ms2 := 0) (as := [.ref (m + 13)]) (rest := []) (o := 21) rfl rfl (by rw [e.1]; exact hx.2.2.2.2.2.2.2.2.2.2.2.2.1.1) ok_Life_copy rfl rfl cl_SW_245 (show 1 < d by omega) (Nat.le_of_ble_eq_true rfl) (Nat.le_of_ble_eq_true rfl) (Nat.le_refl _) (Nat.le_refl _) (c_cpL (zLf_mv hx.2.2.2.2.2.2.2.2.2.2.2.2.1 e) (zLf_mv m7 e) (by omega) 1 (by decide)) (fun r1 w4 hp => ?_) rfl rfl
      obtain ⟨rfl, hc2⟩ := hp
      have e4 : w4.1 = w2.1 := by obtain ⟨f, e5, -⟩ := hc2; rw [e5]; rfl
      refine ⟨⟨by rw [e4]; exact Nat.le_refl _, Or.inl (by rw [e4])⟩, ?_⟩
      refine z_iconst (pc := 50) (v := 1) rfl (by decide) ?_
      exact z_zret (pc := 51) rfl rfl (by decide) (hin _ _ ⟨fun _ e0 => (by rw [hq] at e0; cases e0), fun _ m0 e0 => by
        rw [hq] at e0
        obtain rfl := Option.some.inj e0
        exact ⟨rfl, w2, hc, hc2⟩, fun z => absurd z h19⟩)
