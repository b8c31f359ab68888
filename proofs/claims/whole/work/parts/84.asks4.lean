/-! THE OBJECT: when only two would meet; winds that fit -/
theorem rsum_cg {g h : Nat → Int32} : ∀ n, (∀ k, k < n → g k = h k) → rsum g n = rsum h n
  | 0, _ => rfl
  | n + 1, e => by
    show rsum g n + g n = rsum h n + h n
    rw [rsum_cg n (fun k hk => e k (by omega)), e n (Nat.lt_succ_self n)]
theorem onlyC_c {m m2 : Nat → Int32} {i j : Nat} (hi : i < 8) (hj : j < 8) (e : ∀ k, k < 8 → m k = m2 k) : onlyC m i j = onlyC m2 i j := by
  unfold onlyC
  rw [e i hi, e j hj, rsum_cg (g := fun k => bitc (m k)) (h := fun k => bitc (m2 k)) 8 (fun k hk => by rw [e k hk])]
def onlyT (f : Nat → Nat → Int32) (s C R H : Nat) (F G : Int32 → Int32 → Int32 → Int32) (i j t : Nat) : Int32 := onlyC (cset f s C R (cyv F (f 21 8 + nI t)) G (f 21 8 + nI t) (((f 21 10 ||| bitI i) ||| bitI j) &&& (f 21 11 ^^^ (-1))) H) i j
set_option maxRecDepth 100000 in
set_option maxHeartbeats 4000000 in
theorem l_SW_only {w : zW} {s C R H : Nat} {F G : Int32 → Int32 → Int32 → Int32} (hx : zX w s) (hi : zXi (zI w) s C R H F G) (hs : stIn (zI w) s C R H) {i j : Nat} (hi8 : i < 8) (hj8 : j < 8) (d : Nat) (hd : 5 ≤ d) : ∀ (m t : Nat) (f : Nat → Nat → Int32), t + m = 24 → cFr s w f → zS 0 0 d m_SW_only (fun rv w1 => ∃ f, w1 = zuI w f ∧ cFr s w f ∧ rv = some (.int (firstR (onlyT (zI w) s C R H F G i j) m t))) 40 [(0, .ref 0), (1, .int (nI i)), (2, .int (nI j)), (3, .int (((zI w 21 10 ||| bitI i) ||| bitI j) &&& (zI w 21 11 ^^^ (-1)))), (4, .int (nI t))] [] (zuI w f) := by
  intro m
  induction m with
  | zero =>
    intro t f htm hf
    obtain rfl : t = 24 := by omega
    refine z_iload (pc := 40) (i := 4) (j := 4) rfl rfl ?_
    refine z_bipush (pc := 42) (v := 24) rfl (by decide) ?_
    refine z_icmp_ge (pc := 44) (tgt := 76) rfl (by decide) (fun h44 => ?_) (fun h44 => absurd (by decide) h44)
    refine z_iconst (pc := 76) (v := (-1)) rfl (by decide) ?_
    exact z_iret (pc := 77) rfl rfl ⟨f, rfl, hf, rfl⟩
  | succ m ih =>
    intro t f htm hf
    · skip
      refine z_iload (pc := 40) (i := 4) (j := 4) rfl rfl ?_
      refine z_bipush (pc := 42) (v := 24) rfl (by decide) ?_
      refine z_icmp_ge (pc := 44) (tgt := 76) rfl (by decide) (fun h44 => ?_) (fun h44 => ?_)
      · exact absurd h44 (nI_ge (b := 24) (by omega) (by decide))
      · refine z_aload_n (pc := 47) (i := 0) (j := 0) rfl rfl rfl ?_
        refine z_iload (pc := 48) (i := 4) (j := 4) rfl rfl ?_
        refine z_iload_n (pc := 50) (i := 3) (j := 3) rfl rfl rfl ?_
        refine z_cV (pc := 51) (mc1 := 0) (ms1 := 0) (mc2 := 0) (ms2 := 0) (as := [.int (nI t), .int (((zI w 21 10 ||| bitI i) ||| bitI j) &&& (zI w 21 11 ^^^ (-1)))]) (rest := []) (o := 0) rfl rfl hx.1 ok_SW_rise rfl rfl cl_SW_129 (by omega) (Nat.le_of_ble_eq_true rfl) (Nat.le_of_ble_eq_true rfl) (Nat.le_refl _) (Nat.le_refl _) (c_riseF hx hi hs hf (nI t) (((zI w 21 10 ||| bitI i) ||| bitI j) &&& (zI w 21 11 ^^^ (-1))) 4 (by decide)) (fun r1 w1 hp => ?_) rfl rfl
        obtain ⟨f1, hw1, rfl, hf1, hm1⟩ := hp
        rw [hw1]
        refine ⟨⟨Nat.le_refl _, Or.inl rfl⟩, ?_⟩
        refine z_pop (pc := 54) rfl rfl ?_
        refine z_aload_n (pc := 55) (i := 0) (j := 0) rfl rfl rfl ?_
        refine z_getR (pc := 56) (x := 16) rfl fl_SW_24 hx.1 rfl hx.2.2.2.1 ?_
        refine z_iload_n (pc := 59) (i := 1) (j := 1) rfl rfl rfl ?_
        refine z_iload_n (pc := 60) (i := 2) (j := 2) rfl rfl rfl ?_
        refine z_cV (pc := 61) (mc1 := 0) (ms1 := 0) (mc2 := 0) (ms2 := 0) (as := [.int (nI i), .int (nI j)]) (rest := []) (o := 16) rfl rfl hx.2.2.2.2.2.2.2.2.2.2.2.1.1 ok_Smoke_onlyMet rfl rfl cl_SW_168 (by omega) (Nat.le_of_ble_eq_true rfl) (Nat.le_of_ble_eq_true rfl) (Nat.le_refl _) (Nat.le_refl _) (c_Smoke_onlyMet (w := zuI w f1) (a := 16) (hx.2.2.2.2.2.2.2.2.2.2.2.1) hi8 hj8 2 (by decide)) (fun r1 w1 hp => ?_) rfl rfl
        obtain ⟨rfl, hw2⟩ := hp
        rw [hw2, show onlyC (zI (zuI w f1) (16 + 1)) i j = onlyT (zI w) s C R H F G i j t from onlyC_c hi8 hj8 hm1]
        refine ⟨⟨Nat.le_refl _, Or.inl rfl⟩, ?_⟩
        refine z_if_eq (pc := 64) (tgt := 70) rfl (by decide) (fun h64 => ?_) (fun h64 => ?_)
        · refine z_iinc (pc := 70) (i := 4) (j := 4) (v := nI (t + 1)) (ls' := [(0, .ref 0), (1, .int (nI i)), (2, .int (nI j)), (3, .int (((zI w 21 10 ||| bitI i) ||| bitI j) &&& (zI w 21 11 ^^^ (-1)))), (4, .int (nI (t + 1)))]) rfl rfl (nI_1 t) (by decide) rfl ?_
          refine z_goto (pc := 73) (tgt := 40) rfl (by decide) ?_
          have e0 : firstR (onlyT (zI w) s C R H F G i j) (m + 1) t = firstR (onlyT (zI w) s C R H F G i j) m (t + 1) := if_pos h64
          rw [e0]
          exact ih (t + 1) f1 (by omega) hf1
        · refine z_iload (pc := 67) (i := 4) (j := 4) rfl rfl ?_
          exact z_iret (pc := 69) rfl rfl ⟨f1, rfl, hf1, by rw [show firstR (onlyT (zI w) s C R H F G i j) (m + 1) t = nI t from if_neg h64]⟩
set_option maxRecDepth 100000 in
set_option maxHeartbeats 4000000 in
theorem c_SW_only {w : zW} {s C R H : Nat} {F G : Int32 → Int32 → Int32 → Int32} (hx : zX w s) (hi : zXi (zI w) s C R H F G) (hs : stIn (zI w) s C R H) (a b : Int32) (d : Nat) (hd : 5 ≤ d) : zS 0 0 d m_SW_only (fun rv w1 => ∃ f, w1 = zuI w f ∧ cFr s w f ∧ rv = some (.int (if twoOK H a b = 0 then -1 else firstR (onlyT (zI w) s C R H F G a.toNatClampNeg b.toNatClampNeg) 24 0))) 0 [(0, .ref 0), (1, .int a), (2, .int b)] [] w := by
  refine z_aload_n (pc := 0) (i := 0) (j := 0) rfl rfl rfl ?_
  refine z_iload_n (pc := 1) (i := 1) (j := 1) rfl rfl rfl ?_
  refine z_iload_n (pc := 2) (i := 2) (j := 2) rfl rfl rfl ?_
  refine z_cV (pc := 3) (mc1 := 0) (ms1 := 0) (mc2 := 0) (ms2 := 0) (as := [.int a, .int b]) (rest := []) (o := 0) rfl rfl hx.1 ok_SW_areTwo rfl rfl cl_SW_143 (by omega) (Nat.le_of_ble_eq_true rfl) (Nat.le_of_ble_eq_true rfl) (Nat.le_refl _) (Nat.le_refl _) (c_SW_areTwo (w := w) hx hi.2.2.1 hi.2.2.2.2.2.1 a b 1 (by decide)) (fun r1 w1 hp => ?_) rfl rfl
  obtain ⟨rfl, hw1⟩ := hp
  rw [hw1]
  refine ⟨⟨Nat.le_refl _, Or.inl rfl⟩, ?_⟩
  refine z_if_ne (pc := 6) (tgt := 11) rfl (by decide) (fun h6 => ?_) (fun h6 => ?_)
  · have h2n := h6
    obtain ⟨i, j, hi1, hj1, rfl, rfl, hij⟩ := twoOK_of hi.2.2.2.2.2.1 h6
    have hH8 := hi.2.2.2.2.2.1
    refine z_aload_n (pc := 11) (i := 0) (j := 0) rfl rfl rfl ?_
    refine z_getR (pc := 12) (x := 21) rfl fl_SW_31 hx.1 rfl hx.2.2.2.2.1 ?_
    refine z_getI (pc := 15) rfl fl_SW_88 hx.2.2.2.2.2.2.2.2.2.2.2.2.1.1 rfl ?_
    refine z_iconst (pc := 18) (v := 1) rfl (by decide) ?_
    refine z_iload_n (pc := 19) (i := 1) (j := 1) rfl rfl rfl ?_
    refine z_ishl (pc := 20) rfl ?_
    refine z_ior (pc := 21) rfl ?_
    refine z_iconst (pc := 22) (v := 1) rfl (by decide) ?_
    refine z_iload_n (pc := 23) (i := 2) (j := 2) rfl rfl rfl ?_
    refine z_ishl (pc := 24) rfl ?_
    refine z_ior (pc := 25) rfl ?_
    refine z_aload_n (pc := 26) (i := 0) (j := 0) rfl rfl rfl ?_
    refine z_getR (pc := 27) (x := 21) rfl fl_SW_31 hx.1 rfl hx.2.2.2.2.1 ?_
    refine z_getI (pc := 30) rfl fl_SW_91 hx.2.2.2.2.2.2.2.2.2.2.2.2.1.1 rfl ?_
    refine z_iconst (pc := 33) (v := (-1)) rfl (by decide) ?_
    refine z_ixor (pc := 34) rfl ?_
    refine z_iand (pc := 35) rfl ?_
    refine z_istore_n (pc := 36) (i := 3) (ls' := [(0, .ref 0), (1, .int (nI i)), (2, .int (nI j)), (3, .int ((((zI w 21 10) ||| (1 <<< ((nI i) &&& 31))) ||| (1 <<< ((nI j) &&& 31))) &&& ((zI w 21 11) ^^^ (-1))))]) rfl rfl (by decide) rfl ?_
    refine z_iconst (pc := 37) (v := 0) rfl (by decide) ?_
    refine z_istore (pc := 38) (i := 4) (ls' := [(0, .ref 0), (1, .int (nI i)), (2, .int (nI j)), (3, .int ((((zI w 21 10) ||| (1 <<< ((nI i) &&& 31))) ||| (1 <<< ((nI j) &&& 31))) &&& ((zI w 21 11) ^^^ (-1)))), (4, .int 0)]) rfl (by decide) rfl ?_
    refine z_mono (fun r w9 h9 => ?_) (l_SW_only hx hi hs (show i < 8 by omega) (show j < 8 by omega) d hd 24 0 (zI w) rfl (cFr_r s w))
    obtain ⟨f9, a1, a2, a3⟩ := h9
    exact ⟨f9, a1, a2, by rw [if_neg h2n, nI_clamp (n := i) (by omega), nI_clamp (n := j) (by omega)]; exact a3⟩
  · refine z_iconst (pc := 9) (v := (-1)) rfl (by decide) ?_
    exact z_iret (pc := 10) rfl rfl ⟨zI w, rfl, cFr_r s w, by rw [if_pos h6]⟩
def sgM (f : Nat → Nat → Int32) (m : Nat → Int32) : Nat → Bool
  | 0 => true
  | n + 1 => sgM f m n && decide ((m (f 27 n).toNatClampNeg >>> (f 28 n &&& 31)) &&& 1 = f 29 n)
theorem sgOK_m {f g : Nat → Nat → Int32} {m : Nat → Int32} (e7 : g 27 = f 27) (e8 : g 28 = f 28) (e9 : g 29 = f 29) (em : ∀ j, j < 8 → g 17 j = m j) : ∀ n, (∀ k, k < n → vp_in (f 27 k) 8) → sgOK g 21 16 n = sgM f m n
  | 0, _ => rfl
  | n + 1, hv => by
    show (sgOK g 21 16 n && decide ((g 17 (g 27 n).toNatClampNeg >>> (g 28 n &&& 31)) &&& 1 = g 29 n)) = (sgM f m n && decide ((m (f 27 n).toNatClampNeg >>> (f 28 n &&& 31)) &&& 1 = f 29 n))
    have h8 : (f 27 n).toNatClampNeg < 8 := Nat.lt_of_not_le (fun z => hv n (Nat.lt_succ_self n) (Or.inr z))
    rw [sgOK_m e7 e8 e9 em n (fun k hk => hv k (by omega)), e7, e8, e9, em _ h8]
def fitT (f : Nat → Nat → Int32) (s C R H : Nat) (G : Int32 → Int32 → Int32 → Int32) (n q : Nat) : Int32 := if sgM f (cset f s C R q G (f 21 8) (f 21 10 &&& (f 21 11 ^^^ (-1))) H) n = true then bitI q else 0
set_option maxRecDepth 100000 in
set_option maxHeartbeats 4000000 in
theorem l_SW_fits {w : zW} {s C R H : Nat} {F G : Int32 → Int32 → Int32 → Int32} (hx : zX w s) (hi : zXi (zI w) s C R H F G) (hs : stIn (zI w) s C R H) {n : Nat} (hn : zI w 21 12 = nI n) (hn1 : n ≤ 10) (hv : ∀ k, k < n → vp_in (zI w 27 k) 8) (d : Nat) (hd : 4 ≤ d) : ∀ (m t : Nat) (f : Nat → Nat → Int32), t + m = 8 → cFr s w f → zS 0 0 d m_SW_fits (fun rv w1 => ∃ f, w1 = zuI w f ∧ cFr s w f ∧ rv = some (.int (orN (fitT (zI w) s C R H G n) 8))) 4 [(0, .ref 0), (1, .int (orN (fitT (zI w) s C R H G n) t)), (2, .int (nI t))] [] (zuI w f) := by
  have hss := (hx.2.2.2.2.2.2.2.2.2.2.2.2.2.2.2.2)
  intro m
  induction m with
  | zero =>
    intro t f htm hf
    obtain rfl : t = 8 := by omega
    refine z_iload_n (pc := 4) (i := 2) (j := 2) rfl rfl rfl ?_
    refine z_bipush (pc := 5) (v := 8) rfl (by decide) ?_
    refine z_icmp_ge (pc := 7) (tgt := 62) rfl (by decide) (fun h7 => ?_) (fun h7 => absurd (by decide) h7)
    refine z_iload_n (pc := 62) (i := 1) (j := 1) rfl rfl rfl ?_
    exact z_iret (pc := 63) rfl rfl ⟨f, rfl, hf, rfl⟩
  | succ m ih =>
    intro t f htm hf
    have e21 : f 21 = zI w 21 := hf 21 (by omega) (by omega) (by omega) (by omega) (by omega) (by omega)
    · skip
      refine z_iload_n (pc := 4) (i := 2) (j := 2) rfl rfl rfl ?_
      refine z_bipush (pc := 5) (v := 8) rfl (by decide) ?_
      refine z_icmp_ge (pc := 7) (tgt := 62) rfl (by decide) (fun h7 => ?_) (fun h7 => ?_)
      · exact absurd h7 (nI_ge (b := 8) (by omega) (by decide))
      · refine z_aload_n (pc := 10) (i := 0) (j := 0) rfl rfl rfl ?_
        refine z_getR (pc := 11) (x := 16) rfl fl_SW_24 hx.1 rfl hx.2.2.2.1 ?_
        refine z_aload_n (pc := 14) (i := 0) (j := 0) rfl rfl rfl ?_
        refine z_getR (pc := 15) (x := s) rfl fl_SW_48 hx.1 rfl hx.2.2.2.2.2.2.2.1 ?_
        refine z_aload_n (pc := 18) (i := 0) (j := 0) rfl rfl rfl ?_
        refine z_getR (pc := 19) (x := 21) rfl fl_SW_31 hx.1 rfl hx.2.2.2.2.1 ?_
        refine z_getI (pc := 22) rfl fl_SW_104 hx.2.2.2.2.2.2.2.2.2.2.2.2.1.1 rfl ?_
        refine z_eqi (y := zI w 21 8) (congrFun e21 8) ?_
        refine z_iload_n (pc := 25) (i := 2) (j := 2) rfl rfl rfl ?_
        refine z_aload_n (pc := 26) (i := 0) (j := 0) rfl rfl rfl ?_
        refine z_getR (pc := 27) (x := 21) rfl fl_SW_31 hx.1 rfl hx.2.2.2.2.1 ?_
        refine z_cV (pc := 30) (mc1 := 0) (ms1 := 0) (mc2 := 0) (ms2 := 0) (as := []) (rest := [.int (nI t), .int (zI w 21 8), .ref s, .ref 16]) (o := 21) rfl rfl hx.2.2.2.2.2.2.2.2.2.2.2.2.1.1 ok_Life_burning rfl rfl cl_SW_126 (by omega) (Nat.le_of_ble_eq_true rfl) (Nat.le_of_ble_eq_true rfl) (Nat.le_refl _) (Nat.le_refl _) (c_Life_burning (w := zuI w f) (hx.2.2.2.2.2.2.2.2.2.2.2.2.1) 0) (fun r1 w1 hp => ?_) rfl rfl
        obtain ⟨rfl, hw1⟩ := hp
        rw [hw1, show zI (zuI w f) 21 = zI w 21 from e21]
        refine ⟨⟨Nat.le_refl _, Or.inl rfl⟩, ?_⟩
        refine z_cV (pc := 33) (mc1 := 0) (ms1 := 0) (mc2 := 0) (ms2 := 0) (as := [.ref s, .int (zI w 21 8), .int (nI t), .int (zI w 21 10 &&& (zI w 21 11 ^^^ (-1)))]) (rest := []) (o := 16) rfl rfl hx.2.2.2.2.2.2.2.2.2.2.2.1.1 ok_Smoke_rise rfl rfl cl_SW_136 (by omega) (Nat.le_of_ble_eq_true rfl) (Nat.le_of_ble_eq_true rfl) (Nat.le_refl _) (Nat.le_refl _) (c_airF hx hi hs hf (zI w 21 8) (zI w 21 10 &&& (zI w 21 11 ^^^ (-1))) (yv := t) (by omega) 3 (by decide)) (fun r1 w1 hp => ?_) rfl rfl
        obtain ⟨f1, hw1, rfl, hf1, hm1⟩ := hp
        rw [hw1]
        refine ⟨⟨Nat.le_refl _, Or.inl rfl⟩, ?_⟩
        have g21 : f1 21 = zI w 21 := hf1 21 (by omega) (by omega) (by omega) (by omega) (by omega) (by omega)
        have g27 : f1 27 = zI w 27 := hf1 27 (by omega) (by omega) (by omega) (by omega) (by omega) (by omega)
        have g28 : f1 28 = zI w 28 := hf1 28 (by omega) (by omega) (by omega) (by omega) (by omega) (by omega)
        have g29 : f1 29 = zI w 29 := hf1 29 (by omega) (by omega) (by omega) (by omega) (by omega) (by omega)
        refine z_aload_n (pc := 36) (i := 0) (j := 0) rfl rfl rfl ?_
        refine z_getR (pc := 37) (x := 21) rfl fl_SW_31 hx.1 rfl hx.2.2.2.2.1 ?_
        refine z_aload_n (pc := 40) (i := 0) (j := 0) rfl rfl rfl ?_
        refine z_getR (pc := 41) (x := 16) rfl fl_SW_24 hx.1 rfl hx.2.2.2.1 ?_
        refine z_cV (pc := 44) (mc1 := 0) (ms1 := 0) (mc2 := 0) (ms2 := 0) (as := [.ref 16]) (rest := []) (o := 21) rfl rfl hx.2.2.2.2.2.2.2.2.2.2.2.2.1.1 ok_Life_allSightsAreSo rfl rfl cl_SW_205 (by omega) (Nat.le_of_ble_eq_true rfl) (Nat.le_of_ble_eq_true rfl) (Nat.le_refl _) (Nat.le_refl _) (c_Life_allSightsAreSo (w := zuI w f1) (l := 21) (a := 16) (n := n) (hx.2.2.2.2.2.2.2.2.2.2.2.2.1) (hx.2.2.2.2.2.2.2.2.2.2.2.1) ((congrFun g21 12).trans hn) hn1 (fun k hk => by show vp_in (f1 27 k) 8; rw [g27]; exact hv k hk) 0) (fun r1 w1 hp => ?_) rfl rfl
        obtain ⟨rfl, hw2⟩ := hp
        rw [hw2, show sgOK (zI (zuI w f1)) 21 16 n = sgM (zI w) (cset (zI w) s C R t G (zI w 21 8) (zI w 21 10 &&& (zI w 21 11 ^^^ (-1))) H) n from sgOK_m g27 g28 g29 hm1 n hv]
        refine ⟨⟨Nat.le_refl _, Or.inl rfl⟩, ?_⟩
        refine z_if_eq (pc := 47) (tgt := 56) rfl (by decide) (fun h47 => ?_) (fun h47 => ?_)
        · refine z_iinc (pc := 56) (i := 2) (j := 2) (v := nI (t + 1)) (ls' := [(0, .ref 0), (1, .int (orN (fitT (zI w) s C R H G n) t)), (2, .int (nI (t + 1)))]) rfl rfl (nI_1 t) (by decide) rfl ?_
          refine z_goto (pc := 59) (tgt := 4) rfl (by decide) ?_
          have e0 : orN (fitT (zI w) s C R H G n) (t + 1) = orN (fitT (zI w) s C R H G n) t := by
            show orN (fitT (zI w) s C R H G n) t ||| fitT (zI w) s C R H G n t = _
            unfold fitT
            rw [if_neg (ite_eq h47), Int32.or_zero]
          have kk := ih (t + 1) f1 (by omega) hf1
          rw [e0] at kk
          exact kk
        · refine z_iload_n (pc := 50) (i := 1) (j := 1) rfl rfl rfl ?_
          refine z_iconst (pc := 51) (v := 1) rfl (by decide) ?_
          refine z_iload_n (pc := 52) (i := 2) (j := 2) rfl rfl rfl ?_
          refine z_ishl (pc := 53) rfl ?_
          refine z_ior (pc := 54) rfl ?_
          refine z_istore_n (pc := 55) (i := 1) (ls' := [(0, .ref 0), (1, .int ((orN (fitT (zI w) s C R H G n) t) ||| (1 <<< ((nI t) &&& 31)))), (2, .int (nI t))]) rfl rfl (by decide) rfl ?_
          refine z_iinc (pc := 56) (i := 2) (j := 2) (v := nI (t + 1)) (ls' := [(0, .ref 0), (1, .int ((orN (fitT (zI w) s C R H G n) t) ||| (1 <<< ((nI t) &&& 31)))), (2, .int (nI (t + 1)))]) rfl rfl (nI_1 t) (by decide) rfl ?_
          refine z_goto (pc := 59) (tgt := 4) rfl (by decide) ?_
          have e0 : orN (fitT (zI w) s C R H G n) (t + 1) = orN (fitT (zI w) s C R H G n) t ||| bitI t := by
            show orN (fitT (zI w) s C R H G n) t ||| fitT (zI w) s C R H G n t = _
            unfold fitT
            rw [if_pos (ite_ne h47)]
          have kk := ih (t + 1) f1 (by omega) hf1
          rw [e0] at kk
          exact kk
set_option maxRecDepth 100000 in
set_option maxHeartbeats 4000000 in
theorem c_SW_fits {w : zW} {s C R H : Nat} {F G : Int32 → Int32 → Int32 → Int32} (hx : zX w s) (hi : zXi (zI w) s C R H F G) (hs : stIn (zI w) s C R H) {n : Nat} (hn : zI w 21 12 = nI n) (hn1 : n ≤ 10) (hv : ∀ k, k < n → vp_in (zI w 27 k) 8) (d : Nat) (hd : 4 ≤ d) : zS 0 0 d m_SW_fits (fun rv w1 => ∃ f, w1 = zuI w f ∧ cFr s w f ∧ rv = some (.int (orN (fitT (zI w) s C R H G n) 8))) 0 [(0, .ref 0)] [] w := by
  refine z_iconst (pc := 0) (v := 0) rfl (by decide) ?_
  refine z_istore_n (pc := 1) (i := 1) (ls' := [(0, .ref 0), (1, .int 0)]) rfl rfl (by decide) rfl ?_
  refine z_iconst (pc := 2) (v := 0) rfl (by decide) ?_
  refine z_istore_n (pc := 3) (i := 2) (ls' := [(0, .ref 0), (1, .int 0), (2, .int 0)]) rfl rfl (by decide) rfl ?_
  exact l_SW_fits hx hi hs hn hn1 hv d hd 8 0 (zI w) rfl (cFr_r s w)
