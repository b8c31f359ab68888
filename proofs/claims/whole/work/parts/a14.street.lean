/-! THE MODEL'S STREET -/
def mFy (o k : Nat) : Prop := mFx o k ∨ (o = 44 ∧ (k = 0 ∨ k = 1 ∨ k = 3))
def mFz (o k : Nat) : Prop := mFx o k ∨ (o = 44 ∧ (k = 1 ∨ k = 3))
theorem mFz_y (o k : Nat) (h : mFz o k) : mFy o k := by
  rcases h with h | h
  · exact Or.inl h
  · exact Or.inr ⟨h.1, Or.inr h.2⟩
/-- the object's draft as its reader begins it -/
def dBeg (s : Nat) (D : rDt) : Prop := D.1 = .inl 0 ∧ (D.2.1 s 7 = 8 ∧ D.2.1 s 8 = 8 ∧ D.2.1 s 9 = 1 ∧ D.2.1 s 10 = 0 ∧ D.2.1 s 11 = 0) ∧ (D.2.1 (s + 6) 2 = 1 ∧ D.2.1 (s + 7) 0 = 0 ∧ D.2.1 (s + 9) 2 = 1 ∧ D.2.1 (s + 10) 0 = -3) ∧ (D.2.1 3 10 = 0 ∧ D.2.1 3 11 = 0 ∧ D.2.1 3 12 = 0 ∧ D.2.1 3 13 = 0 ∧ D.2.1 3 14 = 0)
def raQ (T : Nat → Int32) (n s : Nat) (w0 : zW) (D : rDt) (rv : Option Value) (w1 : zW) : Prop := mFS mFz w0 w1 ∧ zI w1 44 1 = 0 ∧ (∀ p1, D.1 = .inl p1 → rv = some (.int 1) ∧ ∃ j, j ≤ 2000 ∧ DR w1 T s j D.2.1 D.2.2) ∧ ∀ k, D.1 = .inr k → rv = some (.int 0) ∧ zI w1 44 9 = k
theorem plain1_o (f : Nat → Nat → Int32) {o k : Nat} (h : ¬ (o = 46 ∧ 5 ≤ k ∧ k ≤ 9) ∧ ¬ ((o = 52 ∨ o = 53) ∧ (k = 2 ∨ k = 3))) : plain1 f o k = f o k := by
  unfold plain1
  rw [z2_nt _ _ (by omega), z2_nt _ _ (by omega), z2_nt _ _ (by omega), z2_nt _ _ (by omega), z2_nt _ _ (by omega), z2_nt _ _ (by omega), z2_nt _ _ (by omega), z2_nt _ _ (by omega), z2_nt _ _ (by omega)]
theorem mFS_u {S : Nat → Nat → Prop} {w : zW} {f : Nat → Nat → Int32} (h : ∀ o k, ¬ S o k → f o k = zI w o k) : mFS S w (zuI w f) := ⟨rfl, rfl, h, fun _ _ _ _ => rfl⟩
set_option maxRecDepth 100000 in
set_option maxHeartbeats 800000 in
theorem c_Mod_readsAll {w : zW} {T : Nat → Int32} {n s : Nat} {D : rDt} (hm : zMo w) (h1 : zI w 44 1 = nI n) (hn : n ≤ 1000) (h45 : zI w 45 = T) (ht : ∀ k, k < n → tok (T k) = true) (hs : 3 < s) (hD : dBeg s D) (d : Nat) (hd : 4 ≤ d) : zS 0 0 d m_Mod_readsAll (raQ T n s w (dAll T n s 1001 D)) 0 [(0, .ref 44)] [] w := by
  refine z_aload_n (pc := 0) (i := 0) (j := 0) rfl rfl rfl ?_
  refine z_iconst (pc := 1) (v := 1) rfl (by decide) ?_
  refine z_cV (pc := 2) (mc1 := 0) (ms1 := 0) (mc2 := 0) (ms2 := 0) (as := [.int 1]) (rest := []) (o := 44) rfl rfl hm.1 ok_Mod_plain rfl rfl cl_Mod_96 (by omega) (Nat.le_of_ble_eq_true rfl) (Nat.le_of_ble_eq_true rfl) (Nat.le_refl _) (Nat.le_refl _) (c_Mod_plain1 hm 0) (fun r1 w1 hp => ?_) rfl rfl
  obtain ⟨rfl, hw1⟩ := hp
  rw [hw1]
  refine ⟨⟨Nat.le_refl _, Or.inl rfl⟩, ?_⟩
  refine z_aload_n (pc := 5) (i := 0) (j := 0) rfl rfl rfl ?_
  refine z_iconst (pc := 6) (v := 0) rfl (by decide) ?_
  refine z_putI (pc := 7) rfl fl_Mod_221 hm.1 rfl  ?_
  refine z_aload_n (pc := 10) (i := 0) (j := 0) rfl rfl rfl ?_
  refine z_sipush (pc := 11) (v := 1000) rfl (by decide) ?_
  refine z_putI (pc := 14) rfl fl_Mod_139 hm.1 rfl  ?_
  refine z_aload_n (pc := 17) (i := 0) (j := 0) rfl rfl rfl ?_
  refine z_aload_n (pc := 18) (i := 0) (j := 0) rfl rfl rfl ?_
  refine z_getI (pc := 19) rfl fl_Mod_106 hm.1 rfl ?_
  refine z_eqi (y := nI n) h1 ?_
  refine z_putI (pc := 22) rfl fl_Mod_109 hm.1 rfl  ?_
  refine z_aload_n (pc := 25) (i := 0) (j := 0) rfl rfl rfl ?_
  refine z_iconst (pc := 26) (v := 0) rfl (by decide) ?_
  refine z_putI (pc := 27) rfl fl_Mod_106 hm.1 rfl  ?_
  refine z_aload_n (pc := 30) (i := 0) (j := 0) rfl rfl rfl ?_
  refine z_iconst (pc := 31) (v := 0) rfl (by decide) ?_
  refine z_putI (pc := 32) rfl fl_Mod_112 hm.1 rfl  ?_
  refine z_aload_n (pc := 35) (i := 0) (j := 0) rfl rfl rfl ?_
  refine z_nmw (fun w7 hw7 => ?_)
  have e1 : w7.1 = w.1 := by rw [hw7]; rfl
  have e2 : zR w7 = zR w := by rw [hw7]; rfl
  have eA : ∀ o k, o ≠ 44 → zI w7 o k = plain1 (zI w) o k := fun o k h => by rw [hw7]; exact (zI_nt _ _ (Or.inl h)).trans ((zI_nt _ _ (Or.inl h)).trans ((zI_nt _ _ (Or.inl h)).trans ((zI_nt _ _ (Or.inl h)).trans (zI_nt _ _ (Or.inl h)))))
  have eB : ∀ k, k ≠ 1 → k ≠ 3 → k ≠ 4 → k ≠ 19 → k ≠ 20 → zI w7 44 k = zI w 44 k := fun k h1 h2 h3 h4 h5 => by rw [hw7]; exact (zI_nt _ _ (Or.inr h3)).trans ((zI_nt _ _ (Or.inr h1)).trans ((zI_nt _ _ (Or.inr h2)).trans ((zI_nt _ _ (Or.inr h4)).trans ((zI_nt _ _ (Or.inr h5)).trans (show plain1 (zI w) 44 k = zI w 44 k from plain1_o _ (by omega))))))
  have e20 : zI w7 44 20 = 0 := by rw [hw7]; rfl
  have e19 : zI w7 44 19 = nI 1000 := by rw [hw7]; rfl
  have e3 : zI w7 44 3 = nI n := by rw [hw7]; rfl
  have e01 : zI w7 44 1 = 0 := by rw [hw7]; rfl
  have e4 : zI w7 44 4 = nI 0 := by rw [hw7]; rfl
  have eL : zL w7 = zL w := by rw [hw7]; rfl
  have hk7 : mK w7 n T := ⟨zMo_mv hm e1 e2, e3, hn, (funext fun i => (eA 45 i (by decide)).trans (plain1_o _ (by omega))).trans h45, ht⟩
  refine z_cV (pc := 36) (mc1 := 0) (ms1 := 0) (mc2 := 0) (ms2 := 0) (as := []) (rest := []) (o := 44) rfl rfl hk7.1.1 ok_Mod_nextToken rfl rfl cl_Mod_174 (by omega) (Nat.le_of_ble_eq_true rfl) (Nat.le_of_ble_eq_true rfl) (Nat.le_refl _) (Nat.le_refl _) (c_Mod_nextToken (w := w7) hk7 (p := 0) (Nat.zero_le _) e4 1 (by decide)) (fun r1 w8 hp => ?_) rfl rfl
  obtain ⟨rfl, hF8, hS8⟩ := hp
  refine ⟨⟨by rw [hF8.1]; exact Nat.le_refl _, Or.inl (by rw [hF8.1] <;> rfl)⟩, ?_⟩
  have hF89 := mF9_F hF8
  have c1 : ∀ o k, o ≠ 44 → zI w8 o k = plain1 (zI w) o k := fun o k h => (congrFun (hF8.2.2.1 o h) k).trans (eA o k h)
  have c2 : ∀ k, (k < 4 ∨ 8 < k) → zI w8 44 k = zI w7 44 k := fun k h => hF8.2.2.2.1 k h
  have hDR : DR w8 T s 1000 D.2.1 D.2.2 := by
    obtain ⟨-, b1, b2, b3⟩ := hD
    refine ⟨8, 8, 0, 1, 0, by omega, ⟨b1.1, b1.2.1, b1.2.2.1, b1.2.2.2.1, b1.2.2.2.2⟩, ⟨(c1 46 5 (by decide)).trans rfl, (c1 46 6 (by decide)).trans rfl, (c1 46 7 (by decide)).trans rfl, (c1 46 8 (by decide)).trans rfl, (c1 46 9 (by decide)).trans rfl⟩, fun h hh => absurd hh (Nat.not_lt_zero h), ⟨Or.inl b3.1, Or.inl b3.2.2.2.1, Or.inl b3.2.2.2.2, ?_⟩, Or.inl ⟨b3.2.1, (c1 52 2 (by decide)).trans rfl, (c1 53 2 (by decide)).trans rfl, b2.1, b2.2.1⟩, Or.inl ⟨b3.2.2.1, (c1 52 3 (by decide)).trans rfl, (c1 53 3 (by decide)).trans rfl, b2.2.2.1, b2.2.2.2⟩, Nat.le_refl _, (c2 19 (by decide)).trans e19⟩
    rw [b3.1, b3.2.2.2.1, b3.2.2.2.2]
    exact (c2 20 (by decide)).trans e20
  have hFy : mFS mFz w w8 := ⟨hF8.1.trans e1, hF8.2.1.trans e2, fun o k hk => ?_, fun o k h1 h2 => (hF8.2.2.2.2 o k h2).trans (congrFun (congrFun eL o) k)⟩
  · refine z_mono (fun rv w1 hr => ?_) (l_readsAll (T := T) (n := n) (s := s) (w0 := w8) hs hn (by omega) 1001 w8 0 1000 D (by omega) hD.1 (mFS_r _ _) (mK_F hk7 hF8) hS8 hDR (Nat.le_refl _))
    exact ⟨mFS_t hFy (mFS_m hr.1 (fun o k z => Or.inl z)), (hr.1.2.2.1 44 1 (by unfold mFx; omega)).trans ((c2 1 (by decide)).trans e01), hr.2.1, hr.2.2⟩
  · unfold mFz mFx at hk
    by_cases z : o = 44
    · subst z
      exact (c2 k (by omega)).trans (eB k (by omega) (by omega) (by omega) (by omega) (by omega))
    · exact (c1 o k z).trans (plain1_o _ (by omega))
def mStr (T : Nat → Int32) (n s : Nat) (w0 : zW) (D : rDt) (rv : Option Value) (w1 : zW) : Prop := rv = some (.int (fltS D.1)) ∧ ∃ w9, mFS mFy w0 w9 ∧ zI w9 44 1 = 0 ∧ zI w9 44 0 = 0 ∧ ((∃ k, D.1 = .inr k ∧ w1 = w9) ∨ ∃ p1 j, D.1 = .inl p1 ∧ j ≤ 2000 ∧ DR w9 T s j D.2.1 D.2.2 ∧ w1 = zuI w9 (zr (laysF (zI w9) 1 0) 67 (fillF (laysF (zI w9) 1 0 67) 0 1344)))
theorem zr_same (f : Nat → Nat → Int32) (o : Nat) : zr f o (f o) = f := by
  funext a
  unfold zr
  by_cases h : a = o
  · rw [if_pos h, h]
  · rw [if_neg h]
theorem zfill_s (w : zW) (f : Nat → Nat → Int32) (i : Nat) : zsI (zuI w (zr f 67 (fillF (f 67) 0 i))) 67 i 0 = zuI w (zr f 67 (fillF (f 67) 0 (i + 1))) := by
  show (w.1, z2 (zr f 67 (fillF (f 67) 0 i)) 67 i 0, zL w, zR w) = (w.1, zr f 67 (fillF (f 67) 0 (i + 1)), zL w, zR w)
  congr 2
  funext a b
  unfold z2 zr fillF
  by_cases h : a = 67
  · subst h
    simp only [true_and, if_true]
    by_cases hb : b = i
    · rw [if_pos hb, if_pos (by omega)]
    · rw [if_neg hb]
      by_cases h2 : b < i
      · rw [if_pos h2, if_pos (by omega)]
      · rw [if_neg h2, if_neg (by omega)]
  · rw [if_neg (fun e => h e.1), if_neg h, if_neg h]
set_option maxRecDepth 100000 in
set_option maxHeartbeats 400000 in
theorem l_Mod_street {w9 : zW} {P : Option Value → zW → Prop} (hm : zMo w9) (f : Nat → Nat → Int32) (d : Nat) (hP : P (some (.int 0)) (zuI w9 (zr f 67 (fillF (f 67) 0 1344)))) : ∀ (m i : Nat), i ≤ 1344 → 1344 ≤ i + m → zS 0 0 d m_Mod_street P 25 [(0, .ref 44), (1, .int (nI i))] [] (zuI w9 (zr f 67 (fillF (f 67) 0 i))) := by
  have hex : zS 0 0 d m_Mod_street P 25 [(0, .ref 44), (1, .int (nI 1344))] [] (zuI w9 (zr f 67 (fillF (f 67) 0 1344))) := by
    refine z_iload_n (pc := 25) (i := 1) (j := 1) rfl rfl rfl ?_
    refine z_sipush (pc := 26) (v := 1344) rfl (by decide) ?_
    refine z_icmp_ge (pc := 29) (tgt := 45) rfl (by decide) (fun h29 => ?_) (fun h29 => ?_)
    · refine z_iconst (pc := 45) (v := 0) rfl (by decide) ?_
      exact z_iret (pc := 46) rfl rfl hP
    · exact absurd (by decide) h29
  intro m
  induction m with
  | zero =>
    intro i hi h2
    obtain rfl : i = 1344 := by omega
    exact hex
  | succ m ih =>
    intro i hi h2
    by_cases hlt : i < 1344
    · skip
      refine z_iload_n (pc := 25) (i := 1) (j := 1) rfl rfl rfl ?_
      refine z_sipush (pc := 26) (v := 1344) rfl (by decide) ?_
      refine z_icmp_ge (pc := 29) (tgt := 45) rfl (by decide) (fun h29 => ?_) (fun h29 => ?_)
      · exact absurd h29 (nI_ge hlt (by decide))
      · refine z_aload_n (pc := 32) (i := 0) (j := 0) rfl rfl rfl ?_
        refine z_getR (pc := 33) (x := 67) rfl fl_Mod_78 hm.1 rfl (mr_67 hm) ?_
        refine z_iload_n (pc := 36) (i := 1) (j := 1) rfl rfl rfl ?_
        refine z_iconst (pc := 37) (v := 0) rfl (by decide) ?_
        refine z_iast (pc := 38) rfl (mk_67 hm) (vp_in_nI (n := i) (N := 1344) (by omega) (by decide)) ?_
        refine z_iinc (pc := 39) (i := 1) (j := 1) (v := nI (i + 1)) (ls' := [(0, .ref 44), (1, .int (nI (i + 1)))]) rfl rfl (nI_1 i) (by decide) rfl ?_
        refine z_goto (pc := 42) (tgt := 25) rfl (by decide) ?_
        have e : zsI (zuI w9 (zr f 67 (fillF (f 67) 0 i))) 67 (nI i).toNatClampNeg 0 = zuI w9 (zr f 67 (fillF (f 67) 0 (i + 1))) := by
          rw [nI_clamp (by omega)]
          exact zfill_s w9 f i
        rw [e]
        exact ih (i + 1) (by omega) (by omega)
    · obtain rfl : i = 1344 := by omega
      exact hex
theorem mStr_b {T : Nat → Int32} {n s : Nat} {w0 w1 : zW} {D : rDt} {k : Int32} (h : mFS mFy w0 w1) (h1 : zI w1 44 1 = 0) (h0 : zI w1 44 0 = 0) (hq : D.1 = .inr k) : mStr T n s w0 D (some (.int k)) w1 := ⟨by rw [hq]; rfl, w1, h, h1, h0, Or.inl ⟨k, hq, rfl⟩⟩
set_option maxRecDepth 100000 in
set_option maxHeartbeats 400000 in
theorem c_Mod_street {w : zW} {T : Nat → Int32} {n s : Nat} {D : rDt} (hm : zMo w) (h1 : zI w 44 1 = nI n) (hn : n ≤ 1000) (h45 : zI w 45 = T) (ht : ∀ k, k < n → tok (T k) = true) (hs : 3 < s) (hD : dBeg s D) (d : Nat) (hd : 5 ≤ d) : zS 0 0 d m_Mod_street (mStr T n s w (dAll T n s 1001 D)) 0 [(0, .ref 44)] [] w := by
  refine z_aload_n (pc := 0) (i := 0) (j := 0) rfl rfl rfl ?_
  refine z_iconst (pc := 1) (v := 0) rfl (by decide) ?_
  refine z_putI (pc := 2) rfl fl_Mod_100 hm.1 rfl  ?_
  refine z_aload_n (pc := 5) (i := 0) (j := 0) rfl rfl rfl ?_
  refine z_nmw (fun w5 hw5 => ?_)
  have f1 : w5.1 = w.1 := by rw [hw5]; rfl
  have f2 : zR w5 = zR w := by rw [hw5]; rfl
  have hm5 : zMo w5 := zMo_mv hm f1 f2
  have g1 : zI w5 44 1 = nI n := by rw [hw5]; exact (zI_nt w _ (Or.inr (by decide))).trans h1
  have g45 : zI w5 45 = T := by rw [hw5]; exact (zI_ne w _ _ (by decide)).trans h45
  have g0 : zI w5 44 0 = 0 := by rw [hw5]; rfl
  have hFw : mFS mFy w w5 := by rw [hw5]; exact mFS_I _ (Or.inr ⟨rfl, Or.inl rfl⟩)
  refine z_cV (pc := 6) (mc1 := 0) (ms1 := 0) (mc2 := 0) (ms2 := 0) (as := []) (rest := []) (o := 44) rfl rfl hm5.1 ok_Mod_readsAll rfl rfl cl_Mod_263 (by omega) (Nat.le_of_ble_eq_true rfl) (Nat.le_of_ble_eq_true rfl) (Nat.le_refl _) (Nat.le_refl _) (c_Mod_readsAll (w := w5) hm5 g1 hn g45 ht hs hD 4 (by decide)) (fun r1 w9 hp => ?_) rfl rfl
  obtain ⟨hF9, h91, hG9, hB9⟩ := hp
  refine ⟨⟨by rw [hF9.1]; exact Nat.le_refl _, Or.inl (by rw [hF9.1] <;> rfl)⟩, ?_⟩
  have hm9 : zMo w9 := zMo_mv hm5 hF9.1 hF9.2.1
  have h90 : zI w9 44 0 = 0 := (hF9.2.2.1 44 0 (by unfold mFz mFx; omega)).trans g0
  rcases q_or (dAll T n s 1001 D).1 with ⟨k1, hq⟩ | ⟨p1, hq⟩
  · skip
    obtain ⟨rfl, h99⟩ := hB9 k1 hq
    refine z_if_ne (pc := 9) (tgt := 17) rfl (by decide) (fun h9 => ?_) (fun h9 => ?_)
    · first | exact absurd h9 (by decide) | exact absurd (by decide) h9
    · refine z_aload_n (pc := 12) (i := 0) (j := 0) rfl rfl rfl ?_
      refine z_getI (pc := 13) rfl fl_Mod_136 hm9.1 rfl ?_
      refine z_eqi (y := k1) h99 ?_
      exact z_iret (pc := 16) rfl rfl (mStr_b (mFS_t hFw (mFS_m hF9 mFz_y)) h91 h90 hq)
  · skip
    obtain ⟨rfl, j, hj, hDR⟩ := hG9 p1 hq
    refine z_if_ne (pc := 9) (tgt := 17) rfl (by decide) (fun h9 => ?_) (fun h9 => ?_)
    · refine z_aload_n (pc := 17) (i := 0) (j := 0) rfl rfl rfl ?_
      refine z_iconst (pc := 18) (v := 1) rfl (by decide) ?_
      refine z_iconst (pc := 19) (v := 0) rfl (by decide) ?_
      refine z_cV (pc := 20) (mc1 := 0) (ms1 := 0) (mc2 := 0) (ms2 := 0) (as := [.int 1, .int 0]) (rest := []) (o := 44) rfl rfl hm9.1 ok_Mod_lays rfl rfl cl_Mod_266 (by omega) (Nat.le_of_ble_eq_true rfl) (Nat.le_of_ble_eq_true rfl) (Nat.le_refl _) (Nat.le_refl _) (c_Mod_lays (w := w9) hm9 (fr := 1) (to := 0) (by decide) (by decide) (by decide) 1 (by decide)) (fun r1 w1 hp => ?_) rfl rfl
      obtain ⟨rfl, hw1⟩ := hp
      rw [hw1]
      refine ⟨⟨Nat.le_refl _, Or.inl rfl⟩, ?_⟩
      refine z_iconst (pc := 23) (v := 0) rfl (by decide) ?_
      refine z_istore_n (pc := 24) (i := 1) (ls' := [(0, .ref 44), (1, .int 0)]) rfl rfl (by decide) rfl ?_
      have e0 : zuI w9 (laysF (zI w9) 1 0) = zuI w9 (zr (laysF (zI w9) 1 0) 67 (fillF (laysF (zI w9) 1 0 67) 0 0)) := by
        rw [fillF_0, zr_same]
      rw [e0]
      refine l_Mod_street hm9 (laysF (zI w9) 1 0) d ?_ 1344 0 (by decide) (by decide)
      exact ⟨by rw [hq]; rfl, w9, mFS_t hFw (mFS_m hF9 mFz_y), h91, h90, Or.inr ⟨p1, j, hq, hj, hDR, rfl⟩⟩
    · first | exact absurd h9 (by decide) | exact absurd (by decide) h9
