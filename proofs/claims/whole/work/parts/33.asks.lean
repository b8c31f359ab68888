theorem msb8 (x : Int32) : (x ^^^ 8).toBitVec.msb = x.toBitVec.msb := by
  show (x.toBitVec ^^^ (8 : Int32).toBitVec).msb = _
  rw [BitVec.msb_xor]
  have : (8 : Int32).toBitVec.msb = false := by decide
  rw [this, Bool.xor_false]
theorem sgn8 {x : Int32} (h : 0 ≤ (x ^^^ 8).toInt) : 0 ≤ x.toInt := by
  have h1 : 0 ≤ (x ^^^ 8).toBitVec.toInt := h
  have e := msb8 x
  show 0 ≤ x.toBitVec.toInt
  rw [BitVec.toInt_eq_msb_cond] at h1 ⊢
  rw [e] at h1
  have hl := (x ^^^ 8).toBitVec.isLt
  split
  · rename_i hm; rw [if_pos hm] at h1; omega
  · omega
theorem sgn8n {x : Int32} (h : ¬ 0 ≤ (x ^^^ 8).toInt) : x.toInt < 0 := by
  have h1 : ¬ 0 ≤ (x ^^^ 8).toBitVec.toInt := h
  have e := msb8 x
  show x.toBitVec.toInt < 0
  rw [BitVec.toInt_eq_msb_cond] at h1 ⊢
  rw [e] at h1
  have hl := x.toBitVec.isLt
  split
  · omega
  · rename_i hm; rw [if_neg hm] at h1; omega
set_option maxRecDepth 100000 in
set_option maxHeartbeats 4000000 in
theorem c_SW_wind {w : zW} {s : Nat} (hx : zX w s) {F : Int32 → Int32 → Int32 → Int32} (hF : zLaw (zI w) (s + 6) F) (b : Int32) (d : Nat) (hd : 3 ≤ d) : zS 0 0 d m_SW_wind (fun rv w1 => ∃ f, w1 = zuI w f ∧ rv = some (.int (if b < 0 then -1 else if b ≤ 9999 then fmod8 (F (zI w 21 8 + b) 0 0) else -1)) ∧ ∀ o, o ≠ s + 8 → f o = zI w o) 0 [(0, .ref 0), (1, .int b)] [] w := by
  refine z_iload_n (pc := 0) (i := 1) (j := 1) rfl rfl rfl ?_
  refine z_if_lt (pc := 1) (tgt := 11) rfl (by decide) (fun h1 => ?_) (fun h1 => ?_)
  · refine z_iconst (pc := 11) (v := (-1)) rfl (by decide) ?_
    refine z_goto (pc := 12) (tgt := 31) rfl (by decide) ?_
    exact z_iret (pc := 31) rfl rfl ⟨zI w, rfl, by rw [if_pos h1], fun _ _ => rfl⟩
  · refine z_iload_n (pc := 4) (i := 1) (j := 1) rfl rfl rfl ?_
    refine z_sipush (pc := 5) (v := 9999) rfl (by decide) ?_
    refine z_icmp_le (pc := 8) (tgt := 15) rfl (by decide) (fun h8 => ?_) (fun h8 => ?_)
    · refine z_aload_n (pc := 15) (i := 0) (j := 0) rfl rfl rfl ?_
      refine z_getR (pc := 16) (x := s) rfl fl_SW_48 hx.1 rfl hx.2.2.2.2.2.2.2.1 ?_
      refine z_aload_n (pc := 19) (i := 0) (j := 0) rfl rfl rfl ?_
      refine z_getR (pc := 20) (x := 21) rfl fl_SW_31 hx.1 rfl hx.2.2.2.2.1 ?_
      refine z_getI (pc := 23) rfl fl_SW_104 hx.2.2.2.2.2.2.2.2.2.2.2.2.1.1 rfl ?_
      refine z_iload_n (pc := 26) (i := 1) (j := 1) rfl rfl rfl ?_
      refine z_iadd (pc := 27) rfl ?_
      refine z_cV (pc := 28) (mc1 := 0) (ms1 := 0) (mc2 := 0) (ms2 := 0) (as := [.int ((zI w 21 8) + b)]) (rest := []) (o := s) rfl rfl hx.2.2.2.2.2.2.2.2.2.2.2.2.2.2.2.1.1 ok_Street_windIn rfl rfl cl_SW_107 (by omega) (Nat.le_of_ble_eq_true rfl) (Nat.le_of_ble_eq_true rfl) (Nat.le_refl _) (Nat.le_refl _) (c_Street_windIn (w := w) (hx.2.2.2.2.2.2.2.2.2.2.2.2.2.2.2.1) hF (zI w 21 8 + b) 2 (by decide)) (fun r1 w1 hp => ?_) rfl rfl
      obtain ⟨f1, hw1, rfl, hf1⟩ := hp
      rw [hw1]
      refine ⟨⟨Nat.le_refl _, Or.inl rfl⟩, ?_⟩
      exact z_iret (pc := 31) rfl rfl ⟨f1, rfl, by rw [if_neg h1, if_pos h8], hf1⟩
    · refine z_iconst (pc := 11) (v := (-1)) rfl (by decide) ?_
      refine z_goto (pc := 12) (tgt := 31) rfl (by decide) ?_
      exact z_iret (pc := 31) rfl rfl ⟨zI w, rfl, by rw [if_neg h1, if_neg h8], fun _ _ => rfl⟩
theorem td8 (z : Int) : (0 ≤ z → z.tdiv 8 = z / 8) ∧ (z < 0 → z.tdiv 8 = -((-z) / 8)) := by
  refine ⟨fun h => Int.tdiv_eq_ediv_of_nonneg h, fun h => ?_⟩
  calc z.tdiv 8 = (-(-z)).tdiv 8 := by rw [Int.neg_neg]
    _ = -((-z).tdiv 8) := Int.neg_tdiv _ _
    _ = -((-z) / 8) := by rw [Int.tdiv_eq_ediv_of_nonneg (by omega)]
theorem rem8 (x : Int32) : (x - x / 8 * 8).toInt = x.toInt - x.toInt.tdiv 8 * 8 := by
  have e8 : (8 : Int32).toInt = 8 := rfl
  have hx := fb_rng x
  have tt := td8 x.toInt
  have hdiv : (x / 8).toInt = x.toInt.tdiv 8 := by
    rw [Int32.toInt_div, e8]
    generalize x.toInt.tdiv 8 = q at tt ⊢
    exact fb_bmod (by omega) (by omega)
  generalize x.toInt.tdiv 8 = q at tt hdiv ⊢
  have hmul : (x / 8 * 8).toInt = q * 8 := by
    rw [fb_mulI (by rw [hdiv, e8]; omega) (by rw [hdiv, e8]; omega), hdiv, e8]
  rw [fb_subI (by rw [hmul]; omega) (by rw [hmul]; omega), hmul]
theorem fmod8_int (x : Int32) : (fmod8 x).toInt = x.toInt % 8 := by
  have e8 : (8 : Int32).toInt = 8 := rfl
  have hr := rem8 x
  obtain ⟨t1, t2⟩ := td8 x.toInt
  unfold fmod8
  by_cases h0 : 0 ≤ x ^^^ 8
  · rw [if_pos h0, hr]
    have hx0 : 0 ≤ x.toInt := sgn8 ((fa_le 0 (x ^^^ 8)).mp h0)
    rw [t1 hx0]; omega
  · rw [if_neg h0]
    have hx0 : x.toInt < 0 := sgn8n (fun z => h0 ((fa_le 0 (x ^^^ 8)).mpr z))
    rw [t2 hx0] at hr
    by_cases h1 : x - x / 8 * 8 = 0
    · rw [if_pos h1, h1]
      rw [h1] at hr
      have : (0 : Int32).toInt = 0 := rfl
      omega
    · rw [if_neg h1]
      have hne : (x - x / 8 * 8).toInt ≠ 0 := fun z => h1 (Int32.toInt_inj.mp (by rw [z]; rfl))
      rw [hr] at hne
      have hx := fb_rng x
      rw [fb_addI (by rw [hr, e8]; omega) (by rw [hr, e8]; omega), hr, e8]
      omega
theorem fmod8_and (x : Int32) : fmod8 x = x &&& 7 := by
  apply Int32.toInt_inj.mp
  rw [fmod8_int, pk_and x (m := 7) 3 rfl, nI_toInt (by omega)]
  have h : x.toInt = x.toBitVec.toInt := rfl
  rw [h, BitVec.toInt_eq_toNat_cond]
  have hl := x.toBitVec.isLt
  split <;> omega
theorem fmod8_n (x : Int32) : ∃ k : Nat, k < 8 ∧ fmod8 x = nI k := by
  rw [fmod8_and]
  obtain ⟨j, hj, e⟩ := pk_andE x (m := 7) 3 rfl
  exact ⟨j, hj, e⟩
