/-! MARK and FEED of the model -/
def mkBack (f : Nat → Nat → Int32) (k : Nat) : Nat → Nat → Int32 := zr (laysF (z2 f 72 k 1) (2 + k) 0) 67 (fb_put (laysF (z2 f 72 k 1) (2 + k) 0 67) (fun j => laysF (z2 f 72 k 1) (2 + k) 0 68 (1344 * k + j)) 0 1344)
def mkLay (f : Nat → Nat → Int32) (k : Nat) : Nat → Nat → Int32 := zr (laysF (z2 f 72 k 1) 0 (2 + k)) 68 (fb_put (laysF (z2 f 72 k 1) 0 (2 + k) 68) (fun j => laysF (z2 f 72 k 1) 0 (2 + k) 67 (0 + j)) (1344 * k) 1344)
def mkF (f : Nat → Nat → Int32) (x t : Int32) : Nat → Nat → Int32 := if (if x < 0 then 0 else if 3 < x then 0 else 1 : Int32) = 0 then z2 f 44 0 0 else if t = 0 then mkLay (z2 f 44 0 0) x.toNatClampNeg else if f 72 x.toNatClampNeg = 0 then z2 f 44 0 0 else mkBack (z2 f 44 0 0) x.toNatClampNeg
def mkV (f : Nat → Nat → Int32) (x t : Int32) : Int32 := if (if x < 0 then 0 else if 3 < x then 0 else 1 : Int32) = 0 then 0 else if t = 0 then 1 else if f 72 x.toNatClampNeg = 0 then 0 else 1
set_option maxRecDepth 100000 in
set_option maxHeartbeats 4000000 in
theorem c_Mod_mark {w : zW} (hm : zMo w) {C R H : Nat} {V : Int32 → Int32} {G : Int32 → Int32 → Int32 → Int32} (hi : zMi (zI w) C R H V G) (x t : Int32) (d : Nat) (hd : 2 ≤ d) : zS 0 0 d m_Mod_mark (fun rv w1 => rv = some (.int (mkV (zI w) x t)) ∧ w1 = zuI w (mkF (zI w) x t)) 0 [(0, .ref 44), (1, .int x), (2, .int t)] [] w := by
  refine z_aload_n (pc := 0) (i := 0) (j := 0) rfl rfl rfl ?_
  refine z_iconst (pc := 1) (v := 0) rfl (by decide) ?_
  refine z_putI (pc := 2) rfl fl_Mod_100 hm.1 rfl  ?_
  change zS _ _ _ _ _ _ _ _ (zuI w (z2 (zI w) 44 0 0))
  obtain ⟨f0, hf0⟩ : ∃ f0, f0 = z2 (zI w) 44 0 0 := ⟨_, rfl⟩
  rw [← hf0]
  have F_f0 : zFr w f0 := hf0 ▸ zFr_0 w
  refine z_iload_n (pc := 5) (i := 1) (j := 1) rfl rfl rfl ?_
  refine z_iconst (pc := 6) (v := 0) rfl (by decide) ?_
  refine z_iconst (pc := 7) (v := 3) rfl (by decide) ?_
  refine z_cS (pc := 8) (mc1 := 0) (ms1 := 0) (mc2 := 0) (ms2 := 0) (as := [.int x, .int 0, .int 3]) (rest := []) ok_Mod_within rfl rfl cl_Mod_214 (by omega) (Nat.le_of_ble_eq_true rfl) (Nat.le_of_ble_eq_true rfl) (Nat.le_refl _) (Nat.le_refl _) (c_Mod_within x 0 3 0 _) (fun r1 w1 hp => ?_) rfl rfl
  obtain ⟨rfl, hw1⟩ := hp
  rw [hw1]
  refine ⟨⟨Nat.le_refl _, Or.inl rfl⟩, ?_⟩
  refine z_if_eq (pc := 11) (tgt := 27) rfl (by decide) (fun h11 => ?_) (fun h11 => ?_)
  · refine z_iconst (pc := 27) (v := 0) rfl (by decide) ?_
    exact z_zret (pc := 28) rfl rfl (by decide) ⟨by unfold mkV; rw [if_pos h11], by unfold mkF; rw [if_pos h11, ← hf0]⟩
  · obtain ⟨k, hk, rfl⟩ : ∃ n : Nat, n ≤ 3 ∧ x = nI n := by
      have z1 : (0 : Int32).toInt = 0 := rfl
      have zk : (3 : Int32).toInt = 3 := rfl
      have := wi1_of h11
      exact ⟨x.toInt.toNat, by omega, by apply Int32.toInt_inj.mp; rw [nI_toInt (by omega)]; omega⟩
    refine z_iload_n (pc := 14) (i := 2) (j := 2) rfl rfl rfl ?_
    refine z_if_eq (pc := 15) (tgt := 29) rfl (by decide) (fun h15 => ?_) (fun h15 => ?_)
    · refine z_aload_n (pc := 29) (i := 0) (j := 0) rfl rfl rfl ?_
      refine z_getR (pc := 30) (x := 72) rfl fl_Mod_93 hm.1 rfl (mr_72 hm) ?_
      refine z_iload_n (pc := 33) (i := 1) (j := 1) rfl rfl rfl ?_
      refine z_iconst (pc := 34) (v := 1) rfl (by decide) ?_
      refine z_zast (pc := 35) rfl (mk_72 hm) (vp_in_nI (show k < 4 by omega) (by decide)) ?_
      rw [nI_clamp (by omega)]
      change zS _ _ _ _ _ _ _ _ (zuI w (z2 f0 72 k 1))
      refine z_iload_n (pc := 36) (i := 2) (j := 2) rfl rfl rfl ?_
      refine z_if_eq (pc := 37) (tgt := 67) rfl (by decide) (fun h37 => ?_) (fun h37 => ?_)
      · refine z_aload_n (pc := 67) (i := 0) (j := 0) rfl rfl rfl ?_
        refine z_iconst (pc := 68) (v := 0) rfl (by decide) ?_
        refine z_iconst (pc := 69) (v := 2) rfl (by decide) ?_
        refine z_iload_n (pc := 70) (i := 1) (j := 1) rfl rfl rfl ?_
        refine z_iadd (pc := 71) rfl ?_
        refine z_eqi (y := nI (2 + k)) (by rw [show (2 : Int32) = nI 2 from rfl, nI_add]) ?_
        refine z_cV (pc := 72) (mc1 := 0) (ms1 := 0) (mc2 := 0) (ms2 := 0) (as := [.int (nI 0), .int (nI (2 + k))]) (rest := []) (o := 44) rfl rfl hm.1 ok_Mod_lays rfl rfl cl_Mod_266 (by omega) (Nat.le_of_ble_eq_true rfl) (Nat.le_of_ble_eq_true rfl) (Nat.le_refl _) (Nat.le_refl _) (c_Mod_lays (w := zuI w (z2 f0 72 k 1)) hm (fr := 0) (to := (2 + k)) (by omega) (by omega) (by omega) 1 (by decide)) (fun r1 w1 hp => ?_) rfl rfl
        obtain ⟨rfl, hw1⟩ := hp
        rw [hw1]
        refine ⟨⟨Nat.le_refl _, Or.inl rfl⟩, ?_⟩
        refine z_aload_n (pc := 75) (i := 0) (j := 0) rfl rfl rfl ?_
        refine z_getR (pc := 76) (x := 67) rfl fl_Mod_78 hm.1 rfl (mr_67 hm) ?_
        refine z_iconst (pc := 79) (v := 0) rfl (by decide) ?_
        refine z_aload_n (pc := 80) (i := 0) (j := 0) rfl rfl rfl ?_
        refine z_getR (pc := 81) (x := 68) rfl fl_Mod_81 hm.1 rfl (mr_68 hm) ?_
        refine z_sipush (pc := 84) (v := 1344) rfl (by decide) ?_
        refine z_iload_n (pc := 87) (i := 1) (j := 1) rfl rfl rfl ?_
        refine z_imul (pc := 88) rfl ?_
        refine z_eqi (y := nI (1344 * k)) (by rw [show (1344 : Int32) = nI 1344 from rfl, pk_mul]) ?_
        refine z_cS (pc := 89) (mc1 := 0) (ms1 := 0) (mc2 := 0) (ms2 := 0) (as := [.ref 67, .int (nI 0), .ref 68, .int (nI (1344 * k))]) (rest := []) ok_Mod_copies rfl rfl cl_Mod_359 (by omega) (Nat.le_of_ble_eq_true rfl) (Nat.le_of_ble_eq_true rfl) (Nat.le_refl _) (Nat.le_refl _) (c_Mod_copies (w := zuI w (laysF (z2 f0 72 k 1) 0 (2 + k))) (o := 67) (q := 68) (mk_67 hm) (mk_68 hm) (by decide) (a := 0) (b := 1344 * k) (by decide) (by decide) (by omega) (by omega) 0) (fun r1 w1 hp => ?_) rfl rfl
        obtain ⟨rfl, hw1⟩ := hp
        rw [hw1]
        refine ⟨⟨Nat.le_refl _, Or.inl rfl⟩, ?_⟩
        refine z_iconst (pc := 92) (v := 1) rfl (by decide) ?_
        exact z_zret (pc := 93) rfl rfl (by decide) ⟨by unfold mkV; rw [if_neg h11, if_pos h37], by unfold mkF; rw [if_neg h11, if_pos h37, nI_clamp (by omega), ← hf0]; rfl⟩
      · exact absurd h15 h37
    · refine z_aload_n (pc := 18) (i := 0) (j := 0) rfl rfl rfl ?_
      refine z_getR (pc := 19) (x := 72) rfl fl_Mod_93 hm.1 rfl (mr_72 hm) ?_
      refine z_iload_n (pc := 22) (i := 1) (j := 1) rfl rfl rfl ?_
      refine z_zald (pc := 23) rfl (mk_72 hm) (vp_in_nI (show k < 4 by omega) (by decide)) ?_
      refine z_eqi (y := zI w 72 k) (by rw [nI_clamp (by omega)]; exact congrFun (F_f0.1 72 (by omega) (by decide) (by decide) (by decide)) _) ?_
      refine z_if_ne (pc := 24) (tgt := 29) rfl (by decide) (fun h24 => ?_) (fun h24 => ?_)
      · refine z_aload_n (pc := 29) (i := 0) (j := 0) rfl rfl rfl ?_
        refine z_getR (pc := 30) (x := 72) rfl fl_Mod_93 hm.1 rfl (mr_72 hm) ?_
        refine z_iload_n (pc := 33) (i := 1) (j := 1) rfl rfl rfl ?_
        refine z_iconst (pc := 34) (v := 1) rfl (by decide) ?_
        refine z_zast (pc := 35) rfl (mk_72 hm) (vp_in_nI (show k < 4 by omega) (by decide)) ?_
        rw [nI_clamp (by omega)]
        change zS _ _ _ _ _ _ _ _ (zuI w (z2 f0 72 k 1))
        refine z_iload_n (pc := 36) (i := 2) (j := 2) rfl rfl rfl ?_
        refine z_if_eq (pc := 37) (tgt := 67) rfl (by decide) (fun h37 => ?_) (fun h37 => ?_)
        · exact absurd h37 h15
        · refine z_aload_n (pc := 40) (i := 0) (j := 0) rfl rfl rfl ?_
          refine z_iconst (pc := 41) (v := 2) rfl (by decide) ?_
          refine z_iload_n (pc := 42) (i := 1) (j := 1) rfl rfl rfl ?_
          refine z_iadd (pc := 43) rfl ?_
          refine z_eqi (y := nI (2 + k)) (by rw [show (2 : Int32) = nI 2 from rfl, nI_add]) ?_
          refine z_iconst (pc := 44) (v := 0) rfl (by decide) ?_
          refine z_cV (pc := 45) (mc1 := 0) (ms1 := 0) (mc2 := 0) (ms2 := 0) (as := [.int (nI (2 + k)), .int (nI 0)]) (rest := []) (o := 44) rfl rfl hm.1 ok_Mod_lays rfl rfl cl_Mod_266 (by omega) (Nat.le_of_ble_eq_true rfl) (Nat.le_of_ble_eq_true rfl) (Nat.le_refl _) (Nat.le_refl _) (c_Mod_lays (w := zuI w (z2 f0 72 k 1)) hm (fr := (2 + k)) (to := 0) (by omega) (by omega) (by omega) 1 (by decide)) (fun r1 w1 hp => ?_) rfl rfl
          obtain ⟨rfl, hw1⟩ := hp
          rw [hw1]
          refine ⟨⟨Nat.le_refl _, Or.inl rfl⟩, ?_⟩
          refine z_aload_n (pc := 48) (i := 0) (j := 0) rfl rfl rfl ?_
          refine z_getR (pc := 49) (x := 68) rfl fl_Mod_81 hm.1 rfl (mr_68 hm) ?_
          refine z_sipush (pc := 52) (v := 1344) rfl (by decide) ?_
          refine z_iload_n (pc := 55) (i := 1) (j := 1) rfl rfl rfl ?_
          refine z_imul (pc := 56) rfl ?_
          refine z_eqi (y := nI (1344 * k)) (by rw [show (1344 : Int32) = nI 1344 from rfl, pk_mul]) ?_
          refine z_aload_n (pc := 57) (i := 0) (j := 0) rfl rfl rfl ?_
          refine z_getR (pc := 58) (x := 67) rfl fl_Mod_78 hm.1 rfl (mr_67 hm) ?_
          refine z_iconst (pc := 61) (v := 0) rfl (by decide) ?_
          refine z_cS (pc := 62) (mc1 := 0) (ms1 := 0) (mc2 := 0) (ms2 := 0) (as := [.ref 68, .int (nI (1344 * k)), .ref 67, .int (nI 0)]) (rest := []) ok_Mod_copies rfl rfl cl_Mod_359 (by omega) (Nat.le_of_ble_eq_true rfl) (Nat.le_of_ble_eq_true rfl) (Nat.le_refl _) (Nat.le_refl _) (c_Mod_copies (w := zuI w (laysF (z2 f0 72 k 1) (2 + k) 0)) (o := 68) (q := 67) (mk_68 hm) (mk_67 hm) (by decide) (a := 1344 * k) (b := 0) (by decide) (by decide) (by omega) (by omega) 0) (fun r1 w1 hp => ?_) rfl rfl
          obtain ⟨rfl, hw1⟩ := hp
          rw [hw1]
          refine ⟨⟨Nat.le_refl _, Or.inl rfl⟩, ?_⟩
          refine z_iconst (pc := 65) (v := 1) rfl (by decide) ?_
          exact z_zret (pc := 66) rfl rfl (by decide) ⟨by unfold mkV; rw [if_neg h11, if_neg h37, nI_clamp (by omega), if_neg h24], by unfold mkF; rw [if_neg h11, if_neg h37, nI_clamp (by omega), if_neg h24, ← hf0]; rfl⟩
      · refine z_iconst (pc := 27) (v := 0) rfl (by decide) ?_
        exact z_zret (pc := 28) rfl rfl (by decide) ⟨by unfold mkV; rw [if_neg h11, if_neg h15, nI_clamp (by omega), if_pos h24], by unfold mkF; rw [if_neg h11, if_neg h15, nI_clamp (by omega), if_pos h24, ← hf0]⟩
def fdW (a b c : Int64) (k : Nat) : Int64 := if k < 8 then a else if k < 16 then b else c
def fdQ (a b c : Int64) (q : Nat × (Nat → Int32)) : Nat → Nat × (Nat → Int32)
  | 0 => q
  | k + 1 => tpush (fdQ a b c q k) (sgn (fdW a b c k) (k % 8))
theorem fdQ_le (a b c : Int64) {q : Nat × (Nat → Int32)} (h : q.1 ≤ 1000) : ∀ k, (fdQ a b c q k).1 ≤ 1000
  | 0 => h
  | k + 1 => tpush_le (fdQ_le a b c h k) _
theorem fdQ_24 (a b c : Int64) (q : Nat × (Nat → Int32)) : fdQ a b c q 24 = tbytes c 8 (tbytes b 8 (tbytes a 8 q)) := rfl
theorem l2i_and (x : Int64) : (x &&& 255).toInt32 = x.toInt32 &&& 255 := by
  apply Int32.toBitVec_inj.mp
  rw [Int32.toBitVec_and]
  show (x &&& 255).toBitVec.signExtend 32 = x.toBitVec.signExtend 32 &&& (255 : Int32).toBitVec
  rw [Int64.toBitVec_and]
  apply BitVec.eq_of_getLsbD_eq
  intro i hi
  rw [BitVec.getLsbD_and, BitVec.getLsbD_signExtend, BitVec.getLsbD_signExtend, BitVec.getLsbD_and]
  have h64 : i < 64 := by omega
  simp only [hi, h64, decide_true, Bool.true_and, if_true]
  refine congrArg (fun q => x.toBitVec.getLsbD i && q) ?_
  have : ∀ i, i < 32 → (255 : Int64).toBitVec.getLsbD i = (255 : Int32).toBitVec.getLsbD i := by decide
  exact this i hi
theorem fd_sh {k : Nat} (h : k < 24) : (56 : Int32) - 8 * (nI k &&& 7) = nI (56 - 8 * (k % 8)) := by
  have : ∀ k, k < 24 → (56 : Int32) - 8 * (nI k &&& 7) = nI (56 - 8 * (k % 8)) := by decide
  exact this k h
theorem tpush_no {q : Nat × (Nat → Int32)} {c : Int32} (h : ¬ (tok c = true ∧ q.1 < 1000)) : tpush q c = q := if_neg h
theorem tpush_yes {q : Nat × (Nat → Int32)} {c : Int32} (h : tok c = true ∧ q.1 < 1000) : tpush q c = (q.1 + 1, upd q.2 q.1 c) := if_pos h
set_option maxRecDepth 100000 in
set_option maxHeartbeats 4000000 in
theorem l_Mod_feed {w : zW} (hm : zMo w) (a b c : Int64) (q : Nat × (Nat → Int32)) (hq : q.1 ≤ 1000) (d : Nat) : ∀ (m i : Nat) (f : Nat → Nat → Int32), i ≤ 24 → 24 ≤ i + m → (f 45 = (fdQ a b c q i).2 ∧ f 44 1 = nI (fdQ a b c q i).1 ∧ (∀ o, o ≠ 44 → o ≠ 45 → f o = zI w o) ∧ (∀ k, k ≠ 0 → k ≠ 1 → f 44 k = zI w 44 k) ∧ f 44 0 = 0) → zS 0 0 d m_Mod_feed (fun rv w1 => ∃ f, w1 = zuI w f ∧ rv = some (.int (nI (fdQ a b c q 24).1)) ∧ f 45 = (fdQ a b c q 24).2 ∧ f 44 1 = nI (fdQ a b c q 24).1 ∧ (∀ o, o ≠ 44 → o ≠ 45 → f o = zI w o) ∧ (∀ k, k ≠ 0 → k ≠ 1 → f 44 k = zI w 44 k) ∧ f 44 0 = 0) 8 [(0, .ref 44), (1, .long a), (3, .long b), (5, .long c), (7, .int (nI i))] [] (zuI w f) := by
  have hex : ∀ f : Nat → Nat → Int32, (f 45 = (fdQ a b c q 24).2 ∧ f 44 1 = nI (fdQ a b c q 24).1 ∧ (∀ o, o ≠ 44 → o ≠ 45 → f o = zI w o) ∧ (∀ k, k ≠ 0 → k ≠ 1 → f 44 k = zI w 44 k) ∧ f 44 0 = 0) → zS 0 0 d m_Mod_feed (fun rv w1 => ∃ f, w1 = zuI w f ∧ rv = some (.int (nI (fdQ a b c q 24).1)) ∧ f 45 = (fdQ a b c q 24).2 ∧ f 44 1 = nI (fdQ a b c q 24).1 ∧ (∀ o, o ≠ 44 → o ≠ 45 → f o = zI w o) ∧ (∀ k, k ≠ 0 → k ≠ 1 → f 44 k = zI w 44 k) ∧ f 44 0 = 0) 8 [(0, .ref 44), (1, .long a), (3, .long b), (5, .long c), (7, .int (nI 24))] [] (zuI w f) := by
    intro f hf
    refine z_iload (pc := 8) (i := 7) (j := 4) rfl rfl ?_
    refine z_bipush (pc := 10) (v := 24) rfl (by decide) ?_
    refine z_icmp_ge (pc := 12) (tgt := 120) rfl (by decide) (fun h12 => ?_) (fun h12 => ?_)
    · refine z_aload_n (pc := 120) (i := 0) (j := 0) rfl rfl rfl ?_
      refine z_getI (pc := 121) rfl fl_Mod_106 hm.1 rfl ?_
      refine z_eqi (y := nI (fdQ a b c q 24).1) hf.2.1 ?_
      exact z_iret (pc := 124) rfl rfl ⟨f, rfl, rfl, hf⟩
    · exact absurd (by decide) h12
  intro m
  induction m with
  | zero =>
    intro i f hii hmm hf
    obtain rfl : i = 24 := by omega
    exact hex f hf
  | succ m ih =>
    intro i f hii hmm hf
    by_cases hlt : i < 24
    · skip
      have hle := fdQ_le a b c hq i
      refine z_iload (pc := 8) (i := 7) (j := 4) rfl rfl ?_
      refine z_bipush (pc := 10) (v := 24) rfl (by decide) ?_
      refine z_icmp_ge (pc := 12) (tgt := 120) rfl (by decide) (fun h12 => ?_) (fun h12 => ?_)
      · exact absurd h12 (nI_ge (b := 24) hlt (by decide))
      · have j39 : zS 0 0 d m_Mod_feed (fun rv w1 => ∃ f, w1 = zuI w f ∧ rv = some (.int (nI (fdQ a b c q 24).1)) ∧ f 45 = (fdQ a b c q 24).2 ∧ f 44 1 = nI (fdQ a b c q 24).1 ∧ (∀ o, o ≠ 44 → o ≠ 45 → f o = zI w o) ∧ (∀ k, k ≠ 0 → k ≠ 1 → f 44 k = zI w 44 k) ∧ f 44 0 = 0) 39 [(0, .ref 44), (1, .long a), (3, .long b), (5, .long c), (7, .int (nI i))] [.long (fdW a b c i)] (zuI w f) := by
          refine z_lstore (pc := 39) (i := 8) (ls' := [(0, .ref 44), (1, .long a), (3, .long b), (5, .long c), (7, .int (nI i)), (8, .long (fdW a b c i))]) rfl (by decide) rfl ?_
          refine z_lload (pc := 41) (i := 8) (j := 5) rfl rfl ?_
          refine z_bipush (pc := 43) (v := 56) rfl (by decide) ?_
          refine z_bipush (pc := 45) (v := 8) rfl (by decide) ?_
          refine z_iload (pc := 47) (i := 7) (j := 4) rfl rfl ?_
          refine z_bipush (pc := 49) (v := 7) rfl (by decide) ?_
          refine z_iand (pc := 51) rfl ?_
          refine z_imul (pc := 52) rfl ?_
          refine z_isub (pc := 53) rfl ?_
          refine z_eqi (y := nI (56 - 8 * (i % 8))) (fd_sh hlt) ?_
          refine z_lushr (pc := 54) rfl ?_
          refine z_ldc2 (pc := 55) (v := 255) rfl kl_Mod_104 ?_
          refine z_land (pc := 58) rfl ?_
          refine z_l2i (pc := 59) rfl ?_
          refine z_eqi (y := sgn (fdW a b c i) (i % 8)) (l2i_and _) ?_
          refine z_istore (pc := 60) (i := 10) (ls' := [(0, .ref 44), (1, .long a), (3, .long b), (5, .long c), (7, .int (nI i)), (8, .long (fdW a b c i)), (10, .int (sgn (fdW a b c i) (i % 8)))]) rfl (by decide) rfl ?_
          obtain ⟨s, hs⟩ : ∃ s, s = sgn (fdW a b c i) (i % 8) := ⟨_, rfl⟩
          rw [← hs]
          have hS : (fdQ a b c q (i + 1)) = tpush (fdQ a b c q i) s := by rw [hs]; rfl
          refine z_aload_n (pc := 62) (i := 0) (j := 0) rfl rfl rfl ?_
          refine z_getI (pc := 63) rfl fl_Mod_106 hm.1 rfl ?_
          refine z_eqi (y := nI (fdQ a b c q i).1) hf.2.1 ?_
          refine z_sipush (pc := 66) (v := 1000) rfl (by decide) ?_
          refine z_icmp_ge (pc := 69) (tgt := 114) rfl (by decide) (fun h69 => ?_) (fun h69 => ?_)
          · refine z_iinc (pc := 114) (i := 7) (j := 4) (v := nI (i + 1)) (ls' := [(0, .ref 44), (1, .long a), (3, .long b), (5, .long c), (7, .int (nI (i + 1))), (8, .long (fdW a b c i)), (10, .int s)]) rfl rfl (nI_1 i) (by decide) rfl ?_
            refine z_goto (pc := 117) (tgt := 8) rfl (by decide) ?_
            have e1 : (fdQ a b c q (i + 1)) = (fdQ a b c q i) := hS.trans (tpush_no (fun z => absurd h69 (nI_ge (b := 1000) z.2 (by decide))))
            refine z_drop ?_ (ih (i + 1) f (by omega) (by omega) (by rw [e1]; exact hf))
            simp
          · have hlt2 : (fdQ a b c q i).1 < 1000 := zlt_of 1000 (by omega) h69
            refine z_iload (pc := 72) (i := 10) (j := 6) rfl rfl ?_
            refine z_bipush (pc := 74) (v := 10) rfl (by decide) ?_
            refine z_icmp_eq (pc := 76) (tgt := 93) rfl (by decide) (fun h76 => ?_) (fun h76 => ?_)
            · refine z_aload_n (pc := 93) (i := 0) (j := 0) rfl rfl rfl ?_
              refine z_getR (pc := 94) (x := 45) rfl fl_Mod_7 hm.1 rfl (mr_45 hm) ?_
              refine z_aload_n (pc := 97) (i := 0) (j := 0) rfl rfl rfl ?_
              refine z_getI (pc := 98) rfl fl_Mod_106 hm.1 rfl ?_
              refine z_eqi (y := nI (fdQ a b c q i).1) hf.2.1 ?_
              refine z_iload (pc := 101) (i := 10) (j := 6) rfl rfl ?_
              refine z_iast (pc := 103) rfl (mk_45 hm) (vp_in_nI (show (fdQ a b c q i).1 < 1000 from hlt2) (by decide)) ?_
              refine z_aload_n (pc := 104) (i := 0) (j := 0) rfl rfl rfl ?_
              refine z_dup (pc := 105) rfl rfl ?_
              refine z_getI (pc := 106) rfl fl_Mod_106 hm.1 rfl ?_
              refine z_eqi (y := nI (fdQ a b c q i).1) hf.2.1 ?_
              refine z_iconst (pc := 109) (v := 1) rfl (by decide) ?_
              refine z_iadd (pc := 110) rfl ?_
              refine z_eqi (y := nI ((fdQ a b c q i).1 + 1)) (nI_1 _) ?_
              refine z_putI (pc := 111) rfl fl_Mod_106 hm.1 rfl  ?_
              refine z_iinc (pc := 114) (i := 7) (j := 4) (v := nI (i + 1)) (ls' := [(0, .ref 44), (1, .long a), (3, .long b), (5, .long c), (7, .int (nI (i + 1))), (8, .long (fdW a b c i)), (10, .int s)]) rfl rfl (nI_1 i) (by decide) rfl ?_
              refine z_goto (pc := 117) (tgt := 8) rfl (by decide) ?_
              have e1 : (fdQ a b c q (i + 1)) = ((fdQ a b c q i).1 + 1, upd (fdQ a b c q i).2 (fdQ a b c q i).1 s) := hS.trans (tpush_yes ⟨tok_1 h76, hlt2⟩)
              rw [nI_clamp (by omega)]
              refine z_drop ?_ (ih (i + 1) (z2 (z2 f 45 (fdQ a b c q i).1 s) 44 1 (nI ((fdQ a b c q i).1 + 1))) (by omega) (by omega) ?_)
              · simp
              · rw [e1]
                exact ⟨(z2_ro (z2 f 45 (fdQ a b c q i).1 s) (o := 44) (a := 45) 1 _ (by decide)).trans ((z2_ru f 45 _ _).trans (by rw [hf.1])), z2_hit (z2 f 45 (fdQ a b c q i).1 s) 44 1 (nI ((fdQ a b c q i).1 + 1)), fun o h1 h2 => (z2_ro (z2 f 45 (fdQ a b c q i).1 s) (o := 44) (a := o) 1 _ h1).trans ((z2_ro f (o := 45) (a := o) (fdQ a b c q i).1 s h2).trans (hf.2.2.1 o h1 h2)), fun k h1 h2 => (z2_k (z2 f 45 (fdQ a b c q i).1 s) 44 _ h2).trans ((congrFun (z2_ro f (o := 45) (a := 44) (fdQ a b c q i).1 s (by decide)) k).trans (hf.2.2.2.1 k h1 h2)), hf.2.2.2.2⟩
            · refine z_iload (pc := 79) (i := 10) (j := 6) rfl rfl ?_
              refine z_bipush (pc := 81) (v := 32) rfl (by decide) ?_
              refine z_icmp_lt (pc := 83) (tgt := 114) rfl (by decide) (fun h83 => ?_) (fun h83 => ?_)
              · refine z_iinc (pc := 114) (i := 7) (j := 4) (v := nI (i + 1)) (ls' := [(0, .ref 44), (1, .long a), (3, .long b), (5, .long c), (7, .int (nI (i + 1))), (8, .long (fdW a b c i)), (10, .int s)]) rfl rfl (nI_1 i) (by decide) rfl ?_
                refine z_goto (pc := 117) (tgt := 8) rfl (by decide) ?_
                have e1 : (fdQ a b c q (i + 1)) = (fdQ a b c q i) := hS.trans (tpush_no (fun z => tok_3 h76 h83 z.1))
                refine z_drop ?_ (ih (i + 1) f (by omega) (by omega) (by rw [e1]; exact hf))
                simp
              · refine z_iload (pc := 86) (i := 10) (j := 6) rfl rfl ?_
                refine z_bipush (pc := 88) (v := 126) rfl (by decide) ?_
                refine z_icmp_gt (pc := 90) (tgt := 114) rfl (by decide) (fun h90 => ?_) (fun h90 => ?_)
                · refine z_iinc (pc := 114) (i := 7) (j := 4) (v := nI (i + 1)) (ls' := [(0, .ref 44), (1, .long a), (3, .long b), (5, .long c), (7, .int (nI (i + 1))), (8, .long (fdW a b c i)), (10, .int s)]) rfl rfl (nI_1 i) (by decide) rfl ?_
                  refine z_goto (pc := 117) (tgt := 8) rfl (by decide) ?_
                  have e1 : (fdQ a b c q (i + 1)) = (fdQ a b c q i) := hS.trans (tpush_no (fun z => tok_4 h76 h90 z.1))
                  refine z_drop ?_ (ih (i + 1) f (by omega) (by omega) (by rw [e1]; exact hf))
                  simp
                · refine z_aload_n (pc := 93) (i := 0) (j := 0) rfl rfl rfl ?_
                  refine z_getR (pc := 94) (x := 45) rfl fl_Mod_7 hm.1 rfl (mr_45 hm) ?_
                  refine z_aload_n (pc := 97) (i := 0) (j := 0) rfl rfl rfl ?_
                  refine z_getI (pc := 98) rfl fl_Mod_106 hm.1 rfl ?_
                  refine z_eqi (y := nI (fdQ a b c q i).1) hf.2.1 ?_
                  refine z_iload (pc := 101) (i := 10) (j := 6) rfl rfl ?_
                  refine z_iast (pc := 103) rfl (mk_45 hm) (vp_in_nI (show (fdQ a b c q i).1 < 1000 from hlt2) (by decide)) ?_
                  refine z_aload_n (pc := 104) (i := 0) (j := 0) rfl rfl rfl ?_
                  refine z_dup (pc := 105) rfl rfl ?_
                  refine z_getI (pc := 106) rfl fl_Mod_106 hm.1 rfl ?_
                  refine z_eqi (y := nI (fdQ a b c q i).1) hf.2.1 ?_
                  refine z_iconst (pc := 109) (v := 1) rfl (by decide) ?_
                  refine z_iadd (pc := 110) rfl ?_
                  refine z_eqi (y := nI ((fdQ a b c q i).1 + 1)) (nI_1 _) ?_
                  refine z_putI (pc := 111) rfl fl_Mod_106 hm.1 rfl  ?_
                  refine z_iinc (pc := 114) (i := 7) (j := 4) (v := nI (i + 1)) (ls' := [(0, .ref 44), (1, .long a), (3, .long b), (5, .long c), (7, .int (nI (i + 1))), (8, .long (fdW a b c i)), (10, .int s)]) rfl rfl (nI_1 i) (by decide) rfl ?_
                  refine z_goto (pc := 117) (tgt := 8) rfl (by decide) ?_
                  have e1 : (fdQ a b c q (i + 1)) = ((fdQ a b c q i).1 + 1, upd (fdQ a b c q i).2 (fdQ a b c q i).1 s) := hS.trans (tpush_yes ⟨tok_2 h83 h90, hlt2⟩)
                  rw [nI_clamp (by omega)]
                  refine z_drop ?_ (ih (i + 1) (z2 (z2 f 45 (fdQ a b c q i).1 s) 44 1 (nI ((fdQ a b c q i).1 + 1))) (by omega) (by omega) ?_)
                  · simp
                  · rw [e1]
                    exact ⟨(z2_ro (z2 f 45 (fdQ a b c q i).1 s) (o := 44) (a := 45) 1 _ (by decide)).trans ((z2_ru f 45 _ _).trans (by rw [hf.1])), z2_hit (z2 f 45 (fdQ a b c q i).1 s) 44 1 (nI ((fdQ a b c q i).1 + 1)), fun o h1 h2 => (z2_ro (z2 f 45 (fdQ a b c q i).1 s) (o := 44) (a := o) 1 _ h1).trans ((z2_ro f (o := 45) (a := o) (fdQ a b c q i).1 s h2).trans (hf.2.2.1 o h1 h2)), fun k h1 h2 => (z2_k (z2 f 45 (fdQ a b c q i).1 s) 44 _ h2).trans ((congrFun (z2_ro f (o := 45) (a := 44) (fdQ a b c q i).1 s (by decide)) k).trans (hf.2.2.2.1 k h1 h2)), hf.2.2.2.2⟩
        refine z_iload (pc := 15) (i := 7) (j := 4) rfl rfl ?_
        refine z_bipush (pc := 17) (v := 8) rfl (by decide) ?_
        refine z_icmp_ge (pc := 19) (tgt := 26) rfl (by decide) (fun h19 => ?_) (fun h19 => ?_)
        · refine z_iload (pc := 26) (i := 7) (j := 4) rfl rfl ?_
          refine z_bipush (pc := 28) (v := 16) rfl (by decide) ?_
          refine z_icmp_ge (pc := 30) (tgt := 37) rfl (by decide) (fun h30 => ?_) (fun h30 => ?_)
          · refine z_lload (pc := 37) (i := 5) (j := 3) rfl rfl ?_
            rw [show fdW a b c i = c from (if_neg (fun z => absurd h19 (nI_ge (b := 8) z (by decide)))).trans (if_neg (fun z => absurd h30 (nI_ge (b := 16) z (by decide))))] at j39
            exact j39
          · refine z_lload_n (pc := 33) (i := 3) (j := 2) rfl rfl rfl ?_
            refine z_goto (pc := 34) (tgt := 39) rfl (by decide) ?_
            rw [show fdW a b c i = b from (if_neg (fun z => absurd h19 (nI_ge (b := 8) z (by decide)))).trans (if_pos (zlt_of 16 (by omega) h30))] at j39
            exact j39
        · refine z_lload_n (pc := 22) (i := 1) (j := 1) rfl rfl rfl ?_
          refine z_goto (pc := 23) (tgt := 39) rfl (by decide) ?_
          rw [show fdW a b c i = a from if_pos (zlt_of 8 (by omega) h19)] at j39
          exact j39
    · obtain rfl : i = 24 := by omega
      exact hex f hf
set_option maxRecDepth 100000 in
set_option maxHeartbeats 4000000 in
theorem c_Mod_feed {w : zW} (hm : zMo w) (a b c : Int64) (q : Nat × (Nat → Int32)) (hq : q.1 ≤ 1000) (h45 : zI w 45 = q.2) (h1 : zI w 44 1 = nI q.1) (d : Nat) : zS 0 0 d m_Mod_feed (fun rv w1 => ∃ f, w1 = zuI w f ∧ rv = some (.int (nI (fdQ a b c q 24).1)) ∧ f 45 = (fdQ a b c q 24).2 ∧ f 44 1 = nI (fdQ a b c q 24).1 ∧ (∀ o, o ≠ 44 → o ≠ 45 → f o = zI w o) ∧ (∀ k, k ≠ 0 → k ≠ 1 → f 44 k = zI w 44 k) ∧ f 44 0 = 0) 0 [(0, .ref 44), (1, .long a), (3, .long b), (5, .long c)] [] w := by
  refine z_aload_n (pc := 0) (i := 0) (j := 0) rfl rfl rfl ?_
  refine z_iconst (pc := 1) (v := 0) rfl (by decide) ?_
  refine z_putI (pc := 2) rfl fl_Mod_100 hm.1 rfl  ?_
  change zS _ _ _ _ _ _ _ _ (zuI w (z2 (zI w) 44 0 0))
  obtain ⟨f0, hf0⟩ : ∃ f0, f0 = z2 (zI w) 44 0 0 := ⟨_, rfl⟩
  rw [← hf0]
  have F_f0 : zFr w f0 := hf0 ▸ zFr_0 w
  refine z_iconst (pc := 5) (v := 0) rfl (by decide) ?_
  refine z_istore (pc := 6) (i := 7) (ls' := [(0, .ref 44), (1, .long a), (3, .long b), (5, .long c), (7, .int 0)]) rfl (by decide) rfl ?_
  refine l_Mod_feed hm a b c q hq d 24 0 f0 (by omega) (by omega) ⟨?_, ?_, fun o h1 _ => ?_, fun k h1 _ => F_f0.2.1 k h1, F_f0.2.2⟩
  · exact (F_f0.1 45 (by omega) (by decide) (by decide) (by decide)).trans h45
  · exact (F_f0.2.1 1 (by decide)).trans h1
  · rw [hf0]; exact z2_ro _ _ _ h1
