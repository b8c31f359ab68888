/-! THE READER'S NEXT TOKEN -/
theorem wOfA_c (g : Int64) : ∀ m a, m ≤ 19 → wOfA g m = some a → 1000000 ≤ a ∧ a < 1000019
  | 0, a, _, h => by cases h
  | m + 1, a, hm, h => by
    unfold wOfA at h
    split at h
    · obtain rfl := Option.some.inj h; omega
    · exact wOfA_c g m a (by omega) h
theorem wOf_c {g : Int64} {a : Nat} (h : wOf g = some a) : 1000000 ≤ a ∧ a < 1000019 := wOfA_c g 19 a (by decide) h
set_option maxRecDepth 100000 in
set_option maxHeartbeats 4000000 in
theorem c_Reader_takeNumber {w : zW} {s n : Nat} {T : Nat → Int32} (hk : rdK w s n T) {a : Nat} (hp : a ≤ n) (hat : zI w 3 3 = nI a) (hpl : zI w 3 5 = nI a) (d : Nat) (hd : 1 ≤ d) : zS 0 0 d m_Reader_takeNumber (fun rv w1 => rv = none ∧ w1 = zsI (zsI (zsI w 3 6 (numV T a (rn isDg T n a - a))) 3 3 (nI (rn isDg T n a))) 3 4 (if rn isDg T n a - a ≤ 4 then 2 else 1)) 0 [(0, .ref 3)] [] w := by
  have hn1 := hk.2.2.2.2.2.2.2.2.2.1
  refine z_aload_n (pc := 0) (i := 0) (j := 0) rfl rfl rfl ?_
  refine z_iconst (pc := 1) (v := 0) rfl (by decide) ?_
  refine z_putI (pc := 2) rfl fl_Reader_183 hk.1 rfl ?_
  rw [show zsI w 3 6 0 = zsI (zsI w 3 6 (numV T a 0)) 3 3 (nI (a + 0)) from (zsI_same (w := zsI w 3 6 0) (o := 3) (k := 3) (v := nI a) hat).symm]
  refine l_Reader_takeNumber hk a d hd n 0 hp (by omega) ?_
  have hge := rn_ge isDg T n a
  have hle := rn_le (b := isDg) (T := T) hp
  rw [show a + 0 = a from rfl, show a + (rn isDg T n a - a) = rn isDg T n a by omega]
  generalize rn isDg T n a = E at hge hle ⊢
  refine z_aload_n (pc := 77) (i := 0) (j := 0) rfl rfl rfl ?_
  refine z_aload_n (pc := 78) (i := 0) (j := 0) rfl rfl rfl ?_
  refine z_getI (pc := 79) rfl fl_Reader_35 hk.1 rfl ?_
  refine z_eqi (y := nI E) rfl ?_
  refine z_aload_n (pc := 82) (i := 0) (j := 0) rfl rfl rfl ?_
  refine z_getI (pc := 83) rfl fl_Reader_151 hk.1 rfl ?_
  refine z_eqi (y := nI a) hpl ?_
  refine z_isub (pc := 86) rfl ?_
  refine z_eqi (y := nI (E - a)) (pk_sub hge) ?_
  refine z_iconst (pc := 87) (v := 4) rfl (by decide) ?_
  refine z_icmp_gt (pc := 88) (tgt := 95) rfl (by decide) (fun h88 => ?_) (fun h88 => ?_)
  · refine z_iconst (pc := 95) (v := 1) rfl (by decide) ?_
    refine z_putI (pc := 96) rfl fl_Reader_61 hk.1 rfl  ?_
    exact z_vret (pc := 99) rfl rfl ⟨rfl, by rw [if_neg (fun q => absurd ((nI_ltI (a := 4) (by decide) (by omega)).mp h88) (by omega))]⟩
  · refine z_iconst (pc := 91) (v := 2) rfl (by decide) ?_
    refine z_goto (pc := 92) (tgt := 96) rfl (by decide) ?_
    refine z_putI (pc := 96) rfl fl_Reader_61 hk.1 rfl  ?_
    exact z_vret (pc := 99) rfl rfl ⟨rfl, by rw [if_pos (Nat.le_of_not_lt (fun q => h88 ((nI_ltI (a := 4) (b := E - a) (by decide) (by omega)).mpr q)))]⟩
set_option maxRecDepth 100000 in
set_option maxHeartbeats 4000000 in
theorem c_Reader_takeWord {w : zW} {s n : Nat} {T : Nat → Int32} (hk : rdK w s n T) {a : Nat} (hp : a ≤ n) (hat : zI w 3 3 = nI a) (hpl : zI w 3 5 = nI a) (d : Nat) (hd : 1 ≤ d) : zS 0 0 d m_Reader_takeWord (fun rv w1 => rv = none ∧ w1 = zsR (zsI (zsI (zsL w 3 7 (keyC T a (rn isLt T n a - a))) 3 3 (nI (rn isLt T n a))) 3 4 (if rn isLt T n a - a ≤ 8 then 3 else 1)) 3 8 (if rn isLt T n a - a ≤ 8 then wOf (keyC T a (rn isLt T n a - a)) else none)) 0 [(0, .ref 3)] [] w := by
  have hn1 := hk.2.2.2.2.2.2.2.2.2.1
  refine z_aload_n (pc := 0) (i := 0) (j := 0) rfl rfl rfl ?_
  refine z_lconst (pc := 1) (v := 0) rfl (by decide) ?_
  refine z_putL (pc := 2) rfl fl_Reader_137 hk.1 rfl ?_
  rw [show zsL w 3 7 0 = zsI (zsL w 3 7 (keyC T a 0)) 3 3 (nI (a + 0)) from (zsI_same (w := zsL w 3 7 0) (o := 3) (k := 3) (v := nI a) hat).symm]
  refine l_Reader_takeWord hk a d hd n 0 hp (by omega) ?_
  have hge := rn_ge isLt T n a
  have hle := rn_le (b := isLt) (T := T) hp
  rw [show a + 0 = a from rfl, show a + (rn isLt T n a - a) = rn isLt T n a by omega]
  generalize rn isLt T n a = E at hge hle ⊢
  refine z_aload_n (pc := 73) (i := 0) (j := 0) rfl rfl rfl ?_
  refine z_aload_n (pc := 74) (i := 0) (j := 0) rfl rfl rfl ?_
  refine z_getI (pc := 75) rfl fl_Reader_35 hk.1 rfl ?_
  refine z_eqi (y := nI E) rfl ?_
  refine z_aload_n (pc := 78) (i := 0) (j := 0) rfl rfl rfl ?_
  refine z_getI (pc := 79) rfl fl_Reader_151 hk.1 rfl ?_
  refine z_eqi (y := nI a) hpl ?_
  refine z_isub (pc := 82) rfl ?_
  refine z_eqi (y := nI (E - a)) (pk_sub hge) ?_
  refine z_bipush (pc := 83) (v := 8) rfl (by decide) ?_
  refine z_icmp_gt (pc := 85) (tgt := 92) rfl (by decide) (fun h85 => ?_) (fun h85 => ?_)
  · refine z_iconst (pc := 92) (v := 1) rfl (by decide) ?_
    refine z_putI (pc := 93) rfl fl_Reader_61 hk.1 rfl  ?_
    refine z_aload_n (pc := 96) (i := 0) (j := 0) rfl rfl rfl ?_
    refine z_aload_n (pc := 97) (i := 0) (j := 0) rfl rfl rfl ?_
    refine z_getI (pc := 98) rfl fl_Reader_61 hk.1 rfl ?_
    refine z_eqi (y := 1) rfl ?_
    refine z_iconst (pc := 101) (v := 3) rfl (by decide) ?_
    refine z_icmp_ne (pc := 102) (tgt := 115) rfl (by decide) (fun h102 => ?_) (fun h102 => ?_)
    · refine z_null (pc := 115) rfl ?_
      refine z_putN (pc := 116) rfl fl_Reader_67 hk.1 rfl ?_
      exact z_vret (pc := 119) rfl rfl ⟨rfl, by rw [if_neg (fun q => absurd ((nI_ltI (a := 8) (by decide) (by omega)).mp h85) (by omega)), if_neg (fun q => absurd ((nI_ltI (a := 8) (by decide) (by omega)).mp h85) (by omega))]⟩
    · exact absurd h102 (by decide)
  · refine z_iconst (pc := 88) (v := 3) rfl (by decide) ?_
    refine z_goto (pc := 89) (tgt := 93) rfl (by decide) ?_
    refine z_putI (pc := 93) rfl fl_Reader_61 hk.1 rfl  ?_
    refine z_aload_n (pc := 96) (i := 0) (j := 0) rfl rfl rfl ?_
    refine z_aload_n (pc := 97) (i := 0) (j := 0) rfl rfl rfl ?_
    refine z_getI (pc := 98) rfl fl_Reader_61 hk.1 rfl ?_
    refine z_eqi (y := 3) rfl ?_
    refine z_iconst (pc := 101) (v := 3) rfl (by decide) ?_
    refine z_icmp_ne (pc := 102) (tgt := 115) rfl (by decide) (fun h102 => ?_) (fun h102 => ?_)
    · exact absurd rfl h102
    · refine z_aload_n (pc := 105) (i := 0) (j := 0) rfl rfl rfl ?_
      refine z_getL (pc := 106) rfl fl_Reader_137 hk.1 rfl ?_
      refine z_eql (y := keyC T a (E - a)) rfl ?_
      refine z_cS (pc := 109) (mc1 := 0) (ms1 := 0) (mc2 := 0) (ms2 := 0) (as := [.long (keyC T a (E - a))]) (rest := [.ref 3]) ok_Word_ofKey rfl rfl cl_Reader_262 (by omega) (Nat.le_of_ble_eq_true rfl) (Nat.le_of_ble_eq_true rfl) (Nat.le_refl _) (Nat.le_refl _) (c_Word_ofKey (keyC T a (E - a)) 0 _) (fun r1 w1 hp => ?_) rfl rfl
      obtain ⟨rfl, hw1⟩ := hp
      rw [hw1]
      refine ⟨⟨Nat.le_refl _, Or.inl rfl⟩, ?_⟩
      refine z_goto (pc := 112) (tgt := 116) rfl (by decide) ?_
      refine z_putA (pc := 116) rfl fl_Reader_67 hk.1 rfl (fun o h => Or.inr (wOf_c h).1) ?_
      exact z_vret (pc := 119) rfl rfl ⟨rfl, by have q : E - a ≤ 8 := Nat.le_of_not_lt (fun q => h85 ((nI_ltI (a := 8) (b := E - a) (by decide) (by omega)).mpr q)); rw [if_pos q, if_pos q]⟩
theorem nx_V {w : zW} {T : Nat → Int32} {n p : Nat} : rF w (zsI (zsI (zsR w 3 8 none) 3 3 (nI (tBeg T n p))) 3 5 (nI (tBeg T n p))) := rF_t (rF_R none) (rF_t (rF_I _ (by decide)) (rF_I _ (by decide)))
theorem nx_e {w : zW} {T : Nat → Int32} {n p : Nat} (hf : zI w 3 9 = 0) (hp : p ≤ n) (h : ¬ tBeg T n p < n) : rF w (zsI (zsI (zsI (zsR w 3 8 none) 3 3 (nI (tBeg T n p))) 3 5 (nI (tBeg T n p))) 3 4 0) ∧ rS (zsI (zsI (zsI (zsR w 3 8 none) 3 3 (nI (tBeg T n p))) 3 5 (nI (tBeg T n p))) 3 4 0) T n (.inl p) := by
  have e1 : tEnd T n p = tBeg T n p := by unfold tEnd; rw [if_neg h]
  have e2 : tC T n p = 0 := by unfold tC; rw [if_neg h]
  have e3 : tW T n p = none := by unfold tW; rw [if_neg h]
  exact ⟨rF_t nx_V (rF_I _ (by decide)), hf, by rw [e1]; rfl, rfl, e2.symm, fun q => absurd (e2.symm.trans q) (by decide), fun q => absurd (e2.symm.trans q) (by decide), e3.symm, hp⟩
theorem nx_d {w : zW} {T : Nat → Int32} {n p : Nat} (hf : zI w 3 9 = 0) (hp : p ≤ n) (h : tBeg T n p < n) (hb : isDg (T (tBeg T n p)) = true) : rF w (zsI (zsI (zsI (zsI (zsI (zsR w 3 8 none) 3 3 (nI (tBeg T n p))) 3 5 (nI (tBeg T n p))) 3 6 (numV T (tBeg T n p) (rn isDg T n (tBeg T n p) - tBeg T n p))) 3 3 (nI (rn isDg T n (tBeg T n p)))) 3 4 (if rn isDg T n (tBeg T n p) - tBeg T n p ≤ 4 then 2 else 1)) ∧ rS (zsI (zsI (zsI (zsI (zsI (zsR w 3 8 none) 3 3 (nI (tBeg T n p))) 3 5 (nI (tBeg T n p))) 3 6 (numV T (tBeg T n p) (rn isDg T n (tBeg T n p) - tBeg T n p))) 3 3 (nI (rn isDg T n (tBeg T n p)))) 3 4 (if rn isDg T n (tBeg T n p) - tBeg T n p ≤ 4 then 2 else 1)) T n (.inl p) := by
  have e1 : rn isDg T n (tBeg T n p) = tEnd T n p := by unfold tEnd; rw [if_pos h, if_pos hb]
  rw [e1, show tEnd T n p - tBeg T n p = tLen T n p from rfl]
  have e2 : tC T n p = if tLen T n p ≤ 4 then 2 else 1 := by unfold tC; rw [if_pos h, if_pos hb]
  have e3 : tW T n p = none := by unfold tW; rw [if_pos h, if_pos hb]
  refine ⟨rF_t nx_V (rF_t (rF_I _ (by decide)) (rF_t (rF_I _ (by decide)) (rF_I _ (by decide)))), hf, rfl, rfl, e2.symm, fun _ => rfl, fun q => ?_, e3.symm, hp⟩
  rw [e2] at q
  split at q <;> exact absurd q (by decide)
theorem nx_l {w : zW} {T : Nat → Int32} {n p : Nat} (hf : zI w 3 9 = 0) (hp : p ≤ n) (h : tBeg T n p < n) (hd : ¬ isDg (T (tBeg T n p)) = true) (hb : isLt (T (tBeg T n p)) = true) : rF w (zsR (zsI (zsI (zsL (zsI (zsI (zsR w 3 8 none) 3 3 (nI (tBeg T n p))) 3 5 (nI (tBeg T n p))) 3 7 (keyC T (tBeg T n p) (rn isLt T n (tBeg T n p) - tBeg T n p))) 3 3 (nI (rn isLt T n (tBeg T n p)))) 3 4 (if rn isLt T n (tBeg T n p) - tBeg T n p ≤ 8 then 3 else 1)) 3 8 (if rn isLt T n (tBeg T n p) - tBeg T n p ≤ 8 then wOf (keyC T (tBeg T n p) (rn isLt T n (tBeg T n p) - tBeg T n p)) else none)) ∧ rS (zsR (zsI (zsI (zsL (zsI (zsI (zsR w 3 8 none) 3 3 (nI (tBeg T n p))) 3 5 (nI (tBeg T n p))) 3 7 (keyC T (tBeg T n p) (rn isLt T n (tBeg T n p) - tBeg T n p))) 3 3 (nI (rn isLt T n (tBeg T n p)))) 3 4 (if rn isLt T n (tBeg T n p) - tBeg T n p ≤ 8 then 3 else 1)) 3 8 (if rn isLt T n (tBeg T n p) - tBeg T n p ≤ 8 then wOf (keyC T (tBeg T n p) (rn isLt T n (tBeg T n p) - tBeg T n p)) else none)) T n (.inl p) := by
  have e1 : rn isLt T n (tBeg T n p) = tEnd T n p := by unfold tEnd; rw [if_pos h, if_neg hd, if_pos hb]
  rw [e1, show tEnd T n p - tBeg T n p = tLen T n p from rfl]
  have e2 : tC T n p = if tLen T n p ≤ 8 then 3 else 1 := by unfold tC; rw [if_pos h, if_neg hd, if_pos hb]
  have e3 : tW T n p = if tLen T n p ≤ 8 then wOf (keyC T (tBeg T n p) (tLen T n p)) else none := by unfold tW; rw [if_pos h, if_neg hd, if_pos hb]
  refine ⟨rF_t nx_V (rF_t (rF_L _) (rF_t (rF_I _ (by decide)) (rF_t (rF_I _ (by decide)) (rF_R _)))), hf, rfl, rfl, e2.symm, fun q => ?_, fun _ => rfl, e3.symm, hp⟩
  rw [e2] at q
  split at q <;> exact absurd q (by decide)
theorem nx_s {w : zW} {T : Nat → Int32} {n p : Nat} (hf : zI w 3 9 = 0) (hp : p ≤ n) (h : tBeg T n p < n) (hd : ¬ isDg (T (tBeg T n p)) = true) (hb : ¬ isLt (T (tBeg T n p)) = true) {x : Int32} (hx : x = if isSg (T (tBeg T n p)) = true then T (tBeg T n p) else 1) : rF w (zsI (zsI (zsI (zsI (zsR w 3 8 none) 3 3 (nI (tBeg T n p))) 3 5 (nI (tBeg T n p))) 3 4 x) 3 3 (nI (tBeg T n p + 1))) ∧ rS (zsI (zsI (zsI (zsI (zsR w 3 8 none) 3 3 (nI (tBeg T n p))) 3 5 (nI (tBeg T n p))) 3 4 x) 3 3 (nI (tBeg T n p + 1))) T n (.inl p) := by
  have e1 : tEnd T n p = tBeg T n p + 1 := by unfold tEnd; rw [if_pos h, if_neg hd, if_neg hb]
  have e2 : tC T n p = x := by unfold tC; rw [if_pos h, if_neg hd, if_neg hb, hx]
  have e3 : tW T n p = none := by unfold tW; rw [if_pos h, if_neg hd, if_neg hb]
  have e4 : x ≠ 2 ∧ x ≠ 3 := by
    rw [hx]
    split
    · next q =>
      unfold isSg at q
      simp only [Bool.or_eq_true, decide_eq_true_eq] at q
      rcases q with ((((((q | q) | q) | q) | q) | q) | q) | q <;> rw [q] <;> decide
    · decide
  exact ⟨rF_t nx_V (rF_t (rF_I _ (by decide)) (rF_I _ (by decide))), hf, by rw [e1]; rfl, rfl, e2.symm, fun q => absurd (e2.symm.trans q) e4.1, fun q => absurd (e2.symm.trans q) e4.2, e3.symm, hp⟩
set_option maxRecDepth 100000 in
set_option maxHeartbeats 4000000 in
theorem c_Reader_next0 {w : zW} {s n : Nat} {T : Nat → Int32} (hk : rdK w s n T) {p : Nat} (hp : p ≤ n) (hat : zI w 3 3 = nI p) (hf : zI w 3 9 = 0) (d : Nat) (hd : 4 ≤ d) : zS 0 0 d m_Reader_next (fun rv w1 => rv = none ∧ rF w w1 ∧ rS w1 T n (.inl p)) 0 [(0, .ref 3)] [] w := by
  have hn1 := hk.2.2.2.2.2.2.2.2.2.1
  have hB0 := tBeg_le (T := T) hp
  refine z_aload_n (pc := 0) (i := 0) (j := 0) rfl rfl rfl ?_
  refine z_getI (pc := 1) rfl fl_Reader_39 hk.1 rfl ?_
  refine z_eqi (y := 0) hf ?_
  refine z_if_eq (pc := 4) (tgt := 8) rfl (by decide) (fun h4 => ?_) (fun h4 => ?_)
  · refine z_aload_n (pc := 8) (i := 0) (j := 0) rfl rfl rfl ?_
    refine z_null (pc := 9) rfl ?_
    refine z_putN (pc := 10) rfl fl_Reader_67 hk.1 rfl ?_
    refine z_aload_n (pc := 13) (i := 0) (j := 0) rfl rfl rfl ?_
    refine z_cV (pc := 14) (mc1 := 0) (ms1 := 0) (mc2 := 0) (ms2 := 0) (as := []) (rest := []) (o := 3) rfl rfl hk.1 ok_Reader_skipBlanks rfl rfl cl_Reader_227 (by omega) (Nat.le_of_ble_eq_true rfl) (Nat.le_of_ble_eq_true rfl) (Nat.le_refl _) (Nat.le_refl _) (c_Reader_skipBlanks (w := zsR w 3 8 none) (rdK_R hk none) hp hat 0) (fun r1 w1 hp => ?_) rfl rfl
    obtain ⟨rfl, hw1⟩ := hp
    rw [hw1]
    refine ⟨⟨Nat.le_refl _, Or.inl rfl⟩, ?_⟩
    refine z_aload_n (pc := 17) (i := 0) (j := 0) rfl rfl rfl ?_
    refine z_aload_n (pc := 18) (i := 0) (j := 0) rfl rfl rfl ?_
    refine z_getI (pc := 19) rfl fl_Reader_35 hk.1 rfl ?_
    refine z_eqi (y := nI (tBeg T n p)) rfl ?_
    refine z_putI (pc := 22) rfl fl_Reader_151 hk.1 rfl  ?_
    refine z_aload_n (pc := 25) (i := 0) (j := 0) rfl rfl rfl ?_
    refine z_getI (pc := 26) rfl fl_Reader_35 hk.1 rfl ?_
    refine z_eqi (y := nI (tBeg T n p)) rfl ?_
    refine z_aload_n (pc := 29) (i := 0) (j := 0) rfl rfl rfl ?_
    refine z_getR (pc := 30) (x := 1) rfl fl_Reader_12 hk.1 rfl hk.2.1 ?_
    refine z_getI (pc := 33) rfl fl_Reader_230 hk.2.2.2.1 rfl ?_
    refine z_eqi (y := nI n) hk.2.2.2.2.2.2.2.2.1 ?_
    refine z_icmp_lt (pc := 36) (tgt := 47) rfl (by decide) (fun h36 => ?_) (fun h36 => ?_)
    · have hB : tBeg T n p < n := (nI_ltI (by omega) (by omega)).mp h36
      refine z_aload_n (pc := 47) (i := 0) (j := 0) rfl rfl rfl ?_
      refine z_getR (pc := 48) (x := 1) rfl fl_Reader_12 hk.1 rfl hk.2.1 ?_
      refine z_getR (pc := 51) (x := 2) rfl fl_Reader_233 hk.2.2.2.1 rfl hk.2.2.2.2.1 ?_
      refine z_aload_n (pc := 54) (i := 0) (j := 0) rfl rfl rfl ?_
      refine z_getI (pc := 55) rfl fl_Reader_35 hk.1 rfl ?_
      refine z_eqi (y := nI (tBeg T n p)) rfl ?_
      refine z_bald (pc := 58) rfl hk.2.2.2.2.2.1 (vp_in_nI (n := tBeg T n p) (N := 1000) (by omega) (by decide)) ?_
      refine z_eqi (y := T (tBeg T n p)) (by rw [nI_clamp (by omega)]; exact congrFun hk.2.2.2.2.2.2.2.2.2.2.1 _) ?_
      refine z_cS (pc := 59) (mc1 := 0) (ms1 := 0) (mc2 := 0) (ms2 := 0) (as := [.int (T (tBeg T n p))]) (rest := []) ok_Reader_isDigit rfl rfl cl_Reader_237 (by omega) (Nat.le_of_ble_eq_true rfl) (Nat.le_of_ble_eq_true rfl) (Nat.le_refl _) (Nat.le_refl _) (c_Reader_isDigit (T (tBeg T n p)) 0 _) (fun r1 w1 hp => ?_) rfl rfl
      obtain ⟨rfl, hw1⟩ := hp
      rw [hw1]
      refine ⟨⟨Nat.le_refl _, Or.inl rfl⟩, ?_⟩
      refine z_if_eq (pc := 62) (tgt := 72) rfl (by decide) (fun h62 => ?_) (fun h62 => ?_)
      · have hD : ¬ isDg (T (tBeg T n p)) = true := fun q => absurd (by rw [isDg_v, if_pos q] at h62; exact h62) (by decide)
        refine z_aload_n (pc := 72) (i := 0) (j := 0) rfl rfl rfl ?_
        refine z_getR (pc := 73) (x := 1) rfl fl_Reader_12 hk.1 rfl hk.2.1 ?_
        refine z_getR (pc := 76) (x := 2) rfl fl_Reader_233 hk.2.2.2.1 rfl hk.2.2.2.2.1 ?_
        refine z_aload_n (pc := 79) (i := 0) (j := 0) rfl rfl rfl ?_
        refine z_getI (pc := 80) rfl fl_Reader_35 hk.1 rfl ?_
        refine z_eqi (y := nI (tBeg T n p)) rfl ?_
        refine z_bald (pc := 83) rfl hk.2.2.2.2.2.1 (vp_in_nI (n := tBeg T n p) (N := 1000) (by omega) (by decide)) ?_
        refine z_eqi (y := T (tBeg T n p)) (by rw [nI_clamp (by omega)]; exact congrFun hk.2.2.2.2.2.2.2.2.2.2.1 _) ?_
        refine z_cS (pc := 84) (mc1 := 0) (ms1 := 0) (mc2 := 0) (ms2 := 0) (as := [.int (T (tBeg T n p))]) (rest := []) ok_Reader_isLetter rfl rfl cl_Reader_244 (by omega) (Nat.le_of_ble_eq_true rfl) (Nat.le_of_ble_eq_true rfl) (Nat.le_refl _) (Nat.le_refl _) (c_Reader_isLetter (T (tBeg T n p)) 0 _) (fun r1 w1 hp => ?_) rfl rfl
        obtain ⟨rfl, hw1⟩ := hp
        rw [hw1]
        refine ⟨⟨Nat.le_refl _, Or.inl rfl⟩, ?_⟩
        refine z_if_eq (pc := 87) (tgt := 97) rfl (by decide) (fun h87 => ?_) (fun h87 => ?_)
        · have hL : ¬ isLt (T (tBeg T n p)) = true := fun q => absurd (by rw [isLt_v, if_pos q] at h87; exact h87) (by decide)
          refine z_aload_n (pc := 97) (i := 0) (j := 0) rfl rfl rfl ?_
          refine z_ldcS (pc := 98) rfl rfl ?_
          refine z_aload_n (pc := 100) (i := 0) (j := 0) rfl rfl rfl ?_
          refine z_getR (pc := 101) (x := 1) rfl fl_Reader_12 hk.1 rfl hk.2.1 ?_
          refine z_getR (pc := 104) (x := 2) rfl fl_Reader_233 hk.2.2.2.1 rfl hk.2.2.2.2.1 ?_
          refine z_aload_n (pc := 107) (i := 0) (j := 0) rfl rfl rfl ?_
          refine z_getI (pc := 108) rfl fl_Reader_35 hk.1 rfl ?_
          refine z_eqi (y := nI (tBeg T n p)) rfl ?_
          refine z_bald (pc := 111) rfl hk.2.2.2.2.2.1 (vp_in_nI (n := tBeg T n p) (N := 1000) (by omega) (by decide)) ?_
          refine z_eqi (y := T (tBeg T n p)) (by rw [nI_clamp (by omega)]; exact congrFun hk.2.2.2.2.2.2.2.2.2.2.1 _) ?_
          refine z_i2c (pc := 112) rfl ?_
          refine z_eqi (y := T (tBeg T n p)) (tok_cc (hk.2.2.2.2.2.2.2.2.2.2.2 _ hB)).1.1 ?_
          refine z_cK (pc := 113) (mc1 := 0) (ms1 := 0) (mc2 := 0) (ms2 := 0) (as := [.int (T (tBeg T n p))]) (rest := [.ref 3]) rfl ok_String_indexOf rfl rfl cl_Reader_252 (by omega) (Nat.le_of_ble_eq_true rfl) (Nat.le_of_ble_eq_true rfl) (Nat.le_refl _) (Nat.le_refl _) (c_String_indexOf (T (tBeg T n p)) (tok_cc (hk.2.2.2.2.2.2.2.2.2.2.2 _ hB)).2 3 (by decide) _) (fun r1 w1 hp1 => ?_) rfl rfl
          obtain ⟨rfl, hw1⟩ := hp1
          rw [hw1]
          refine ⟨⟨Nat.le_refl _, Or.inl rfl⟩, ?_⟩
          refine z_eqi (y := sgIx (T (tBeg T n p)) 8) (by rw [(tok_cc (hk.2.2.2.2.2.2.2.2.2.2.2 _ hB)).1.2]) ?_
          refine z_if_lt (pc := 116) (tgt := 134) rfl (by decide) (fun h116 => ?_) (fun h116 => ?_)
          · refine z_iconst (pc := 134) (v := 1) rfl (by decide) ?_
            refine z_putI (pc := 135) rfl fl_Reader_61 hk.1 rfl  ?_
            refine z_aload_n (pc := 138) (i := 0) (j := 0) rfl rfl rfl ?_
            refine z_dup (pc := 139) rfl rfl ?_
            refine z_getI (pc := 140) rfl fl_Reader_35 hk.1 rfl ?_
            refine z_eqi (y := nI (tBeg T n p)) rfl ?_
            refine z_iconst (pc := 143) (v := 1) rfl (by decide) ?_
            refine z_iadd (pc := 144) rfl ?_
            refine z_eqi (y := nI (tBeg T n p + 1)) (nI_1 _) ?_
            refine z_putI (pc := 145) rfl fl_Reader_35 hk.1 rfl  ?_
            exact z_vret (pc := 148) rfl rfl ⟨rfl, nx_s hf hp hB hD hL (by rw [if_neg ((sgIx_lt _).mp h116)])⟩
          · refine z_aload_n (pc := 119) (i := 0) (j := 0) rfl rfl rfl ?_
            refine z_getR (pc := 120) (x := 1) rfl fl_Reader_12 hk.1 rfl hk.2.1 ?_
            refine z_getR (pc := 123) (x := 2) rfl fl_Reader_233 hk.2.2.2.1 rfl hk.2.2.2.2.1 ?_
            refine z_aload_n (pc := 126) (i := 0) (j := 0) rfl rfl rfl ?_
            refine z_getI (pc := 127) rfl fl_Reader_35 hk.1 rfl ?_
            refine z_eqi (y := nI (tBeg T n p)) rfl ?_
            refine z_bald (pc := 130) rfl hk.2.2.2.2.2.1 (vp_in_nI (n := tBeg T n p) (N := 1000) (by omega) (by decide)) ?_
            refine z_eqi (y := T (tBeg T n p)) (by rw [nI_clamp (by omega)]; exact congrFun hk.2.2.2.2.2.2.2.2.2.2.1 _) ?_
            refine z_goto (pc := 131) (tgt := 135) rfl (by decide) ?_
            refine z_putI (pc := 135) rfl fl_Reader_61 hk.1 rfl  ?_
            refine z_aload_n (pc := 138) (i := 0) (j := 0) rfl rfl rfl ?_
            refine z_dup (pc := 139) rfl rfl ?_
            refine z_getI (pc := 140) rfl fl_Reader_35 hk.1 rfl ?_
            refine z_eqi (y := nI (tBeg T n p)) rfl ?_
            refine z_iconst (pc := 143) (v := 1) rfl (by decide) ?_
            refine z_iadd (pc := 144) rfl ?_
            refine z_eqi (y := nI (tBeg T n p + 1)) (nI_1 _) ?_
            refine z_putI (pc := 145) rfl fl_Reader_35 hk.1 rfl  ?_
            exact z_vret (pc := 148) rfl rfl ⟨rfl, nx_s hf hp hB hD hL (by rw [if_pos (Decidable.byContradiction (fun q => h116 ((sgIx_lt _).mpr q)))])⟩
        · have hL : isLt (T (tBeg T n p)) = true := by
            rw [isLt_v] at h87
            exact Decidable.byContradiction (fun q => h87 (if_neg q))
          refine z_aload_n (pc := 90) (i := 0) (j := 0) rfl rfl rfl ?_
          refine z_cV (pc := 91) (mc1 := 0) (ms1 := 0) (mc2 := 0) (ms2 := 0) (as := []) (rest := []) (o := 3) rfl rfl hk.1 ok_Reader_takeWord rfl rfl cl_Reader_247 (by omega) (Nat.le_of_ble_eq_true rfl) (Nat.le_of_ble_eq_true rfl) (Nat.le_refl _) (Nat.le_refl _) (c_Reader_takeWord (w := zsI (zsI (zsR w 3 8 none) 3 3 (nI (tBeg T n p))) 3 5 (nI (tBeg T n p))) (rdK_I (rdK_I (rdK_R hk none) _ _) _ _) (a := tBeg T n p) (by omega) rfl rfl 1 (by decide)) (fun r1 w1 hp => ?_) rfl rfl
          obtain ⟨rfl, hw1⟩ := hp
          rw [hw1]
          refine ⟨⟨Nat.le_refl _, Or.inl rfl⟩, ?_⟩
          refine z_goto (pc := 94) (tgt := 148) rfl (by decide) ?_
          exact z_vret (pc := 148) rfl rfl ⟨rfl, nx_l hf hp hB hD hL⟩
      · have hD : isDg (T (tBeg T n p)) = true := by
          rw [isDg_v] at h62
          exact Decidable.byContradiction (fun q => h62 (if_neg q))
        refine z_aload_n (pc := 65) (i := 0) (j := 0) rfl rfl rfl ?_
        refine z_cV (pc := 66) (mc1 := 0) (ms1 := 0) (mc2 := 0) (ms2 := 0) (as := []) (rest := []) (o := 3) rfl rfl hk.1 ok_Reader_takeNumber rfl rfl cl_Reader_241 (by omega) (Nat.le_of_ble_eq_true rfl) (Nat.le_of_ble_eq_true rfl) (Nat.le_refl _) (Nat.le_refl _) (c_Reader_takeNumber (w := zsI (zsI (zsR w 3 8 none) 3 3 (nI (tBeg T n p))) 3 5 (nI (tBeg T n p))) (rdK_I (rdK_I (rdK_R hk none) _ _) _ _) (a := tBeg T n p) (by omega) rfl rfl 1 (by decide)) (fun r1 w1 hp => ?_) rfl rfl
        obtain ⟨rfl, hw1⟩ := hp
        rw [hw1]
        refine ⟨⟨Nat.le_refl _, Or.inl rfl⟩, ?_⟩
        refine z_goto (pc := 69) (tgt := 148) rfl (by decide) ?_
        exact z_vret (pc := 148) rfl rfl ⟨rfl, nx_d hf hp hB hD⟩
    · refine z_aload_n (pc := 39) (i := 0) (j := 0) rfl rfl rfl ?_
      refine z_iconst (pc := 40) (v := 0) rfl (by decide) ?_
      refine z_putI (pc := 41) rfl fl_Reader_61 hk.1 rfl  ?_
      refine z_goto (pc := 44) (tgt := 148) rfl (by decide) ?_
      exact z_vret (pc := 148) rfl rfl ⟨rfl, nx_e hf hp (fun q => h36 (nI_lt q (by omega)))⟩
  · exact absurd rfl h4
set_option maxRecDepth 100000 in
set_option maxHeartbeats 4000000 in
theorem c_Reader_next {w : zW} {s n : Nat} {T : Nat → Int32} (hk : rdK w s n T) (q : Nat ⊕ Int32) (hq : rS w T n q) (d : Nat) (hd : 4 ≤ d) : zS 0 0 d m_Reader_next (fun rv w1 => rv = none ∧ rF w w1 ∧ rS w1 T n (nxt T n q)) 0 [(0, .ref 3)] [] w := by
  cases q with
  | inl p => exact c_Reader_next0 hk (tEnd_le hq.2.2.2.2.2.2.2) hq.2.1 hq.1 d hd
  | inr k =>
    refine z_aload_n (pc := 0) (i := 0) (j := 0) rfl rfl rfl ?_
    refine z_getI (pc := 1) rfl fl_Reader_39 hk.1 rfl ?_
    refine z_if_eq (pc := 4) (tgt := 8) rfl (by decide) (fun h => absurd (hq.1.symm.trans h) hq.2.1) (fun h => ?_)
    exact z_vret (pc := 7) rfl rfl ⟨rfl, rF_r w, hq⟩
theorem flt_ne {k a : Nat} (hk : 1 ≤ k) (hk5 : k ≤ 5) (ha : a ≤ 1000) : nI k + 16 * nI a ≠ 0 := by
  rw [show (16 : Int32) = nI 16 from rfl, pk_mul, nI_add]
  exact nI_ne0 (by omega) (by omega)
set_option maxRecDepth 100000 in
set_option maxHeartbeats 4000000 in
theorem c_Reader_wrongAt {w : zW} {s n : Nat} {T : Nat → Int32} (hk : rdK w s n T) (q : Nat ⊕ Int32) (hq : rS w T n q) {k a : Nat} (hk1 : 1 ≤ k) (hk5 : k ≤ 5) (ha : a ≤ 1000) (d : Nat) : zS 0 0 d m_Reader_wrongAt (fun rv w1 => rv = none ∧ rF w w1 ∧ rS w1 T n (wrgA (nI a) (nI k) q)) 0 [(0, .ref 3), (1, .int (nI a)), (2, .int (nI k))] [] w := by
  cases q with
  | inl p =>
    refine z_aload_n (pc := 0) (i := 0) (j := 0) rfl rfl rfl ?_
    refine z_getI (pc := 1) rfl fl_Reader_39 hk.1 rfl ?_
    refine z_eqi (y := 0) hq.1 ?_
    refine z_if_ne (pc := 4) (tgt := 17) rfl (by decide) (fun h4 => ?_) (fun h4 => ?_)
    · exact absurd rfl h4
    · refine z_aload_n (pc := 7) (i := 0) (j := 0) rfl rfl rfl ?_
      refine z_iload_n (pc := 8) (i := 2) (j := 2) rfl rfl rfl ?_
      refine z_bipush (pc := 9) (v := 16) rfl (by decide) ?_
      refine z_iload_n (pc := 11) (i := 1) (j := 1) rfl rfl rfl ?_
      refine z_imul (pc := 12) rfl ?_
      refine z_iadd (pc := 13) rfl ?_
      refine z_putI (pc := 14) rfl fl_Reader_39 hk.1 rfl  ?_
      refine z_aload_n (pc := 17) (i := 0) (j := 0) rfl rfl rfl ?_
      refine z_iconst (pc := 18) (v := 1) rfl (by decide) ?_
      refine z_putI (pc := 19) rfl fl_Reader_61 hk.1 rfl  ?_
      refine z_aload_n (pc := 22) (i := 0) (j := 0) rfl rfl rfl ?_
      refine z_null (pc := 23) rfl ?_
      refine z_putN (pc := 24) rfl fl_Reader_67 hk.1 rfl ?_
      exact z_vret (pc := 27) rfl rfl ⟨rfl, rF_t (rF_I _ (by decide)) (rF_t (rF_I _ (by decide)) (rF_R none)), rfl, flt_ne hk1 hk5 ha, rfl, rfl⟩
  | inr j =>
    refine z_aload_n (pc := 0) (i := 0) (j := 0) rfl rfl rfl ?_
    refine z_getI (pc := 1) rfl fl_Reader_39 hk.1 rfl ?_
    refine z_eqi (y := j) hq.1 ?_
    refine z_if_ne (pc := 4) (tgt := 17) rfl (by decide) (fun h4 => ?_) (fun h4 => ?_)
    · refine z_aload_n (pc := 17) (i := 0) (j := 0) rfl rfl rfl ?_
      refine z_iconst (pc := 18) (v := 1) rfl (by decide) ?_
      refine z_putI (pc := 19) rfl fl_Reader_61 hk.1 rfl  ?_
      refine z_aload_n (pc := 22) (i := 0) (j := 0) rfl rfl rfl ?_
      refine z_null (pc := 23) rfl ?_
      refine z_putN (pc := 24) rfl fl_Reader_67 hk.1 rfl ?_
      exact z_vret (pc := 27) rfl rfl ⟨rfl, rF_t (rF_I _ (by decide)) (rF_R none), hq.1, hq.2.1, rfl, rfl⟩
    · exact absurd h4 hq.2.1
set_option maxRecDepth 100000 in
set_option maxHeartbeats 4000000 in
theorem wrongAt_bad {w : zW} {s n : Nat} {T : Nat → Int32} (hk : rdK w s n T) (j : Int32) (hq : rS w T n (.inr j)) (x y : Int32) (d : Nat) : zS 0 0 d m_Reader_wrongAt (fun rv w1 => rv = none ∧ rF w w1 ∧ rS w1 T n (.inr j)) 0 [(0, .ref 3), (1, .int x), (2, .int y)] [] w := by
  refine z_aload_n (pc := 0) (i := 0) (j := 0) rfl rfl rfl ?_
  refine z_getI (pc := 1) rfl fl_Reader_39 hk.1 rfl ?_
  refine z_eqi (y := j) hq.1 ?_
  refine z_if_ne (pc := 4) (tgt := 17) rfl (by decide) (fun h4 => ?_) (fun h4 => ?_)
  · refine z_aload_n (pc := 17) (i := 0) (j := 0) rfl rfl rfl ?_
    refine z_iconst (pc := 18) (v := 1) rfl (by decide) ?_
    refine z_putI (pc := 19) rfl fl_Reader_61 hk.1 rfl  ?_
    refine z_aload_n (pc := 22) (i := 0) (j := 0) rfl rfl rfl ?_
    refine z_null (pc := 23) rfl ?_
    refine z_putN (pc := 24) rfl fl_Reader_67 hk.1 rfl ?_
    exact z_vret (pc := 27) rfl rfl ⟨rfl, rF_t (rF_I _ (by decide)) (rF_R none), hq.1, hq.2.1, rfl, rfl⟩
  · exact absurd h4 hq.2.1
set_option maxRecDepth 100000 in
set_option maxHeartbeats 4000000 in
theorem c_Reader_wrong {w : zW} {s n : Nat} {T : Nat → Int32} (hk : rdK w s n T) (q : Nat ⊕ Int32) (hq : rS w T n q) {k : Nat} (hk1 : 1 ≤ k) (hk5 : k ≤ 5) (d : Nat) (hd : 1 ≤ d) : zS 0 0 d m_Reader_wrong (fun rv w1 => rv = none ∧ rF w w1 ∧ rS w1 T n (wrg T n (nI k) q)) 0 [(0, .ref 3), (1, .int (nI k))] [] w := by
  cases q with
  | inl p =>
    refine z_aload_n (pc := 0) (i := 0) (j := 0) rfl rfl rfl ?_
    refine z_aload_n (pc := 1) (i := 0) (j := 0) rfl rfl rfl ?_
    refine z_getI (pc := 2) rfl fl_Reader_151 hk.1 rfl ?_
    refine z_eqi (y := nI (tBeg T n p)) hq.2.2.1 ?_
    refine z_iload_n (pc := 5) (i := 1) (j := 1) rfl rfl rfl ?_
    refine z_cV (pc := 6) (mc1 := 0) (ms1 := 0) (mc2 := 0) (ms2 := 0) (as := [.int (nI (tBeg T n p)), .int (nI k)]) (rest := []) (o := 3) rfl rfl hk.1 ok_Reader_wrongAt rfl rfl cl_Reader_158 (by omega) (Nat.le_of_ble_eq_true rfl) (Nat.le_of_ble_eq_true rfl) (Nat.le_refl _) (Nat.le_refl _) (c_Reader_wrongAt hk (.inl p) hq hk1 hk5 (a := tBeg T n p) (Nat.le_trans (tBeg_le hq.2.2.2.2.2.2.2) hk.2.2.2.2.2.2.2.2.2.1) 0) (fun r1 w1 hp => ?_) rfl rfl
    obtain ⟨rfl, hF, hS⟩ := hp
    refine ⟨⟨by rw [hF.1]; exact Nat.le_refl _, Or.inl (by rw [hF.1])⟩, ?_⟩
    exact z_vret (pc := 9) rfl rfl ⟨rfl, hF, hS⟩
  | inr j =>
    refine z_aload_n (pc := 0) (i := 0) (j := 0) rfl rfl rfl ?_
    refine z_aload_n (pc := 1) (i := 0) (j := 0) rfl rfl rfl ?_
    refine z_getI (pc := 2) rfl fl_Reader_151 hk.1 rfl ?_
    refine z_iload_n (pc := 5) (i := 1) (j := 1) rfl rfl rfl ?_
    refine z_cV (pc := 6) (mc1 := 0) (ms1 := 0) (mc2 := 0) (ms2 := 0) (as := [.int (zI w 3 5), .int (nI k)]) (rest := []) (o := 3) rfl rfl hk.1 ok_Reader_wrongAt rfl rfl cl_Reader_158 (by omega) (Nat.le_of_ble_eq_true rfl) (Nat.le_of_ble_eq_true rfl) (Nat.le_refl _) (Nat.le_refl _) (wrongAt_bad hk j hq _ _ 0) (fun r1 w1 hp => ?_) rfl rfl
    obtain ⟨rfl, hF, hS⟩ := hp
    refine ⟨⟨by rw [hF.1]; exact Nat.le_refl _, Or.inl (by rw [hF.1])⟩, ?_⟩
    exact z_vret (pc := 9) rfl rfl ⟨rfl, hF, hS⟩
