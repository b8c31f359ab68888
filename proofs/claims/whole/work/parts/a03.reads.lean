/-! THE MODEL READS A LAW: the frame of its loop -/
def putL (f : Nat → Int32) (j : Nat) (Y : List Int32) : Nat → Int32 := fun i => if j ≤ i ∧ i < j + Y.length then Y.getD (i - j) 0 else f i
theorem putL_0 (f : Nat → Int32) (j : Nat) : putL f j [] = f := by
  funext i
  unfold putL
  rw [if_neg (by simp only [List.length_nil]; omega)]
theorem putL_s (f : Nat → Int32) (j : Nat) (Y : List Int32) (c : Int32) : upd (putL f j Y) (j + Y.length) c = putL f j (Y ++ [c]) := by
  funext i
  show (if i = j + Y.length then c else putL f j Y i) = _
  unfold putL
  rw [List.length_append]
  by_cases h : i = j + Y.length
  · rw [if_pos h, if_pos (by simp only [List.length_cons, List.length_nil]; omega), h, Nat.add_sub_cancel_left]
    simp
  · rw [if_neg h]
    by_cases h2 : j ≤ i ∧ i < j + Y.length
    · rw [if_pos h2, if_pos (by simp only [List.length_cons, List.length_nil]; omega)]
      simp only [List.getD_eq_getElem?_getD]
      rw [List.getElem?_append_left (by omega)]
    · rw [if_neg h2, if_neg (by simp only [List.length_cons, List.length_nil]; omega)]
def rdsF (w0 w : zW) : Prop := w.1 = w0.1 ∧ zR w = zR w0 ∧ (∀ o, o ≠ 44 → o ≠ 54 → o ≠ 55 → o ≠ 56 → zI w o = zI w0 o) ∧ (∀ k, k < 4 ∨ (9 < k ∧ k ≠ 19) → zI w 44 k = zI w0 44 k) ∧ (∀ o k, ¬ (o = 44 ∧ k = 7) → zL w o k = zL w0 o k) ∧ ∀ k, k < 1000 ∨ 2000 ≤ k → zI w 54 k = zI w0 54 k
theorem rdsF_r (w : zW) : rdsF w w := ⟨rfl, rfl, fun _ _ _ _ _ => rfl, fun _ _ => rfl, fun _ _ _ => rfl, fun _ _ => rfl⟩
theorem mK_R {w0 w : zW} {n : Nat} {T : Nat → Int32} (h : mK w0 n T) (k : rdsF w0 w) : mK w n T := ⟨zMo_mv h.1 k.1 k.2.1, (k.2.2.2.1 3 (by decide)).trans h.2.1, h.2.2.1, (k.2.2.1 45 (by decide) (by decide) (by decide) (by decide)).trans h.2.2.2.1, h.2.2.2.2⟩
theorem rdsF_I {w0 w : zW} (h : rdsF w0 w) {o k : Nat} (x : Int32) (ho : (o = 54 ∧ 1000 ≤ k ∧ k < 2000) ∨ o = 55 ∨ o = 56 ∨ (o = 44 ∧ (k = 9 ∨ k = 19))) : rdsF w0 (zsI w o k x) := by
  refine ⟨h.1, h.2.1, fun a h1 h2 h3 h4 => (z2_off (zI w) k x (by omega)).trans (h.2.2.1 a h1 h2 h3 h4), fun j hj => ?_, h.2.2.2.2.1, fun j hj => ?_⟩
  · exact (z2_nt (zI w) x (by omega)).trans (h.2.2.2.1 j hj)
  · exact (z2_nt (zI w) x (by omega)).trans (h.2.2.2.2.2 j hj)
theorem rdsF_N {w0 w w1 : zW} (h : rdsF w0 w) (k : mF w w1) : rdsF w0 w1 := ⟨k.1.trans h.1, k.2.1.trans h.2.1, fun o h1 h2 h3 h4 => (k.2.2.1 o h1).trans (h.2.2.1 o h1 h2 h3 h4), fun j hj => (k.2.2.2.1 j (by omega)).trans (h.2.2.2.1 j hj), fun o j hj => (k.2.2.2.2 o j hj).trans (h.2.2.2.2.1 o j hj), fun j hj => (congrFun (k.2.2.1 54 (by decide)) j).trans (h.2.2.2.2.2 j hj)⟩
theorem mS_o {w : zW} {T : Nat → Int32} {n p o k : Nat} (h : mS w T n p) (ho : o ≠ 44) (x : Int32) : mS (zsI w o k x) T n p := by
  have e : ∀ j, zI (zsI w o k x) 44 j = zI w 44 j := fun j => z2_nt (zI w) x (Or.inl (by omega))
  exact ⟨(e 4).trans h.1, (e 5).trans h.2.1, (e 6).trans h.2.2.1, h.2.2.2.1, (e 8).trans h.2.2.2.2.1, h.2.2.2.2.2⟩
def rdQ (T : Nat → Int32) (n : Nat) (w0 : zW) (j0 p : Nat) (op cm : Nat → Int32) (Y : List Int32) (w : zW) : Prop := rdsF w0 w ∧ mS w T n p ∧ zI w 55 = op ∧ zI w 56 = cm ∧ zI w 44 19 = nI (j0 + Y.length) ∧ zI w 54 = putL (zI w0 54) j0 Y
theorem zI_ne (w : zW) {o a : Nat} (k : Nat) (x : Int32) (h : a ≠ o) : zI (zsI w o k x) a = zI w a := z2_off (zI w) k x h
theorem zI_nt (w : zW) {o k a b : Nat} (x : Int32) (h : a ≠ o ∨ b ≠ k) : zI (zsI w o k x) a b = zI w a b := z2_nt (zI w) x h
theorem rdQ_put {T : Nat → Int32} {n : Nat} {w0 : zW} {j0 p : Nat} {op cm : Nat → Int32} {Y : List Int32} {w : zW} (h : rdQ T n w0 j0 p op cm Y w) (hb : 1000 ≤ j0 + Y.length ∧ j0 + Y.length < 2000) (c : Int32) : rdQ T n w0 j0 p op cm (Y ++ [c]) (zsI (zsI w 54 (j0 + Y.length) c) 44 19 (nI (j0 + Y.length + 1))) := by
  refine ⟨rdsF_I (rdsF_I h.1 c (Or.inl ⟨rfl, hb⟩)) _ (Or.inr (Or.inr (Or.inr ⟨rfl, Or.inr rfl⟩))), mS_I (mS_o h.2.1 (by decide) c) (by omega) _, ?_, ?_, ?_, ?_⟩
  · exact (zI_ne _ 19 _ (by decide)).trans ((zI_ne w _ c (by decide)).trans h.2.2.1)
  · exact (zI_ne _ 19 _ (by decide)).trans ((zI_ne w _ c (by decide)).trans h.2.2.2.1)
  · refine (show zI (zsI (zsI w 54 (j0 + Y.length) c) 44 19 (nI (j0 + Y.length + 1))) 44 19 = nI (j0 + Y.length + 1) from z2_at (zI (zsI w 54 (j0 + Y.length) c)) 44 19 _).trans ?_
    rw [List.length_append]; rfl
  · refine (zI_ne _ 19 _ (by decide)).trans ?_
    refine (z2_row (zI w) 54 (j0 + Y.length) c).trans ?_
    rw [h.2.2.2.2.2]
    exact putL_s _ _ _ _
theorem rdQ_55 {T : Nat → Int32} {n : Nat} {w0 : zW} {j0 p : Nat} {op cm : Nat → Int32} {Y : List Int32} {w : zW} (h : rdQ T n w0 j0 p op cm Y w) (k : Nat) (x : Int32) : rdQ T n w0 j0 p (upd op k x) cm Y (zsI w 55 k x) := by
  refine ⟨rdsF_I h.1 x (Or.inr (Or.inl rfl)), mS_o h.2.1 (by decide) x, ?_, (zI_ne w k x (by decide)).trans h.2.2.2.1, (zI_nt w x (Or.inl (by decide))).trans h.2.2.2.2.1, (zI_ne w k x (by decide)).trans h.2.2.2.2.2⟩
  refine (z2_row (zI w) 55 k x).trans ?_
  rw [h.2.2.1]
  rfl
theorem rdQ_56 {T : Nat → Int32} {n : Nat} {w0 : zW} {j0 p : Nat} {op cm : Nat → Int32} {Y : List Int32} {w : zW} (h : rdQ T n w0 j0 p op cm Y w) (k : Nat) (x : Int32) : rdQ T n w0 j0 p op (upd cm k x) Y (zsI w 56 k x) := by
  refine ⟨rdsF_I h.1 x (Or.inr (Or.inr (Or.inl rfl))), mS_o h.2.1 (by decide) x, (zI_ne w k x (by decide)).trans h.2.2.1, ?_, (zI_nt w x (Or.inl (by decide))).trans h.2.2.2.2.1, (zI_ne w k x (by decide)).trans h.2.2.2.2.2⟩
  refine (z2_row (zI w) 56 k x).trans ?_
  rw [h.2.2.2.1]
  rfl
theorem rdQ_nx {T : Nat → Int32} {n : Nat} {w0 : zW} {j0 p p2 : Nat} {op cm : Nat → Int32} {Y : List Int32} {w w1 : zW} (h : rdQ T n w0 j0 p op cm Y w) (k : mF w w1) (hS : mS w1 T n p2) : rdQ T n w0 j0 p2 op cm Y w1 := ⟨rdsF_N h.1 k, hS, (k.2.2.1 55 (by decide)).trans h.2.2.1, (k.2.2.1 56 (by decide)).trans h.2.2.2.1, (k.2.2.2.1 19 (by decide)).trans h.2.2.2.2.1, (k.2.2.1 54 (by decide)).trans h.2.2.2.2.2⟩
def rdH (T : Nat → Int32) (n : Nat) (w0 : zW) (j0 dd : Nat) (P : Option Value → zW → Prop) : aHt := fun p d wn op cm Y => p ≤ n → d ≤ 5 → j0 + Y.length ≤ 1000 + p → ∀ w, rdQ T n w0 j0 p op cm Y w → zS 0 0 dd m_Mod_reads P 11 [(0, .ref 44), (1, .int (nI d)), (2, .int (bif wn then 1 else 0))] [] w
def rdE (w0 : zW) (P : Option Value → zW → Prop) : Int32 → Prop := fun k => ∀ w, rdsF w0 w → zI w 44 9 = k → P (some (.int 0)) w
theorem fac_e {L M : Nat} {o : Option Nat} {x : Int32} (h : (x = 0 ∧ ¬ L = M) ∨ (x = 1 ∧ L = M)) : facM o x = 0 - fctO L M o := by
  unfold facM fctO
  by_cases h1 : o = some 1000016
  · rw [if_pos h1, if_pos h1]; rfl
  rw [if_neg h1, if_neg h1]
  by_cases h2 : o = some 1000017
  · rw [if_pos h2, if_pos h2]; rfl
  rw [if_neg h2, if_neg h2]
  rcases h with ⟨rfl, h⟩ | ⟨rfl, h⟩
  · rw [if_pos rfl, if_neg h]; rfl
  · rw [if_neg (by decide), if_pos h]
    by_cases h3 : o = some 1000007
    · rw [if_pos h3, if_pos h3]; rfl
    rw [if_neg h3, if_neg h3]
    by_cases h4 : o = some 1000018
    · rw [if_pos h4, if_pos h4]; rfl
    rw [if_neg h4, if_neg h4]; rfl
theorem fct_none {L M : Nat} : fctO L M none = 0 := by
  unfold fctO
  rw [if_neg (by decide), if_neg (by decide)]
  split
  · rw [if_neg (by decide), if_neg (by decide)]
  · rfl
theorem fct_13 {L M : Nat} : fctO L M (some 1000013) = 0 := by
  unfold fctO
  rw [if_neg (by decide), if_neg (by decide)]
  split
  · rw [if_neg (by decide), if_neg (by decide)]
  · rfl
theorem tW_no {T : Nat → Int32} {n p : Nat} (h : tC T n p ≠ 3) : tW T n p = none := by
  cases e : tW T n p with
  | none => rfl
  | some a => exact absurd (tW_3 e) h
set_option maxRecDepth 100000 in
set_option maxHeartbeats 4000000 in
theorem rd_A3 {T : Nat → Int32} {n L s j0 dd : Nat} {w0 : zW} {P : Option Value → zW → Prop} (hk0 : mK w0 n T) (hpl : (zI w0 44 21 = 0 ∧ ¬ L = s + 9) ∨ (zI w0 44 21 = 1 ∧ L = s + 9)) (hdd : 2 ≤ dd) (hj0 : 1000 ≤ j0 ∧ j0 ≤ 5000) {p d : Nat} {op cm : Nat → Int32} {Y : List Int32} (hd : d < 5) (h40 : tC T n p = 40) (hH : rdH T n w0 j0 dd P (tEnd T n p) (d + 1) true (upd op (d + 1) 2) (upd cm (d + 1) 0) (Y ++ [28])) : rdH T n w0 j0 dd P p d true op cm Y := by
  intro hp hd5 hj w hQ
  have hk := mK_R hk0 hQ.1
  have hS := hQ.2.1
  have hj19 := hQ.2.2.2.2.1
  have hn1 := hk0.2.2.1
  have hlt : tBeg T n p < n := tC_lt (by rw [h40]; decide)
  have q3 := tEnd_lt hlt
  have q5 := tBeg_ge T n p
  refine z_iload_n (pc := 11) (i := 2) (j := 2) rfl rfl rfl ?_
  refine z_if_eq (pc := 12) (tgt := 179) rfl (by decide) (fun h12 => ?_) (fun h12 => ?_)
  · first | exact absurd h12 (by decide) | exact absurd (by decide) h12
  · refine z_aload_n (pc := 15) (i := 0) (j := 0) rfl rfl rfl ?_
    refine z_cV (pc := 16) (mc1 := 0) (ms1 := 0) (mc2 := 0) (ms2 := 0) (as := []) (rest := []) (o := 44) rfl rfl hk.1.1 ok_Mod_fact rfl rfl cl_Mod_154 (by omega) (Nat.le_of_ble_eq_true rfl) (Nat.le_of_ble_eq_true rfl) (Nat.le_refl _) (Nat.le_refl _) (c_fac hk hS 0) (fun r1 w1 hp => ?_) rfl rfl
    obtain ⟨rfl, hw1⟩ := hp
    rw [hw1]
    refine ⟨⟨Nat.le_refl _, Or.inl rfl⟩, ?_⟩
    refine z_eqi (y := 0) (by rw [hQ.1.2.2.2.1 21 (by decide), fac_e hpl, tW_no (by rw [h40]; decide), fct_none]; rfl) ?_
    refine z_istore_n (pc := 19) (i := 3) (ls' := [(0, .ref 44), (1, .int (nI d)), (2, .int 1), (3, .int 0)]) rfl rfl (by decide) rfl ?_
    refine z_aload_n (pc := 20) (i := 0) (j := 0) rfl rfl rfl ?_
    refine z_ldc2 (pc := 21) (v := 10631) rfl kl_Mod_158 ?_
    refine z_cV (pc := 24) (mc1 := 0) (ms1 := 0) (mc2 := 0) (ms2 := 0) (as := [.long 10631]) (rest := []) (o := 44) rfl rfl hk.1.1 ok_Mod_isWord rfl rfl cl_Mod_160 (by omega) (Nat.le_of_ble_eq_true rfl) (Nat.le_of_ble_eq_true rfl) (Nat.le_refl _) (Nat.le_refl _) (c_wd hk hS (i := 13) (by decide) (x := 10631) rfl 0) (fun r1 w1 hp => ?_) rfl rfl
    obtain ⟨rfl, hw1⟩ := hp
    rw [hw1]
    refine ⟨⟨Nat.le_refl _, Or.inl rfl⟩, ?_⟩
    refine z_eqi (y := 0) (if_neg (fun e => absurd (tW_3 e) (by rw [h40]; decide))) ?_
    refine z_istore (pc := 27) (i := 4) (ls' := [(0, .ref 44), (1, .int (nI d)), (2, .int 1), (3, .int 0), (4, .int 0)]) rfl (by decide) rfl ?_
    refine z_aload_n (pc := 29) (i := 0) (j := 0) rfl rfl rfl ?_
    refine z_bipush (pc := 30) (v := 40) rfl (by decide) ?_
    refine z_cV (pc := 32) (mc1 := 0) (ms1 := 0) (mc2 := 0) (ms2 := 0) (as := [.int 40]) (rest := []) (o := 44) rfl rfl hk.1.1 ok_Mod_isSign rfl rfl cl_Mod_164 (by omega) (Nat.le_of_ble_eq_true rfl) (Nat.le_of_ble_eq_true rfl) (Nat.le_refl _) (Nat.le_refl _) (c_Mod_isSign hk hS (c := 40) (by decide) 0) (fun r1 w1 hp => ?_) rfl rfl
    obtain ⟨rfl, hw1⟩ := hp
    rw [hw1]
    refine ⟨⟨Nat.le_refl _, Or.inl rfl⟩, ?_⟩
    refine z_eqi (y := 1) (if_pos h40) ?_
    refine z_istore (pc := 35) (i := 5) (ls' := [(0, .ref 44), (1, .int (nI d)), (2, .int 1), (3, .int 0), (4, .int 0), (5, .int 1)]) rfl (by decide) rfl ?_
    refine z_iload_n (pc := 37) (i := 3) (j := 3) rfl rfl rfl ?_
    refine z_if_ne (pc := 38) (tgt := 65) rfl (by decide) (fun h38 => ?_) (fun h38 => ?_)
    · first | exact absurd h38 (by decide) | exact absurd (by decide) h38
    · refine z_iload (pc := 41) (i := 4) (j := 4) rfl rfl ?_
      refine z_if_ne (pc := 43) (tgt := 65) rfl (by decide) (fun h43 => ?_) (fun h43 => ?_)
      · first | exact absurd h43 (by decide) | exact absurd (by decide) h43
      · refine z_iload (pc := 46) (i := 5) (j := 5) rfl rfl ?_
        refine z_if_ne (pc := 48) (tgt := 65) rfl (by decide) (fun h48 => ?_) (fun h48 => ?_)
        · refine z_iload_n (pc := 65) (i := 1) (j := 1) rfl rfl rfl ?_
          refine z_iconst (pc := 66) (v := 5) rfl (by decide) ?_
          refine z_icmp_ne (pc := 67) (tgt := 76) rfl (by decide) (fun h67 => ?_) (fun h67 => ?_)
          · refine z_iload (pc := 76) (i := 4) (j := 4) rfl rfl ?_
            refine z_if_ne (pc := 78) (tgt := 86) rfl (by decide) (fun h78 => ?_) (fun h78 => ?_)
            · first | exact absurd h78 (by decide) | exact absurd (by decide) h78
            · refine z_iload (pc := 81) (i := 5) (j := 5) rfl rfl ?_
              refine z_if_eq (pc := 83) (tgt := 131) rfl (by decide) (fun h83 => ?_) (fun h83 => ?_)
              · first | exact absurd h83 (by decide) | exact absurd (by decide) h83
              · refine z_aload_n (pc := 86) (i := 0) (j := 0) rfl rfl rfl ?_
                refine z_iload (pc := 87) (i := 4) (j := 4) rfl rfl ?_
                refine z_if_eq (pc := 89) (tgt := 97) rfl (by decide) (fun h89 => ?_) (fun h89 => ?_)
                · refine z_bipush (pc := 97) (v := 28) rfl (by decide) ?_
                  refine z_cV (pc := 99) (mc1 := 0) (ms1 := 0) (mc2 := 0) (ms2 := 0) (as := [.int 28]) (rest := []) (o := 44) rfl rfl hk.1.1 ok_Mod_puts rfl rfl cl_Mod_171 (by omega) (Nat.le_of_ble_eq_true rfl) (Nat.le_of_ble_eq_true rfl) (Nat.le_refl _) (Nat.le_refl _) (c_Mod_puts hk (j := j0 + Y.length) hj19 (by omega) 28 0) (fun r1 w1 hp => ?_) rfl rfl
                  obtain ⟨rfl, hw1⟩ := hp
                  rw [hw1]
                  refine ⟨⟨Nat.le_refl _, Or.inl rfl⟩, ?_⟩
                  refine z_iinc (pc := 102) (i := 1) (j := 1) (v := nI (d + 1)) (ls' := [(0, .ref 44), (1, .int (nI (d + 1))), (2, .int 1), (3, .int 0), (4, .int 0), (5, .int 1)]) rfl rfl (nI_1 d) (by decide) rfl ?_
                  refine z_aload_n (pc := 105) (i := 0) (j := 0) rfl rfl rfl ?_
                  refine z_getR (pc := 106) (x := 55) rfl fl_Mod_41 hk.1.1 rfl (mr_55 hk.1) ?_
                  refine z_iload_n (pc := 109) (i := 1) (j := 1) rfl rfl rfl ?_
                  refine z_iload (pc := 110) (i := 4) (j := 4) rfl rfl ?_
                  refine z_if_eq (pc := 112) (tgt := 119) rfl (by decide) (fun h112 => ?_) (fun h112 => ?_)
                  · refine z_iconst (pc := 119) (v := 2) rfl (by decide) ?_
                    refine z_iast (pc := 120) rfl (mk_55 hk.1) (vp_in_nI (n := d + 1) (N := 7) (by omega) (by decide)) ?_
                    refine z_aload_n (pc := 121) (i := 0) (j := 0) rfl rfl rfl ?_
                    refine z_getR (pc := 122) (x := 56) rfl fl_Mod_44 hk.1.1 rfl (mr_56 hk.1) ?_
                    refine z_iload_n (pc := 125) (i := 1) (j := 1) rfl rfl rfl ?_
                    refine z_iconst (pc := 126) (v := 0) rfl (by decide) ?_
                    refine z_zast (pc := 127) rfl (mk_56 hk.1) (vp_in_nI (n := d + 1) (N := 7) (by omega) (by decide)) ?_
                    refine z_goto (pc := 128) (tgt := 172) rfl (by decide) ?_
                    refine z_aload_n (pc := 172) (i := 0) (j := 0) rfl rfl rfl ?_
                    refine z_nmw (fun w7 hw7 => ?_)
                    have hQ7 : rdQ T n w0 j0 p (upd op (d + 1) 2) (upd cm (d + 1) 0) (Y ++ [28]) w7 := by
                      rw [hw7, nI_clamp (n := d + 1) (by omega)]
                      exact rdQ_56 (rdQ_55 (rdQ_put hQ (by omega) 28) (d + 1) 2) (d + 1) 0
                    refine z_cV (pc := 173) (mc1 := 0) (ms1 := 0) (mc2 := 0) (ms2 := 0) (as := []) (rest := []) (o := 44) rfl rfl (mK_R hk0 hQ7.1).1.1 ok_Mod_nextToken rfl rfl cl_Mod_174 (by omega) (Nat.le_of_ble_eq_true rfl) (Nat.le_of_ble_eq_true rfl) (Nat.le_refl _) (Nat.le_refl _) (c_Mod_nextToken (w := w7) (mK_R hk0 hQ7.1) (p := tEnd T n p) (tEnd_le hS.2.2.2.2.2) hQ7.2.1.1 1 (by decide)) (fun r1 w8 hp => ?_) rfl rfl
                    obtain ⟨rfl, hF8, hS8⟩ := hp
                    refine ⟨⟨by rw [hF8.1]; exact Nat.le_refl _, Or.inl (by rw [hF8.1])⟩, ?_⟩
                    refine z_goto (pc := 176) (tgt := 11) rfl (by decide) ?_
                    refine z_drop (ls' := [(0, .ref 44), (1, .int (nI (d + 1))), (2, .int 1)]) (by simp) ?_
                    exact hH (tEnd_le hS.2.2.2.2.2) (by omega) (by rw [List.length_append]; show j0 + (Y.length + 1) ≤ _; omega) w8 (rdQ_nx hQ7 hF8 hS8)
                  · first | exact absurd h112 (by decide) | exact absurd (by decide) h112
                · first | exact absurd h89 (by decide) | exact absurd (by decide) h89
          · exact absurd ((nI_eq (a := d) (b := 5) (by omega) (by omega)).mp h67) (by omega)
        · first | exact absurd h48 (by decide) | exact absurd (by decide) h48
set_option maxRecDepth 100000 in
set_option maxHeartbeats 4000000 in
theorem rd_A4 {T : Nat → Int32} {n L s j0 dd : Nat} {w0 : zW} {P : Option Value → zW → Prop} (hk0 : mK w0 n T) (hpl : (zI w0 44 21 = 0 ∧ ¬ L = s + 9) ∨ (zI w0 44 21 = 1 ∧ L = s + 9)) (hdd : 2 ≤ dd) (hj0 : 1000 ≤ j0 ∧ j0 ≤ 5000) {p d : Nat} {op cm : Nat → Int32} {Y : List Int32} (hd : d < 5) (hN : tW T n p = some 1000013) (hH : rdH T n w0 j0 dd P (tEnd T n p) (d + 1) true (upd op (d + 1) 1) (upd cm (d + 1) 0) (Y ++ [30])) : rdH T n w0 j0 dd P p d true op cm Y := by
  intro hp hd5 hj w hQ
  have hk := mK_R hk0 hQ.1
  have hS := hQ.2.1
  have hj19 := hQ.2.2.2.2.1
  have hn1 := hk0.2.2.1
  have hlt : tBeg T n p < n := tW_lt hN
  have q3 := tEnd_lt hlt
  have q5 := tBeg_ge T n p
  refine z_iload_n (pc := 11) (i := 2) (j := 2) rfl rfl rfl ?_
  refine z_if_eq (pc := 12) (tgt := 179) rfl (by decide) (fun h12 => ?_) (fun h12 => ?_)
  · first | exact absurd h12 (by decide) | exact absurd (by decide) h12
  · refine z_aload_n (pc := 15) (i := 0) (j := 0) rfl rfl rfl ?_
    refine z_cV (pc := 16) (mc1 := 0) (ms1 := 0) (mc2 := 0) (ms2 := 0) (as := []) (rest := []) (o := 44) rfl rfl hk.1.1 ok_Mod_fact rfl rfl cl_Mod_154 (by omega) (Nat.le_of_ble_eq_true rfl) (Nat.le_of_ble_eq_true rfl) (Nat.le_refl _) (Nat.le_refl _) (c_fac hk hS 0) (fun r1 w1 hp => ?_) rfl rfl
    obtain ⟨rfl, hw1⟩ := hp
    rw [hw1]
    refine ⟨⟨Nat.le_refl _, Or.inl rfl⟩, ?_⟩
    refine z_eqi (y := 0) (by rw [hQ.1.2.2.2.1 21 (by decide), fac_e hpl, hN, fct_13]; rfl) ?_
    refine z_istore_n (pc := 19) (i := 3) (ls' := [(0, .ref 44), (1, .int (nI d)), (2, .int 1), (3, .int 0)]) rfl rfl (by decide) rfl ?_
    refine z_aload_n (pc := 20) (i := 0) (j := 0) rfl rfl rfl ?_
    refine z_ldc2 (pc := 21) (v := 10631) rfl kl_Mod_158 ?_
    refine z_cV (pc := 24) (mc1 := 0) (ms1 := 0) (mc2 := 0) (ms2 := 0) (as := [.long 10631]) (rest := []) (o := 44) rfl rfl hk.1.1 ok_Mod_isWord rfl rfl cl_Mod_160 (by omega) (Nat.le_of_ble_eq_true rfl) (Nat.le_of_ble_eq_true rfl) (Nat.le_refl _) (Nat.le_refl _) (c_wd hk hS (i := 13) (by decide) (x := 10631) rfl 0) (fun r1 w1 hp => ?_) rfl rfl
    obtain ⟨rfl, hw1⟩ := hp
    rw [hw1]
    refine ⟨⟨Nat.le_refl _, Or.inl rfl⟩, ?_⟩
    refine z_eqi (y := 1) (if_pos hN) ?_
    refine z_istore (pc := 27) (i := 4) (ls' := [(0, .ref 44), (1, .int (nI d)), (2, .int 1), (3, .int 0), (4, .int 1)]) rfl (by decide) rfl ?_
    refine z_aload_n (pc := 29) (i := 0) (j := 0) rfl rfl rfl ?_
    refine z_bipush (pc := 30) (v := 40) rfl (by decide) ?_
    refine z_cV (pc := 32) (mc1 := 0) (ms1 := 0) (mc2 := 0) (ms2 := 0) (as := [.int 40]) (rest := []) (o := 44) rfl rfl hk.1.1 ok_Mod_isSign rfl rfl cl_Mod_164 (by omega) (Nat.le_of_ble_eq_true rfl) (Nat.le_of_ble_eq_true rfl) (Nat.le_refl _) (Nat.le_refl _) (c_Mod_isSign hk hS (c := 40) (by decide) 0) (fun r1 w1 hp => ?_) rfl rfl
    obtain ⟨rfl, hw1⟩ := hp
    rw [hw1]
    refine ⟨⟨Nat.le_refl _, Or.inl rfl⟩, ?_⟩
    refine z_eqi (y := 0) (if_neg (by rw [tW_3 hN]; decide)) ?_
    refine z_istore (pc := 35) (i := 5) (ls' := [(0, .ref 44), (1, .int (nI d)), (2, .int 1), (3, .int 0), (4, .int 1), (5, .int 0)]) rfl (by decide) rfl ?_
    refine z_iload_n (pc := 37) (i := 3) (j := 3) rfl rfl rfl ?_
    refine z_if_ne (pc := 38) (tgt := 65) rfl (by decide) (fun h38 => ?_) (fun h38 => ?_)
    · first | exact absurd h38 (by decide) | exact absurd (by decide) h38
    · refine z_iload (pc := 41) (i := 4) (j := 4) rfl rfl ?_
      refine z_if_ne (pc := 43) (tgt := 65) rfl (by decide) (fun h43 => ?_) (fun h43 => ?_)
      · refine z_iload_n (pc := 65) (i := 1) (j := 1) rfl rfl rfl ?_
        refine z_iconst (pc := 66) (v := 5) rfl (by decide) ?_
        refine z_icmp_ne (pc := 67) (tgt := 76) rfl (by decide) (fun h67 => ?_) (fun h67 => ?_)
        · refine z_iload (pc := 76) (i := 4) (j := 4) rfl rfl ?_
          refine z_if_ne (pc := 78) (tgt := 86) rfl (by decide) (fun h78 => ?_) (fun h78 => ?_)
          · refine z_aload_n (pc := 86) (i := 0) (j := 0) rfl rfl rfl ?_
            refine z_iload (pc := 87) (i := 4) (j := 4) rfl rfl ?_
            refine z_if_eq (pc := 89) (tgt := 97) rfl (by decide) (fun h89 => ?_) (fun h89 => ?_)
            · first | exact absurd h89 (by decide) | exact absurd (by decide) h89
            · refine z_bipush (pc := 92) (v := 30) rfl (by decide) ?_
              refine z_goto (pc := 94) (tgt := 99) rfl (by decide) ?_
              refine z_cV (pc := 99) (mc1 := 0) (ms1 := 0) (mc2 := 0) (ms2 := 0) (as := [.int 30]) (rest := []) (o := 44) rfl rfl hk.1.1 ok_Mod_puts rfl rfl cl_Mod_171 (by omega) (Nat.le_of_ble_eq_true rfl) (Nat.le_of_ble_eq_true rfl) (Nat.le_refl _) (Nat.le_refl _) (c_Mod_puts hk (j := j0 + Y.length) hj19 (by omega) 30 0) (fun r1 w1 hp => ?_) rfl rfl
              obtain ⟨rfl, hw1⟩ := hp
              rw [hw1]
              refine ⟨⟨Nat.le_refl _, Or.inl rfl⟩, ?_⟩
              refine z_iinc (pc := 102) (i := 1) (j := 1) (v := nI (d + 1)) (ls' := [(0, .ref 44), (1, .int (nI (d + 1))), (2, .int 1), (3, .int 0), (4, .int 1), (5, .int 0)]) rfl rfl (nI_1 d) (by decide) rfl ?_
              refine z_aload_n (pc := 105) (i := 0) (j := 0) rfl rfl rfl ?_
              refine z_getR (pc := 106) (x := 55) rfl fl_Mod_41 hk.1.1 rfl (mr_55 hk.1) ?_
              refine z_iload_n (pc := 109) (i := 1) (j := 1) rfl rfl rfl ?_
              refine z_iload (pc := 110) (i := 4) (j := 4) rfl rfl ?_
              refine z_if_eq (pc := 112) (tgt := 119) rfl (by decide) (fun h112 => ?_) (fun h112 => ?_)
              · first | exact absurd h112 (by decide) | exact absurd (by decide) h112
              · refine z_iconst (pc := 115) (v := 1) rfl (by decide) ?_
                refine z_goto (pc := 116) (tgt := 120) rfl (by decide) ?_
                refine z_iast (pc := 120) rfl (mk_55 hk.1) (vp_in_nI (n := d + 1) (N := 7) (by omega) (by decide)) ?_
                refine z_aload_n (pc := 121) (i := 0) (j := 0) rfl rfl rfl ?_
                refine z_getR (pc := 122) (x := 56) rfl fl_Mod_44 hk.1.1 rfl (mr_56 hk.1) ?_
                refine z_iload_n (pc := 125) (i := 1) (j := 1) rfl rfl rfl ?_
                refine z_iconst (pc := 126) (v := 0) rfl (by decide) ?_
                refine z_zast (pc := 127) rfl (mk_56 hk.1) (vp_in_nI (n := d + 1) (N := 7) (by omega) (by decide)) ?_
                refine z_goto (pc := 128) (tgt := 172) rfl (by decide) ?_
                refine z_aload_n (pc := 172) (i := 0) (j := 0) rfl rfl rfl ?_
                refine z_nmw (fun w7 hw7 => ?_)
                have hQ7 : rdQ T n w0 j0 p (upd op (d + 1) 1) (upd cm (d + 1) 0) (Y ++ [30]) w7 := by
                  rw [hw7, nI_clamp (n := d + 1) (by omega)]
                  exact rdQ_56 (rdQ_55 (rdQ_put hQ (by omega) 30) (d + 1) 1) (d + 1) 0
                refine z_cV (pc := 173) (mc1 := 0) (ms1 := 0) (mc2 := 0) (ms2 := 0) (as := []) (rest := []) (o := 44) rfl rfl (mK_R hk0 hQ7.1).1.1 ok_Mod_nextToken rfl rfl cl_Mod_174 (by omega) (Nat.le_of_ble_eq_true rfl) (Nat.le_of_ble_eq_true rfl) (Nat.le_refl _) (Nat.le_refl _) (c_Mod_nextToken (w := w7) (mK_R hk0 hQ7.1) (p := tEnd T n p) (tEnd_le hS.2.2.2.2.2) hQ7.2.1.1 1 (by decide)) (fun r1 w8 hp => ?_) rfl rfl
                obtain ⟨rfl, hF8, hS8⟩ := hp
                refine ⟨⟨by rw [hF8.1]; exact Nat.le_refl _, Or.inl (by rw [hF8.1])⟩, ?_⟩
                refine z_goto (pc := 176) (tgt := 11) rfl (by decide) ?_
                refine z_drop (ls' := [(0, .ref 44), (1, .int (nI (d + 1))), (2, .int 1)]) (by simp) ?_
                exact hH (tEnd_le hS.2.2.2.2.2) (by omega) (by rw [List.length_append]; show j0 + (Y.length + 1) ≤ _; omega) w8 (rdQ_nx hQ7 hF8 hS8)
          · first | exact absurd h78 (by decide) | exact absurd (by decide) h78
        · exact absurd ((nI_eq (a := d) (b := 5) (by omega) (by omega)).mp h67) (by omega)
      · first | exact absurd h43 (by decide) | exact absurd (by decide) h43
set_option maxRecDepth 100000 in
set_option maxHeartbeats 4000000 in
theorem rd_A1 {T : Nat → Int32} {n L s j0 dd : Nat} {w0 : zW} {P : Option Value → zW → Prop} (hk0 : mK w0 n T) (hpl : (zI w0 44 21 = 0 ∧ ¬ L = s + 9) ∨ (zI w0 44 21 = 1 ∧ L = s + 9)) (hdd : 2 ≤ dd) (hj0 : 1000 ≤ j0 ∧ j0 ≤ 5000) {p d : Nat} {op cm : Nat → Int32} {Y : List Int32} (hO : ¬ isO T n L s p) (hPE : rdE w0 P (flA T n 1 p)) : rdH T n w0 j0 dd P p d true op cm Y := by
  intro hp hd5 hj w hQ
  have hk := mK_R hk0 hQ.1
  have hS := hQ.2.1
  have hj19 := hQ.2.2.2.2.1
  have hn1 := hk0.2.2.1
  refine z_iload_n (pc := 11) (i := 2) (j := 2) rfl rfl rfl ?_
  refine z_if_eq (pc := 12) (tgt := 179) rfl (by decide) (fun h12 => ?_) (fun h12 => ?_)
  · first | exact absurd h12 (by decide) | exact absurd (by decide) h12
  · refine z_aload_n (pc := 15) (i := 0) (j := 0) rfl rfl rfl ?_
    refine z_cV (pc := 16) (mc1 := 0) (ms1 := 0) (mc2 := 0) (ms2 := 0) (as := []) (rest := []) (o := 44) rfl rfl hk.1.1 ok_Mod_fact rfl rfl cl_Mod_154 (by omega) (Nat.le_of_ble_eq_true rfl) (Nat.le_of_ble_eq_true rfl) (Nat.le_refl _) (Nat.le_refl _) (c_fac hk hS 0) (fun r1 w1 hp => ?_) rfl rfl
    obtain ⟨rfl, hw1⟩ := hp
    rw [hw1]
    refine ⟨⟨Nat.le_refl _, Or.inl rfl⟩, ?_⟩
    refine z_eqi (y := 0) (by rw [hQ.1.2.2.2.1 21 (by decide), fac_e hpl, show fctO L (s + 9) (tW T n p) = 0 from Decidable.byContradiction (fun e => hO (Or.inr (Or.inr (Or.inr e))))]; rfl) ?_
    refine z_istore_n (pc := 19) (i := 3) (ls' := [(0, .ref 44), (1, .int (nI d)), (2, .int 1), (3, .int 0)]) rfl rfl (by decide) rfl ?_
    refine z_aload_n (pc := 20) (i := 0) (j := 0) rfl rfl rfl ?_
    refine z_ldc2 (pc := 21) (v := 10631) rfl kl_Mod_158 ?_
    refine z_cV (pc := 24) (mc1 := 0) (ms1 := 0) (mc2 := 0) (ms2 := 0) (as := [.long 10631]) (rest := []) (o := 44) rfl rfl hk.1.1 ok_Mod_isWord rfl rfl cl_Mod_160 (by omega) (Nat.le_of_ble_eq_true rfl) (Nat.le_of_ble_eq_true rfl) (Nat.le_refl _) (Nat.le_refl _) (c_wd hk hS (i := 13) (by decide) (x := 10631) rfl 0) (fun r1 w1 hp => ?_) rfl rfl
    obtain ⟨rfl, hw1⟩ := hp
    rw [hw1]
    refine ⟨⟨Nat.le_refl _, Or.inl rfl⟩, ?_⟩
    refine z_eqi (y := 0) (if_neg (fun e => hO (Or.inr (Or.inr (Or.inl e))))) ?_
    refine z_istore (pc := 27) (i := 4) (ls' := [(0, .ref 44), (1, .int (nI d)), (2, .int 1), (3, .int 0), (4, .int 0)]) rfl (by decide) rfl ?_
    refine z_aload_n (pc := 29) (i := 0) (j := 0) rfl rfl rfl ?_
    refine z_bipush (pc := 30) (v := 40) rfl (by decide) ?_
    refine z_cV (pc := 32) (mc1 := 0) (ms1 := 0) (mc2 := 0) (ms2 := 0) (as := [.int 40]) (rest := []) (o := 44) rfl rfl hk.1.1 ok_Mod_isSign rfl rfl cl_Mod_164 (by omega) (Nat.le_of_ble_eq_true rfl) (Nat.le_of_ble_eq_true rfl) (Nat.le_refl _) (Nat.le_refl _) (c_Mod_isSign hk hS (c := 40) (by decide) 0) (fun r1 w1 hp => ?_) rfl rfl
    obtain ⟨rfl, hw1⟩ := hp
    rw [hw1]
    refine ⟨⟨Nat.le_refl _, Or.inl rfl⟩, ?_⟩
    refine z_eqi (y := 0) (if_neg (fun e => hO (Or.inr (Or.inl e)))) ?_
    refine z_istore (pc := 35) (i := 5) (ls' := [(0, .ref 44), (1, .int (nI d)), (2, .int 1), (3, .int 0), (4, .int 0), (5, .int 0)]) rfl (by decide) rfl ?_
    refine z_iload_n (pc := 37) (i := 3) (j := 3) rfl rfl rfl ?_
    refine z_if_ne (pc := 38) (tgt := 65) rfl (by decide) (fun h38 => ?_) (fun h38 => ?_)
    · first | exact absurd h38 (by decide) | exact absurd (by decide) h38
    · refine z_iload (pc := 41) (i := 4) (j := 4) rfl rfl ?_
      refine z_if_ne (pc := 43) (tgt := 65) rfl (by decide) (fun h43 => ?_) (fun h43 => ?_)
      · first | exact absurd h43 (by decide) | exact absurd (by decide) h43
      · refine z_iload (pc := 46) (i := 5) (j := 5) rfl rfl ?_
        refine z_if_ne (pc := 48) (tgt := 65) rfl (by decide) (fun h48 => ?_) (fun h48 => ?_)
        · first | exact absurd h48 (by decide) | exact absurd (by decide) h48
        · refine z_aload_n (pc := 51) (i := 0) (j := 0) rfl rfl rfl ?_
          refine z_getI (pc := 52) rfl fl_Mod_125 hk.1.1 rfl ?_
          refine z_eqi (y := tM T n p) hS.2.2.1 ?_
          refine z_iconst (pc := 55) (v := 2) rfl (by decide) ?_
          refine z_icmp_eq (pc := 56) (tgt := 65) rfl (by decide) (fun h56 => ?_) (fun h56 => ?_)
          · exact absurd (Or.inl ((t2_iff T n p).mp h56)) hO
          · refine z_aload_n (pc := 59) (i := 0) (j := 0) rfl rfl rfl ?_
            refine z_iconst (pc := 60) (v := 1) rfl (by decide) ?_
            refine z_cV (pc := 61) (mc1 := 0) (ms1 := 0) (mc2 := 0) (ms2 := 0) (as := [.int 1]) (rest := []) (o := 44) rfl rfl hk.1.1 ok_Mod_fails rfl rfl cl_Mod_168 (by omega) (Nat.le_of_ble_eq_true rfl) (Nat.le_of_ble_eq_true rfl) (Nat.le_refl _) (Nat.le_refl _) (c_Mod_fails hk hS 1 0) (fun r1 w1 hp => ?_) rfl rfl
            obtain ⟨rfl, hw1⟩ := hp
            rw [hw1]
            refine ⟨⟨Nat.le_refl _, Or.inl rfl⟩, ?_⟩
            exact z_zret (pc := 64) rfl rfl (by decide) (hPE _ (rdsF_I hQ.1 _ (Or.inr (Or.inr (Or.inr ⟨rfl, Or.inl rfl⟩)))) rfl)
set_option maxRecDepth 100000 in
set_option maxHeartbeats 4000000 in
theorem rd_A2 {T : Nat → Int32} {n L s j0 dd : Nat} {w0 : zW} {P : Option Value → zW → Prop} (hk0 : mK w0 n T) (hpl : (zI w0 44 21 = 0 ∧ ¬ L = s + 9) ∨ (zI w0 44 21 = 1 ∧ L = s + 9)) (hdd : 2 ≤ dd) (hj0 : 1000 ≤ j0 ∧ j0 ≤ 5000) {p : Nat} {op cm : Nat → Int32} {Y : List Int32} (hO : isO T n L s p) (hPE : rdE w0 P (flA T n 5 p)) : rdH T n w0 j0 dd P p 5 true op cm Y := by
  intro hp hd5 hj w hQ
  have hk := mK_R hk0 hQ.1
  have hS := hQ.2.1
  have hj19 := hQ.2.2.2.2.1
  have hn1 := hk0.2.2.1
  refine z_iload_n (pc := 11) (i := 2) (j := 2) rfl rfl rfl ?_
  refine z_if_eq (pc := 12) (tgt := 179) rfl (by decide) (fun h12 => ?_) (fun h12 => ?_)
  · first | exact absurd h12 (by decide) | exact absurd (by decide) h12
  · refine z_aload_n (pc := 15) (i := 0) (j := 0) rfl rfl rfl ?_
    refine z_cV (pc := 16) (mc1 := 0) (ms1 := 0) (mc2 := 0) (ms2 := 0) (as := []) (rest := []) (o := 44) rfl rfl hk.1.1 ok_Mod_fact rfl rfl cl_Mod_154 (by omega) (Nat.le_of_ble_eq_true rfl) (Nat.le_of_ble_eq_true rfl) (Nat.le_refl _) (Nat.le_refl _) (c_fac hk hS 0) (fun r1 w1 hp => ?_) rfl rfl
    obtain ⟨rfl, hw1⟩ := hp
    rw [hw1]
    refine ⟨⟨Nat.le_refl _, Or.inl rfl⟩, ?_⟩
    refine z_istore_n (pc := 19) (i := 3) (ls' := [(0, .ref 44), (1, .int (nI 5)), (2, .int 1), (3, .int (facM (tW T n p) (zI w 44 21)))]) rfl rfl (by decide) rfl ?_
    refine z_aload_n (pc := 20) (i := 0) (j := 0) rfl rfl rfl ?_
    refine z_ldc2 (pc := 21) (v := 10631) rfl kl_Mod_158 ?_
    refine z_cV (pc := 24) (mc1 := 0) (ms1 := 0) (mc2 := 0) (ms2 := 0) (as := [.long 10631]) (rest := []) (o := 44) rfl rfl hk.1.1 ok_Mod_isWord rfl rfl cl_Mod_160 (by omega) (Nat.le_of_ble_eq_true rfl) (Nat.le_of_ble_eq_true rfl) (Nat.le_refl _) (Nat.le_refl _) (c_wd hk hS (i := 13) (by decide) (x := 10631) rfl 0) (fun r1 w1 hp => ?_) rfl rfl
    obtain ⟨rfl, hw1⟩ := hp
    rw [hw1]
    refine ⟨⟨Nat.le_refl _, Or.inl rfl⟩, ?_⟩
    refine z_istore (pc := 27) (i := 4) (ls' := [(0, .ref 44), (1, .int (nI 5)), (2, .int 1), (3, .int (facM (tW T n p) (zI w 44 21))), (4, .int (if tW T n p = some (1000000 + 13) then 1 else 0))]) rfl (by decide) rfl ?_
    refine z_aload_n (pc := 29) (i := 0) (j := 0) rfl rfl rfl ?_
    refine z_bipush (pc := 30) (v := 40) rfl (by decide) ?_
    refine z_cV (pc := 32) (mc1 := 0) (ms1 := 0) (mc2 := 0) (ms2 := 0) (as := [.int 40]) (rest := []) (o := 44) rfl rfl hk.1.1 ok_Mod_isSign rfl rfl cl_Mod_164 (by omega) (Nat.le_of_ble_eq_true rfl) (Nat.le_of_ble_eq_true rfl) (Nat.le_refl _) (Nat.le_refl _) (c_Mod_isSign hk hS (c := 40) (by decide) 0) (fun r1 w1 hp => ?_) rfl rfl
    obtain ⟨rfl, hw1⟩ := hp
    rw [hw1]
    refine ⟨⟨Nat.le_refl _, Or.inl rfl⟩, ?_⟩
    refine z_istore (pc := 35) (i := 5) (ls' := [(0, .ref 44), (1, .int (nI 5)), (2, .int 1), (3, .int (facM (tW T n p) (zI w 44 21))), (4, .int (if tW T n p = some (1000000 + 13) then 1 else 0)), (5, .int (if tC T n p = 40 then 1 else 0))]) rfl (by decide) rfl ?_
    refine z_iload_n (pc := 37) (i := 3) (j := 3) rfl rfl rfl ?_
    refine z_if_ne (pc := 38) (tgt := 65) rfl (by decide) (fun h38 => ?_) (fun h38 => ?_)
    · refine z_iload_n (pc := 65) (i := 1) (j := 1) rfl rfl rfl ?_
      refine z_iconst (pc := 66) (v := 5) rfl (by decide) ?_
      refine z_icmp_ne (pc := 67) (tgt := 76) rfl (by decide) (fun h67 => ?_) (fun h67 => ?_)
      · exact absurd rfl h67
      · refine z_aload_n (pc := 70) (i := 0) (j := 0) rfl rfl rfl ?_
        refine z_iconst (pc := 71) (v := 5) rfl (by decide) ?_
        refine z_cV (pc := 72) (mc1 := 0) (ms1 := 0) (mc2 := 0) (ms2 := 0) (as := [.int 5]) (rest := []) (o := 44) rfl rfl hk.1.1 ok_Mod_fails rfl rfl cl_Mod_168 (by omega) (Nat.le_of_ble_eq_true rfl) (Nat.le_of_ble_eq_true rfl) (Nat.le_refl _) (Nat.le_refl _) (c_Mod_fails hk hS 5 0) (fun r1 w1 hp => ?_) rfl rfl
        obtain ⟨rfl, hw1⟩ := hp
        rw [hw1]
        refine ⟨⟨Nat.le_refl _, Or.inl rfl⟩, ?_⟩
        exact z_zret (pc := 75) rfl rfl (by decide) (hPE _ (rdsF_I hQ.1 _ (Or.inr (Or.inr (Or.inr ⟨rfl, Or.inl rfl⟩)))) rfl)
    · refine z_iload (pc := 41) (i := 4) (j := 4) rfl rfl ?_
      refine z_if_ne (pc := 43) (tgt := 65) rfl (by decide) (fun h43 => ?_) (fun h43 => ?_)
      · refine z_iload_n (pc := 65) (i := 1) (j := 1) rfl rfl rfl ?_
        refine z_iconst (pc := 66) (v := 5) rfl (by decide) ?_
        refine z_icmp_ne (pc := 67) (tgt := 76) rfl (by decide) (fun h67 => ?_) (fun h67 => ?_)
        · exact absurd rfl h67
        · refine z_aload_n (pc := 70) (i := 0) (j := 0) rfl rfl rfl ?_
          refine z_iconst (pc := 71) (v := 5) rfl (by decide) ?_
          refine z_cV (pc := 72) (mc1 := 0) (ms1 := 0) (mc2 := 0) (ms2 := 0) (as := [.int 5]) (rest := []) (o := 44) rfl rfl hk.1.1 ok_Mod_fails rfl rfl cl_Mod_168 (by omega) (Nat.le_of_ble_eq_true rfl) (Nat.le_of_ble_eq_true rfl) (Nat.le_refl _) (Nat.le_refl _) (c_Mod_fails hk hS 5 0) (fun r1 w1 hp => ?_) rfl rfl
          obtain ⟨rfl, hw1⟩ := hp
          rw [hw1]
          refine ⟨⟨Nat.le_refl _, Or.inl rfl⟩, ?_⟩
          exact z_zret (pc := 75) rfl rfl (by decide) (hPE _ (rdsF_I hQ.1 _ (Or.inr (Or.inr (Or.inr ⟨rfl, Or.inl rfl⟩)))) rfl)
      · refine z_iload (pc := 46) (i := 5) (j := 5) rfl rfl ?_
        refine z_if_ne (pc := 48) (tgt := 65) rfl (by decide) (fun h48 => ?_) (fun h48 => ?_)
        · refine z_iload_n (pc := 65) (i := 1) (j := 1) rfl rfl rfl ?_
          refine z_iconst (pc := 66) (v := 5) rfl (by decide) ?_
          refine z_icmp_ne (pc := 67) (tgt := 76) rfl (by decide) (fun h67 => ?_) (fun h67 => ?_)
          · exact absurd rfl h67
          · refine z_aload_n (pc := 70) (i := 0) (j := 0) rfl rfl rfl ?_
            refine z_iconst (pc := 71) (v := 5) rfl (by decide) ?_
            refine z_cV (pc := 72) (mc1 := 0) (ms1 := 0) (mc2 := 0) (ms2 := 0) (as := [.int 5]) (rest := []) (o := 44) rfl rfl hk.1.1 ok_Mod_fails rfl rfl cl_Mod_168 (by omega) (Nat.le_of_ble_eq_true rfl) (Nat.le_of_ble_eq_true rfl) (Nat.le_refl _) (Nat.le_refl _) (c_Mod_fails hk hS 5 0) (fun r1 w1 hp => ?_) rfl rfl
            obtain ⟨rfl, hw1⟩ := hp
            rw [hw1]
            refine ⟨⟨Nat.le_refl _, Or.inl rfl⟩, ?_⟩
            exact z_zret (pc := 75) rfl rfl (by decide) (hPE _ (rdsF_I hQ.1 _ (Or.inr (Or.inr (Or.inr ⟨rfl, Or.inl rfl⟩)))) rfl)
        · refine z_aload_n (pc := 51) (i := 0) (j := 0) rfl rfl rfl ?_
          refine z_getI (pc := 52) rfl fl_Mod_125 hk.1.1 rfl ?_
          refine z_eqi (y := tM T n p) hS.2.2.1 ?_
          refine z_iconst (pc := 55) (v := 2) rfl (by decide) ?_
          refine z_icmp_eq (pc := 56) (tgt := 65) rfl (by decide) (fun h56 => ?_) (fun h56 => ?_)
          · refine z_iload_n (pc := 65) (i := 1) (j := 1) rfl rfl rfl ?_
            refine z_iconst (pc := 66) (v := 5) rfl (by decide) ?_
            refine z_icmp_ne (pc := 67) (tgt := 76) rfl (by decide) (fun h67 => ?_) (fun h67 => ?_)
            · exact absurd rfl h67
            · refine z_aload_n (pc := 70) (i := 0) (j := 0) rfl rfl rfl ?_
              refine z_iconst (pc := 71) (v := 5) rfl (by decide) ?_
              refine z_cV (pc := 72) (mc1 := 0) (ms1 := 0) (mc2 := 0) (ms2 := 0) (as := [.int 5]) (rest := []) (o := 44) rfl rfl hk.1.1 ok_Mod_fails rfl rfl cl_Mod_168 (by omega) (Nat.le_of_ble_eq_true rfl) (Nat.le_of_ble_eq_true rfl) (Nat.le_refl _) (Nat.le_refl _) (c_Mod_fails hk hS 5 0) (fun r1 w1 hp => ?_) rfl rfl
              obtain ⟨rfl, hw1⟩ := hp
              rw [hw1]
              refine ⟨⟨Nat.le_refl _, Or.inl rfl⟩, ?_⟩
              exact z_zret (pc := 75) rfl rfl (by decide) (hPE _ (rdsF_I hQ.1 _ (Or.inr (Or.inr (Or.inr ⟨rfl, Or.inl rfl⟩)))) rfl)
          · rcases hO with z | z | z | z
            · exact absurd ((t2_iff T n p).mpr z) h56
            · exact absurd h48 (by rw [if_pos z]; decide)
            · exact absurd h43 (by rw [if_pos z]; decide)
            · exact absurd h38 (by rw [hQ.1.2.2.2.1 21 (by decide), fac_e hpl]; rcases (fct_v z).2 with y | y | y | y <;> (have y1 := y.1; rw [show fctO L (s + 9) (tW T n p) = fctO L (s + 9) (tkw T n (.inl p)) from rfl, y1]; decide))
