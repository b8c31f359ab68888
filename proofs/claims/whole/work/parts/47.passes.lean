/-! THE MODEL'S HOUR -/
def plc (c : Nat) : Nat := 12 * (c / 16) + c % 16
theorem plc_n {c : Nat} (h : c < 192) : (12 * (nI c / 16)) + (nI c - nI c / 16 * 16) = nI (plc c) := by
  rw [show (16 : Int32) = nI 16 from rfl, pk_rem (by omega) (by omega) (by omega), pk_div (by omega) (by omega) (by omega), show (12 : Int32) = nI 12 from rfl, pk_mul, nI_add]
  rfl
def sootN (sm : Nat → Int32) (h : Nat) (r : Nat → Int32) : Nat → Nat → Int32
  | 0 => r
  | c + 1 => if (sm c >>> (nI h &&& 31)) &&& 1 = 1 then upd (sootN sm h r c) (176 + 8 * plc c + h) (sootN sm h r c (176 + 8 * plc c + h) + 1) else sootN sm h r c
theorem sootN_s (sm : Nat → Int32) (h : Nat) (r : Nat → Int32) (c : Nat) : sootN sm h r (c + 1) = if (sm c >>> (nI h &&& 31)) &&& 1 = 1 then upd (sootN sm h r c) (176 + 8 * plc c + h) (sootN sm h r c (176 + 8 * plc c + h) + 1) else sootN sm h r c := rfl
theorem sootN_0 (sm : Nat → Int32) (h : Nat) (r : Nat → Int32) : sootN sm h r 0 = r := rfl
theorem sootN_o (sm : Nat → Int32) (h : Nat) (r : Nat → Int32) {k : Nat} (hk : k < 176) : ∀ c, sootN sm h r c k = r k
  | 0 => rfl
  | c + 1 => by
    rw [sootN_s]
    split
    · rw [pk_un (by omega)]; exact sootN_o sm h r hk c
    · exact sootN_o sm h r hk c
def burnV (L S : Int32) (h : Nat) : Int32 := if mbit L h = 0 then 0 else if mbit S h = 0 then 1 else 0
def payV (f : Nat → Nat → Int32) (h : Nat) : Int32 := if burnV (f 67 136) (f 67 137) h = 0 then f 46 2 else priceV (f 51 h)
def payN (f : Nat → Nat → Int32) : Nat → Nat → Int32
  | 0 => f 67
  | h + 1 => sootN (f 70) h (upd (payN f h) (128 + h) (payN f h (128 + h) + payV f h)) 192
theorem payN_o (f : Nat → Nat → Int32) {k : Nat} (hk : k < 128 ∨ 136 ≤ k ∧ k < 176) : ∀ h, h ≤ 8 → payN f h k = f 67 k
  | 0, _ => rfl
  | h + 1, h8 => by
    show sootN (f 70) h _ 192 k = _
    rw [sootN_o _ _ _ (by omega), pk_un (by omega)]
    exact payN_o f hk h (by omega)
theorem and7_n (x : Int32) : ∃ k : Nat, k < 8 ∧ x &&& 7 = nI k := by rw [← fmod8_and]; exact fmod8_n x
set_option maxRecDepth 100000 in
set_option maxHeartbeats 4000000 in
theorem lS_Mod_passes {w : zW} (hm : zMo w) {P : Option Value → zW → Prop} (f : Nat → Nat → Int32) {h : Nat} (h8 : h < 8) (hsm : ∀ c, c < 192 → (f 70 c >>> (nI h &&& 31)) &&& 1 = 1 → c / 16 < 12 ∧ c % 16 < 12) (wy u : Int32) (d : Nat) (hd : 1 ≤ d) (kx : zS 0 0 d m_Mod_passes P 200 [(0, .ref 44), (1, .int wy), (2, .int (nI h))] [] (zuI w (zr f 67 (sootN (f 70) h (f 67) 192)))) : ∀ (m i : Nat), i ≤ 192 → 192 ≤ i + m → zS 0 0 d m_Mod_passes P 148 [(0, .ref 44), (1, .int wy), (2, .int (nI h)), (3, .int u), (4, .int (nI i))] [] (zuI w (zr f 67 (sootN (f 70) h (f 67) i))) := by
  have hex : zS 0 0 d m_Mod_passes P 148 [(0, .ref 44), (1, .int wy), (2, .int (nI h)), (3, .int u), (4, .int (nI 192))] [] (zuI w (zr f 67 (sootN (f 70) h (f 67) 192))) := by
    refine z_iload (pc := 148) (i := 4) (j := 4) rfl rfl ?_
    refine z_sipush (pc := 150) (v := 192) rfl (by decide) ?_
    refine z_icmp_ge (pc := 153) (tgt := 200) rfl (by decide) (fun h153 => ?_) (fun h153 => ?_)
    · refine z_drop ?_ kx
      simp
    · exact absurd (by decide) h153
  intro m
  induction m with
  | zero =>
    intro i hi hmm
    obtain rfl : i = 192 := by omega
    exact hex
  | succ m ih =>
    intro i hi hmm
    by_cases hlt : i < 192
    · have kk := ih (i + 1) (by omega) (by omega)
      refine z_iload (pc := 148) (i := 4) (j := 4) rfl rfl ?_
      refine z_sipush (pc := 150) (v := 192) rfl (by decide) ?_
      refine z_icmp_ge (pc := 153) (tgt := 200) rfl (by decide) (fun h153 => ?_) (fun h153 => ?_)
      · exact absurd h153 (nI_ge (b := 192) hlt (by decide))
      · refine z_aload_n (pc := 156) (i := 0) (j := 0) rfl rfl rfl ?_
        refine z_getR (pc := 157) (x := 70) rfl fl_Mod_87 hm.1 rfl (mr_70 hm) ?_
        refine z_iload (pc := 160) (i := 4) (j := 4) rfl rfl ?_
        refine z_iald (pc := 162) rfl (mk_70 hm) (vp_in_nI hlt (by decide)) ?_
        refine z_eqi (y := f 70 i) (by rw [nI_clamp (by omega)]; exact congrFun (zr_u w f _ (o := 67) (a := 70) (by decide)) i) ?_
        refine z_iload_n (pc := 163) (i := 2) (j := 2) rfl rfl rfl ?_
        refine z_ishr (pc := 164) rfl ?_
        refine z_iconst (pc := 165) (v := 1) rfl (by decide) ?_
        refine z_iand (pc := 166) rfl ?_
        refine z_iconst (pc := 167) (v := 1) rfl (by decide) ?_
        refine z_icmp_ne (pc := 168) (tgt := 194) rfl (by decide) (fun h168 => ?_) (fun h168 => ?_)
        · refine z_iinc (pc := 194) (i := 4) (j := 4) (v := nI (i + 1)) (ls' := [(0, .ref 44), (1, .int wy), (2, .int (nI h)), (3, .int u), (4, .int (nI (i + 1)))]) rfl rfl (nI_1 i) (by decide) rfl ?_
          refine z_goto (pc := 197) (tgt := 148) rfl (by decide) ?_
          rw [sootN_s, if_neg h168] at kk
          exact kk
        · obtain ⟨hp1, hp2⟩ := hsm i hlt h168
          refine z_aload_n (pc := 171) (i := 0) (j := 0) rfl rfl rfl ?_
          refine z_getR (pc := 172) (x := 67) rfl fl_Mod_78 hm.1 rfl (mr_67 hm) ?_
          refine z_sipush (pc := 175) (v := 176) rfl (by decide) ?_
          refine z_bipush (pc := 178) (v := 8) rfl (by decide) ?_
          refine z_iload (pc := 180) (i := 4) (j := 4) rfl rfl ?_
          refine z_cS (pc := 182) (mc1 := 0) (ms1 := 0) (mc2 := 0) (ms2 := 0) (as := [.int (nI i)]) (rest := [.int 8, .int 176, .ref 67]) ok_Mod_placeOf rfl rfl cl_Mod_324 (by omega) (Nat.le_of_ble_eq_true rfl) (Nat.le_of_ble_eq_true rfl) (Nat.le_refl _) (Nat.le_refl _) (c_Mod_placeOf (nI i) 0 _) (fun r1 w1 hp => ?_) rfl rfl
          obtain ⟨rfl, hw1⟩ := hp
          rw [hw1, plc_n hlt]
          refine ⟨⟨Nat.le_refl _, Or.inl rfl⟩, ?_⟩
          refine z_imul (pc := 185) rfl ?_
          refine z_iadd (pc := 186) rfl ?_
          refine z_iload_n (pc := 187) (i := 2) (j := 2) rfl rfl rfl ?_
          refine z_iadd (pc := 188) rfl ?_
          refine z_eqi (y := nI (176 + 8 * plc i + h)) (by rw [show (8 : Int32) = nI 8 from rfl, show (176 : Int32) = nI 176 from rfl, pk_mul, nI_add, nI_add]) ?_
          refine z_dup2 (pc := 189) rfl rfl rfl ?_
          refine z_iald (pc := 190) rfl (mk_67 hm) (vp_in_nI (show 176 + 8 * plc i + h < 1344 by unfold plc; omega) (by decide)) ?_
          refine z_eqi (y := sootN (f 70) h (f 67) i (176 + 8 * plc i + h)) (by rw [nI_clamp (by unfold plc; omega)]; exact zr_hu w f 67 _ _) ?_
          refine z_iconst (pc := 191) (v := 1) rfl (by decide) ?_
          refine z_iadd (pc := 192) rfl ?_
          refine z_iast (pc := 193) rfl (mk_67 hm) (vp_in_nI (show 176 + 8 * plc i + h < 1344 by unfold plc; omega) (by decide)) ?_
          refine z_iinc (pc := 194) (i := 4) (j := 4) (v := nI (i + 1)) (ls' := [(0, .ref 44), (1, .int wy), (2, .int (nI h)), (3, .int u), (4, .int (nI (i + 1)))]) rfl rfl (nI_1 i) (by decide) rfl ?_
          refine z_goto (pc := 197) (tgt := 148) rfl (by decide) ?_
          rw [nI_clamp (by unfold plc; omega), zs_zr]
          rw [sootN_s, if_pos h168] at kk
          exact kk
    · obtain rfl : i = 192 := by omega
      exact hex
set_option maxRecDepth 100000 in
set_option maxHeartbeats 4000000 in
theorem lP_Mod_passes {w : zW} (hm : zMo w) {P : Option Value → zW → Prop} {H : Nat} (hH : zI w 46 4 = nI H) (hH8 : H ≤ 8) (hsm : ∀ h c, h < H → c < 192 → (zI w 70 c >>> (nI h &&& 31)) &&& 1 = 1 → c / 16 < 12 ∧ c % 16 < 12) (wy : Int32) (d : Nat) (hd : 1 ≤ d) (kx : ∀ f : Nat → Nat → Int32, (f 67 = payN (zI w) H ∧ ∀ o, o ≠ 67 → f o = zI w o) → zS 0 0 d m_Mod_passes P 206 [(0, .ref 44), (1, .int wy), (2, .int (nI H))] [] (zuI w f)) : ∀ (m i : Nat) (f : Nat → Nat → Int32), i ≤ H → H ≤ i + m → (f 67 = payN (zI w) i ∧ ∀ o, o ≠ 67 → f o = zI w o) → zS 0 0 d m_Mod_passes P 82 [(0, .ref 44), (1, .int wy), (2, .int (nI i))] [] (zuI w f) := by
  have hex : ∀ f : Nat → Nat → Int32, (f 67 = payN (zI w) H ∧ ∀ o, o ≠ 67 → f o = zI w o) → zS 0 0 d m_Mod_passes P 82 [(0, .ref 44), (1, .int wy), (2, .int (nI H))] [] (zuI w f) := by
    intro f hf
    refine z_iload_n (pc := 82) (i := 2) (j := 2) rfl rfl rfl ?_
    refine z_aload_n (pc := 83) (i := 0) (j := 0) rfl rfl rfl ?_
    refine z_getR (pc := 84) (x := 46) rfl fl_Mod_13 hm.1 rfl (mr_46 hm) ?_
    refine z_iconst (pc := 87) (v := 4) rfl (by decide) ?_
    refine z_iald (pc := 88) rfl (mk_46 hm) (vp_in_nI (n := 4) (by decide) (by decide)) ?_
    refine z_eqi (y := nI H) ((congrFun (hf.2 46 (by decide)) 4).trans hH) ?_
    refine z_icmp_ge (pc := 89) (tgt := 206) rfl (by decide) (fun h89 => ?_) (fun h89 => ?_)
    · exact kx f hf
    · exact absurd (Int32.le_refl _) h89
  intro m
  induction m with
  | zero =>
    intro i f hi hmm hf
    obtain rfl : i = H := by omega
    exact hex f hf
  | succ m ih =>
    intro i f hi hmm hf
    by_cases hlt : i < H
    · skip
      refine z_iload_n (pc := 82) (i := 2) (j := 2) rfl rfl rfl ?_
      refine z_aload_n (pc := 83) (i := 0) (j := 0) rfl rfl rfl ?_
      refine z_getR (pc := 84) (x := 46) rfl fl_Mod_13 hm.1 rfl (mr_46 hm) ?_
      refine z_iconst (pc := 87) (v := 4) rfl (by decide) ?_
      refine z_iald (pc := 88) rfl (mk_46 hm) (vp_in_nI (n := 4) (by decide) (by decide)) ?_
      refine z_eqi (y := nI H) ((congrFun (hf.2 46 (by decide)) 4).trans hH) ?_
      refine z_icmp_ge (pc := 89) (tgt := 206) rfl (by decide) (fun h89 => ?_) (fun h89 => ?_)
      · exact absurd h89 (nI_ge (b := H) hlt (by omega))
      · refine z_aload_n (pc := 92) (i := 0) (j := 0) rfl rfl rfl ?_
        refine z_iload_n (pc := 93) (i := 2) (j := 2) rfl rfl rfl ?_
        refine z_cV (pc := 94) (mc1 := 0) (ms1 := 0) (mc2 := 0) (ms2 := 0) (as := [.int (nI i)]) (rest := []) (o := 44) rfl rfl hm.1 ok_Mod_isLit rfl rfl cl_Mod_276 (by omega) (Nat.le_of_ble_eq_true rfl) (Nat.le_of_ble_eq_true rfl) (Nat.le_refl _) (Nat.le_refl _) (c_Mod_isLit (w := zuI w f) hm (nI i) 0) (fun r1 w1 hp => ?_) rfl rfl
        obtain ⟨rfl, hw1⟩ := hp
        rw [hw1, show zI (zuI w f) 67 (136 : Int32).toNatClampNeg = zI w 67 136 from ((congrFun hf.1 136).trans (payN_o (zI w) (by omega) i (by omega)))]
        refine ⟨⟨Nat.le_refl _, Or.inl rfl⟩, ?_⟩
        have j113 : ∀ u : Int32, (u = burnV (zI w 67 136) (zI w 67 137) i) → zS 0 0 d m_Mod_passes P 113 [(0, .ref 44), (1, .int wy), (2, .int (nI i))] [.int u] (zuI w f) := by
          intro u h_j113
          refine z_istore_n (pc := 113) (i := 3) (ls' := [(0, .ref 44), (1, .int wy), (2, .int (nI i)), (3, .int u)]) rfl rfl (by decide) rfl ?_
          refine z_aload_n (pc := 114) (i := 0) (j := 0) rfl rfl rfl ?_
          refine z_getR (pc := 115) (x := 67) rfl fl_Mod_78 hm.1 rfl (mr_67 hm) ?_
          refine z_sipush (pc := 118) (v := 128) rfl (by decide) ?_
          refine z_iload_n (pc := 121) (i := 2) (j := 2) rfl rfl rfl ?_
          refine z_iadd (pc := 122) rfl ?_
          refine z_eqi (y := nI (128 + i)) (by rw [show (128 : Int32) = nI 128 from rfl, nI_add]) ?_
          refine z_dup2 (pc := 123) rfl rfl rfl ?_
          refine z_iald (pc := 124) rfl (mk_67 hm) (vp_in_nI (show 128 + i < 1344 by omega) (by decide)) ?_
          refine z_eqi (y := payN (zI w) i (128 + i)) (by rw [nI_clamp (by omega)]; exact congrFun hf.1 _) ?_
          refine z_iload_n (pc := 125) (i := 3) (j := 3) rfl rfl rfl ?_
          have j143 : ∀ v : Int32, (v = payV (zI w) i) → zS 0 0 d m_Mod_passes P 143 [(0, .ref 44), (1, .int wy), (2, .int (nI i)), (3, .int u)] [.int v, .int (payN (zI w) i (128 + i)), .int (nI (128 + i)), .ref 67] (zuI w f) := by
            intro v h_j143
            refine z_iadd (pc := 143) rfl ?_
            refine z_iast (pc := 144) rfl (mk_67 hm) (vp_in_nI (show 128 + i < 1344 by omega) (by decide)) ?_
            refine z_iconst (pc := 145) (v := 0) rfl (by decide) ?_
            refine z_istore (pc := 146) (i := 4) (ls' := [(0, .ref 44), (1, .int wy), (2, .int (nI i)), (3, .int u), (4, .int 0)]) rfl (by decide) rfl ?_
            rw [nI_clamp (by omega)]
            have e67 : (z2 f 67 (128 + i) (payN (zI w) i (128 + i) + v)) 67 = upd (payN (zI w) i) (128 + i) (payN (zI w) i (128 + i) + v) := by rw [z2_ru, hf.1]
            have eo : ∀ o, o ≠ 67 → (z2 f 67 (128 + i) (payN (zI w) i (128 + i) + v)) o = zI w o := fun o ho => (z2_ro f (o := 67) _ _ ho).trans (hf.2 o ho)
            have l := lS_Mod_passes hm (P := P) (z2 f 67 (128 + i) (payN (zI w) i (128 + i) + v)) (h := i) (by omega) (by rw [eo 70 (by decide)]; exact fun c hc => hsm i c hlt hc) wy u d hd ?_ 192 0 (by omega) (by omega)
            · rw [sootN_0, zr_self] at l
              exact l
            refine z_iinc (pc := 200) (i := 2) (j := 2) (v := nI (i + 1)) (ls' := [(0, .ref 44), (1, .int wy), (2, .int (nI (i + 1)))]) rfl rfl (nI_1 i) (by decide) rfl ?_
            refine z_goto (pc := 203) (tgt := 82) rfl (by decide) ?_
            refine ih (i + 1) _ (by omega) (by omega) ⟨?_, fun o ho => (zr_o _ (o := 67) (a := o) _ ho).trans (eo o ho)⟩
            rw [zr_h, e67, eo 70 (by decide), h_j143]
            rfl
          refine z_if_ne (pc := 126) (tgt := 138) rfl (by decide) (fun h126 => ?_) (fun h126 => ?_)
          · refine z_aload_n (pc := 138) (i := 0) (j := 0) rfl rfl rfl ?_
            refine z_iload_n (pc := 139) (i := 2) (j := 2) rfl rfl rfl ?_
            refine z_cV (pc := 140) (mc1 := 0) (ms1 := 0) (mc2 := 0) (ms2 := 0) (as := [.int (nI i)]) (rest := [.int (payN (zI w) i (128 + i)), .int (nI (128 + i)), .ref 67]) (o := 44) rfl rfl hm.1 ok_Mod_payOf rfl rfl cl_Mod_321 (by omega) (Nat.le_of_ble_eq_true rfl) (Nat.le_of_ble_eq_true rfl) (Nat.le_refl _) (Nat.le_refl _) (c_Mod_payOf (w := zuI w f) hm (i := i) (by omega) 0) (fun r1 w1 hp => ?_) rfl rfl
            obtain ⟨rfl, hw1⟩ := hp
            rw [hw1, nI_clamp (by omega), show zI (zuI w f) 51 = zI w 51 from hf.2 51 (by decide)]
            refine ⟨⟨Nat.le_refl _, Or.inl rfl⟩, ?_⟩
            exact j143 _ (by unfold payV priceV; rw [← h_j113, if_neg h126])
          · refine z_aload_n (pc := 129) (i := 0) (j := 0) rfl rfl rfl ?_
            refine z_getR (pc := 130) (x := 46) rfl fl_Mod_13 hm.1 rfl (mr_46 hm) ?_
            refine z_iconst (pc := 133) (v := 2) rfl (by decide) ?_
            refine z_iald (pc := 134) rfl (mk_46 hm) (vp_in_nI (n := 2) (by decide) (by decide)) ?_
            refine z_eqi (y := zI w 46 2) (congrFun (hf.2 46 (by decide)) 2) ?_
            refine z_goto (pc := 135) (tgt := 143) rfl (by decide) ?_
            exact j143 _ (by unfold payV; rw [← h_j113, if_pos h126])
        refine z_if_eq (pc := 97) (tgt := 112) rfl (by decide) (fun h97 => ?_) (fun h97 => ?_)
        · refine z_iconst (pc := 112) (v := 0) rfl (by decide) ?_
          exact j113 _ (by unfold burnV mbit; rw [if_pos h97])
        · refine z_aload_n (pc := 100) (i := 0) (j := 0) rfl rfl rfl ?_
          refine z_iload_n (pc := 101) (i := 2) (j := 2) rfl rfl rfl ?_
          refine z_cV (pc := 102) (mc1 := 0) (ms1 := 0) (mc2 := 0) (ms2 := 0) (as := [.int (nI i)]) (rest := []) (o := 44) rfl rfl hm.1 ok_Mod_isShut rfl rfl cl_Mod_279 (by omega) (Nat.le_of_ble_eq_true rfl) (Nat.le_of_ble_eq_true rfl) (Nat.le_refl _) (Nat.le_refl _) (c_Mod_isShut (w := zuI w f) hm (nI i) 0) (fun r1 w1 hp => ?_) rfl rfl
          obtain ⟨rfl, hw1⟩ := hp
          rw [hw1, show zI (zuI w f) 67 (137 : Int32).toNatClampNeg = zI w 67 137 from ((congrFun hf.1 137).trans (payN_o (zI w) (by omega) i (by omega)))]
          refine ⟨⟨Nat.le_refl _, Or.inl rfl⟩, ?_⟩
          refine z_if_ne (pc := 105) (tgt := 112) rfl (by decide) (fun h105 => ?_) (fun h105 => ?_)
          · refine z_iconst (pc := 112) (v := 0) rfl (by decide) ?_
            exact j113 _ (by unfold burnV mbit; rw [if_neg h97, if_neg h105])
          · refine z_iconst (pc := 108) (v := 1) rfl (by decide) ?_
            refine z_goto (pc := 109) (tgt := 113) rfl (by decide) ?_
            exact j113 _ (by unfold burnV mbit; rw [if_neg h97, if_pos h105])
    · obtain rfl : i = H := by omega
      exact hex f hf
def turnM (last : Int32) (yv : Nat) : Int32 := if last ≤ 0 then 0 else if last = 1 + nI yv then 0 else 1
def passW (f : Nat → Nat → Int32) (C R H yv : Nat) (G : Int32 → Int32 → Int32 → Int32) : (Nat → Int32) × Int32 := wedA (turnM (f 67 139) yv) 1 (metM f C R yv G (f 67 138) (f 67 136 &&& (f 67 137 ^^^ (-1))) H) H (f 67, f 44 40) H
/-- the ints ahead of the loop over the houses -/
def passI (f : Nat → Nat → Int32) (C R H yv : Nat) (G : Int32 → Int32 → Int32 → Int32) : Nat → Nat → Int32 := zr (zr f 70 (smkM f C R yv G (f 67 138) (f 67 136 &&& (f 67 137 ^^^ (-1))) H)) 67 (upd (passW f C R H yv G).1 139 (1 + nI yv))
def passRow (f : Nat → Nat → Int32) (C R H yv : Nat) (G : Int32 → Int32 → Int32 → Int32) : Nat → Int32 := upd (payN (passI f C R H yv G) H) 138 (f 67 138 + 1)
theorem wedS_o (t ch : Int32) (met : Nat → Int32) {a b : Nat} (ha : a < 8) (hb : b < 8) (q : (Nat → Int32) × Int32) {k : Nat} (hk : 128 ≤ k) : (wedS t ch met a b q).1 k = q.1 k := by
  show upd (upd _ _ _) _ _ k = _
  rw [pk_un (by omega), pk_un (by omega)]
theorem wedN_o (t ch : Int32) (met : Nat → Int32) {a : Nat} (ha : a < 8) (q : (Nat → Int32) × Int32) {k : Nat} (hk : 128 ≤ k) : ∀ n, n ≤ 8 → (wedN t ch met a q n).1 k = q.1 k
  | 0, _ => rfl
  | n + 1, h => (wedS_o t ch met ha (by omega) _ hk).trans (wedN_o t ch met ha q hk n (by omega))
theorem wedA_o (t ch : Int32) (met : Nat → Int32) {H : Nat} (hH : H ≤ 8) (q : (Nat → Int32) × Int32) {k : Nat} (hk : 128 ≤ k) : ∀ n, n ≤ 8 → (wedA t ch met H q n).1 k = q.1 k
  | 0, _ => rfl
  | n + 1, h => (wedN_o t ch met (by omega) _ hk H hH).trans (wedA_o t ch met hH q hk n (by omega))
theorem payN_c {f g : Nat → Nat → Int32} (e1 : g 67 = f 67) (e2 : g 70 = f 70) (e3 : g 46 = f 46) (e4 : g 51 = f 51) : ∀ n, payN g n = payN f n
  | 0 => e1
  | n + 1 => by
    show sootN (g 70) n _ 192 = sootN (f 70) n _ 192
    rw [payN_c e1 e2 e3 e4 n, e2]
    unfold payV
    rw [e1, e3, e4]
theorem payN_138 (f : Nat → Nat → Int32) {h : Nat} (h8 : h ≤ 8) : payN f h 138 = f 67 138 := payN_o f (by omega) h h8
theorem smkM_c {f g : Nat → Nat → Int32} (e0 : g 70 = f 70) (e1 : g 48 = f 48) (e2 : g 49 = f 49) (e3 : g 50 = f 50) (e4 : g 51 = f 51) (C R yv : Nat) (G : Int32 → Int32 → Int32 → Int32) (hour burn : Int32) (H : Nat) : smkM g C R yv G hour burn H = smkM f C R yv G hour burn H := by
  unfold smkM
  rw [e0]
  generalize fillF (f 70) 0 192 = r
  induction H with
  | zero => rfl
  | succ n ih =>
    show smkI _ n (smkH g C R yv G hour burn r n) _ = smkI _ n (smkH f C R yv G hour burn r n) _
    rw [ih, mcell_c C R n yv e1 e2 e4]
    unfold mlen
    rw [e3, e4]
theorem metM_c {f g : Nat → Nat → Int32} (e0 : g 70 = f 70) (e5 : g 71 = f 71) (e1 : g 48 = f 48) (e2 : g 49 = f 49) (e3 : g 50 = f 50) (e4 : g 51 = f 51) (C R yv : Nat) (G : Int32 → Int32 → Int32 → Int32) (hour burn : Int32) (H : Nat) : metM g C R yv G hour burn H = metM f C R yv G hour burn H := by
  unfold metM
  rw [e5, smkM_c e0 e1 e2 e3 e4]
set_option maxRecDepth 100000 in
set_option maxHeartbeats 4000000 in
theorem c_Mod_passes {w : zW} (hm : zMo w) {C R H : Nat} (hC : zI w 46 0 = nI C) (hR : zI w 46 1 = nI R) (hH : zI w 46 4 = nI H) (hC12 : C ≤ 12) (hR12 : R ≤ 12) (hH8 : H ≤ 8) {V : Int32 → Int32} (hW : zMWind (zI w) V) {G : Int32 → Int32 → Int32 → Int32} (hG : zMPl (zI w) G) {yv : Nat} (hy : yv < 8) (hyv : V (zI w 67 138) &&& 7 = nI yv) (d : Nat) (hd : 5 ≤ d) : zS 0 0 d m_Mod_passes (fun rv w1 => ∃ f, w1 = zuI w f ∧ rv = none ∧ f 67 = passRow (zI w) C R H yv G ∧ (∀ o, (o < 57 ∨ 66 < o) → o ≠ 44 → o ≠ 67 → o ≠ 70 → o ≠ 71 → f o = zI w o) ∧ (∀ k, k ≠ 40 → f 44 k = zI w 44 k)) 0 [(0, .ref 44)] [] w := by
  refine z_aload_n (pc := 0) (i := 0) (j := 0) rfl rfl rfl ?_
  refine z_aload_n (pc := 1) (i := 0) (j := 0) rfl rfl rfl ?_
  refine z_getR (pc := 2) (x := 67) rfl fl_Mod_78 hm.1 rfl (mr_67 hm) ?_
  refine z_sipush (pc := 5) (v := 138) rfl (by decide) ?_
  refine z_iald (pc := 8) rfl (mk_67 hm) (vp_in_nI (n := 138) (by decide) (by decide)) ?_
  refine z_cV (pc := 9) (mc1 := 0) (ms1 := 0) (mc2 := 0) (ms2 := 0) (as := [.int (zI w 67 (138 : Int32).toNatClampNeg)]) (rest := []) (o := 44) rfl rfl hm.1 ok_Mod_windAt rfl rfl cl_Mod_307 (by omega) (Nat.le_of_ble_eq_true rfl) (Nat.le_of_ble_eq_true rfl) (Nat.le_refl _) (Nat.le_refl _) (c_Mod_windAt (w := w) hm hW (zI w 67 138) 3 (by decide)) (fun r1 w1 hp => ?_) rfl rfl
  obtain ⟨f1, hw1, rfl, hf1⟩ := hp
  rw [hw1]
  refine ⟨⟨Nat.le_refl _, Or.inl rfl⟩, ?_⟩
  rw [hyv]
  have e46 := hf1 46 (by omega)
  have e67 := hf1 67 (by omega)
  refine z_istore_n (pc := 12) (i := 1) (ls' := [(0, .ref 44), (1, .int (nI yv))]) rfl rfl (by decide) rfl ?_
  refine z_aload_n (pc := 13) (i := 0) (j := 0) rfl rfl rfl ?_
  refine z_aload_n (pc := 14) (i := 0) (j := 0) rfl rfl rfl ?_
  refine z_getR (pc := 15) (x := 67) rfl fl_Mod_78 hm.1 rfl (mr_67 hm) ?_
  refine z_sipush (pc := 18) (v := 136) rfl (by decide) ?_
  refine z_iald (pc := 21) rfl (mk_67 hm) (vp_in_nI (n := 136) (by decide) (by decide)) ?_
  refine z_eqi (y := zI w 67 136) (congrFun e67 136) ?_
  refine z_aload_n (pc := 22) (i := 0) (j := 0) rfl rfl rfl ?_
  refine z_getR (pc := 23) (x := 67) rfl fl_Mod_78 hm.1 rfl (mr_67 hm) ?_
  refine z_sipush (pc := 26) (v := 138) rfl (by decide) ?_
  refine z_iald (pc := 29) rfl (mk_67 hm) (vp_in_nI (n := 138) (by decide) (by decide)) ?_
  refine z_eqi (y := zI w 67 138) (congrFun e67 138) ?_
  refine z_iload_n (pc := 30) (i := 1) (j := 1) rfl rfl rfl ?_
  refine z_cV (pc := 31) (mc1 := 0) (ms1 := 0) (mc2 := 0) (ms2 := 0) (as := [.int (zI w 67 136), .int (zI w 67 138), .int (nI yv)]) (rest := []) (o := 44) rfl rfl hm.1 ok_Mod_smokes rfl rfl cl_Mod_310 (by omega) (Nat.le_of_ble_eq_true rfl) (Nat.le_of_ble_eq_true rfl) (Nat.le_refl _) (Nat.le_refl _) (c_Mod_smokes (w := zuI w f1) hm ((congrFun e46 0).trans hC) ((congrFun e46 1).trans hR) ((congrFun e46 4).trans hH) hC12 hR12 hH8 (G := G) (zMPl_c hG (hf1 52 (by omega)) (hf1 53 (by omega)) (hf1 54 (by omega))) hy (zI w 67 136) (zI w 67 138) 4 (by decide)) (fun r1 w1 hp => ?_) rfl rfl
  obtain ⟨f2, hw2, rfl, h70, h71, hf2⟩ := hp
  rw [hw2]
  refine ⟨⟨Nat.le_refl _, Or.inl rfl⟩, ?_⟩
  have h70 : f2 70 = smkM (zI w) C R yv G (zI w 67 138) (zI w 67 136 &&& (zI w 67 137 ^^^ (-1))) H := h70.trans (by rw [show zI (zuI w f1) 67 = zI w 67 from e67]; exact smkM_c (hf1 70 (by omega)) (hf1 48 (by omega)) (hf1 49 (by omega)) (hf1 50 (by omega)) (hf1 51 (by omega)) _ _ _ _ _ _ _)
  have h71 : f2 71 = metM (zI w) C R yv G (zI w 67 138) (zI w 67 136 &&& (zI w 67 137 ^^^ (-1))) H := h71.trans (by rw [show zI (zuI w f1) 67 = zI w 67 from e67]; exact metM_c (hf1 70 (by omega)) (hf1 71 (by omega)) (hf1 48 (by omega)) (hf1 49 (by omega)) (hf1 50 (by omega)) (hf1 51 (by omega)) _ _ _ _ _ _ _)
  have g2 : ∀ o, (o < 57 ∨ 66 < o) → o ≠ 70 → o ≠ 71 → f2 o = zI w o := fun o h1 h2 h3 => (hf2 o h1 h2 h3).trans (hf1 o h1)
  refine z_aload_n (pc := 34) (i := 0) (j := 0) rfl rfl rfl ?_
  refine z_aload_n (pc := 35) (i := 0) (j := 0) rfl rfl rfl ?_
  refine z_getR (pc := 36) (x := 67) rfl fl_Mod_78 hm.1 rfl (mr_67 hm) ?_
  refine z_sipush (pc := 39) (v := 139) rfl (by decide) ?_
  refine z_iald (pc := 42) rfl (mk_67 hm) (vp_in_nI (n := 139) (by decide) (by decide)) ?_
  refine z_eqi (y := zI w 67 139) (congrFun (g2 67 (by omega) (by omega) (by omega)) 139) ?_
  have j65 : ∀ t : Int32, (t = turnM (zI w 67 139) yv) → zS 0 0 d m_Mod_passes (fun rv w1 => ∃ f, w1 = zuI w f ∧ rv = none ∧ f 67 = passRow (zI w) C R H yv G ∧ (∀ o, (o < 57 ∨ 66 < o) → o ≠ 44 → o ≠ 67 → o ≠ 70 → o ≠ 71 → f o = zI w o) ∧ (∀ k, k ≠ 40 → f 44 k = zI w 44 k)) 65 [(0, .ref 44), (1, .int (nI yv))] [.int t, .ref 44] (zuI w f2) := by
    intro t h_j65
    refine z_iconst (pc := 65) (v := 1) rfl (by decide) ?_
    refine z_cV (pc := 66) (mc1 := 0) (ms1 := 0) (mc2 := 0) (ms2 := 0) (as := [.int t, .int 1]) (rest := []) (o := 44) rfl rfl hm.1 ok_Mod_weds rfl rfl cl_Mod_317 (by omega) (Nat.le_of_ble_eq_true rfl) (Nat.le_of_ble_eq_true rfl) (Nat.le_refl _) (Nat.le_refl _) (c_Mod_weds (w := zuI w f2) hm ((congrFun (g2 46 (by omega) (by omega) (by omega)) 4).trans hH) hH8 t 1 0) (fun r1 w1 hp => ?_) rfl rfl
    obtain ⟨f3, hw3, rfl, h67, -, hf3, hk3⟩ := hp
    rw [hw3]
    refine ⟨⟨Nat.le_refl _, Or.inl rfl⟩, ?_⟩
    have h67 : f3 67 = (passW (zI w) C R H yv G).1 := h67.trans (by unfold passW; rw [show zI (zuI w f2) 67 = zI w 67 from g2 67 (by omega) (by omega) (by omega), show zI (zuI w f2) 71 = _ from h71, show zI (zuI w f2) 44 = zI w 44 from g2 44 (by omega) (by omega) (by omega), h_j65])
    have g3 : ∀ o, (o < 57 ∨ 66 < o) → o ≠ 44 → o ≠ 67 → o ≠ 70 → o ≠ 71 → f3 o = zI w o := fun o h1 h2 h3 h4 h5 => (hf3 o h2 h3).trans (g2 o h1 h4 h5)
    have k3 : ∀ k, k ≠ 40 → f3 44 k = zI w 44 k := fun k hk => (hk3 k hk).trans (congrFun (g2 44 (by omega) (by omega) (by omega)) k)
    refine z_aload_n (pc := 69) (i := 0) (j := 0) rfl rfl rfl ?_
    refine z_getR (pc := 70) (x := 67) rfl fl_Mod_78 hm.1 rfl (mr_67 hm) ?_
    refine z_sipush (pc := 73) (v := 139) rfl (by decide) ?_
    refine z_iconst (pc := 76) (v := 1) rfl (by decide) ?_
    refine z_iload_n (pc := 77) (i := 1) (j := 1) rfl rfl rfl ?_
    refine z_iadd (pc := 78) rfl ?_
    refine z_iast (pc := 79) rfl (mk_67 hm) (vp_in_nI (n := 139) (by decide) (by decide)) ?_
    refine z_iconst (pc := 80) (v := 0) rfl (by decide) ?_
    refine z_istore_n (pc := 81) (i := 2) (ls' := [(0, .ref 44), (1, .int (nI yv)), (2, .int 0)]) rfl rfl (by decide) rfl ?_
    have e4 : (z2 f3 67 139 (1 + nI yv)) 67 = (passI (zI w) C R H yv G) 67 := by rw [z2_ru, h67]; exact (zr_h _ _ _).symm
    have g4 : ∀ o, o ≠ 67 → (z2 f3 67 139 (1 + nI yv)) o = f3 o := fun o ho => z2_ro f3 (o := 67) _ _ ho
    have p4 : ∀ n, payN (z2 f3 67 139 (1 + nI yv)) n = payN (passI (zI w) C R H yv G) n := payN_c e4 ((g4 70 (by decide)).trans ((hf3 70 (by decide) (by decide)).trans (h70.trans ((zr_o _ (o := 67) (a := 70) _ (by decide)).trans (zr_h _ _ _)).symm))) ((g4 46 (by decide)).trans ((g3 46 (by omega) (by decide) (by decide) (by decide) (by decide)).trans ((zr_o _ (o := 67) (a := 46) _ (by decide)).trans (zr_o _ (o := 70) (a := 46) _ (by decide))).symm)) ((g4 51 (by decide)).trans ((g3 51 (by omega) (by decide) (by decide) (by decide) (by decide)).trans ((zr_o _ (o := 67) (a := 51) _ (by decide)).trans (zr_o _ (o := 70) (a := 51) _ (by decide))).symm))
    refine lP_Mod_passes (w := zuI w (z2 f3 67 139 (1 + nI yv))) hm (H := H) ((congrFun ((g4 46 (by decide)).trans (g3 46 (by omega) (by decide) (by decide) (by decide) (by decide))) 4).trans hH) hH8 ?_ (nI yv) d (by omega) ?_ H 0 (z2 f3 67 139 (1 + nI yv)) (by omega) (by omega) ⟨rfl, fun _ _ => rfl⟩
    · intro h c hh hc hb
      rw [show zI (zuI w (z2 f3 67 139 (1 + nI yv))) 70 = _ from (g4 70 (by decide)).trans ((hf3 70 (by decide) (by decide)).trans h70), sh_1 (by omega), smkM_tb _ _ _ _ _ _ _ hH8 hc (by omega), Bool.and_eq_true] at hb
      have := mcov_in hC12 hR12 hb.2
      omega
    intro f hf
    refine z_aload_n (pc := 206) (i := 0) (j := 0) rfl rfl rfl ?_
    refine z_getR (pc := 207) (x := 67) rfl fl_Mod_78 hm.1 rfl (mr_67 hm) ?_
    refine z_sipush (pc := 210) (v := 138) rfl (by decide) ?_
    refine z_dup2 (pc := 213) rfl rfl rfl ?_
    refine z_iald (pc := 214) rfl (mk_67 hm) (vp_in_nI (n := 138) (by decide) (by decide)) ?_
    refine z_eqi (y := zI w 67 138) ((congrFun hf.1 138).trans ((payN_138 _ hH8).trans ((z2_k f3 67 (k := 139) (b := 138) (1 + nI yv) (by decide)).trans ((congrFun h67 138).trans (wedA_o _ _ _ hH8 _ (by omega) H hH8))))) ?_
    refine z_iconst (pc := 215) (v := 1) rfl (by decide) ?_
    refine z_iadd (pc := 216) rfl ?_
    refine z_iast (pc := 217) rfl (mk_67 hm) (vp_in_nI (n := 138) (by decide) (by decide)) ?_
    exact z_vret (pc := 218) rfl rfl ⟨_, rfl, rfl, (z2_ru _ _ _ _).trans (by rw [show zI (zuI (zuI w (z2 f3 67 139 (1 + nI yv))) f) 67 = _ from hf.1.trans (p4 H)]; rfl), fun o h1 h2 h3 h4 h5 => (z2_ro f (o := 67) _ _ h3).trans ((hf.2 o h3).trans ((g4 o h3).trans (g3 o h1 h2 h3 h4 h5))), fun k hk => (congrFun (z2_ro f (o := 67) (a := 44) _ _ (by decide)) k).trans ((congrFun (hf.2 44 (by decide)) k).trans ((congrFun (g4 44 (by decide)) k).trans (k3 k hk)))⟩
  refine z_if_le (pc := 43) (tgt := 64) rfl (by decide) (fun h43 => ?_) (fun h43 => ?_)
  · refine z_iconst (pc := 64) (v := 0) rfl (by decide) ?_
    exact j65 _ (by unfold turnM; rw [if_pos h43])
  · refine z_aload_n (pc := 46) (i := 0) (j := 0) rfl rfl rfl ?_
    refine z_getR (pc := 47) (x := 67) rfl fl_Mod_78 hm.1 rfl (mr_67 hm) ?_
    refine z_sipush (pc := 50) (v := 139) rfl (by decide) ?_
    refine z_iald (pc := 53) rfl (mk_67 hm) (vp_in_nI (n := 139) (by decide) (by decide)) ?_
    refine z_eqi (y := zI w 67 139) (congrFun (g2 67 (by omega) (by omega) (by omega)) 139) ?_
    refine z_iconst (pc := 54) (v := 1) rfl (by decide) ?_
    refine z_iload_n (pc := 55) (i := 1) (j := 1) rfl rfl rfl ?_
    refine z_iadd (pc := 56) rfl ?_
    refine z_icmp_eq (pc := 57) (tgt := 64) rfl (by decide) (fun h57 => ?_) (fun h57 => ?_)
    · refine z_iconst (pc := 64) (v := 0) rfl (by decide) ?_
      exact j65 _ (by unfold turnM; rw [if_neg h43, if_pos h57])
    · refine z_iconst (pc := 60) (v := 1) rfl (by decide) ?_
      refine z_goto (pc := 61) (tgt := 65) rfl (by decide) ?_
      exact j65 _ (by unfold turnM; rw [if_neg h43, if_neg h57])
