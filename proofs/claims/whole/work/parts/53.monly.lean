/-! ONLY of the model -/
def only0 (m : Nat → Int32) (i j : Nat) : Int32 := if m i = bitI j then (if m j = bitI i then 1 else 0) else 0
def onlyN (m : Nat → Int32) (i j : Nat) : Nat → Int32
  | 0 => only0 m i j
  | h + 1 => if onlyN m i j h = 0 then 0 else if nI h = nI i then 1 else if nI h = nI j then 1 else if m h = 0 then 1 else 0
def firstR (p : Nat → Int32) : Nat → Nat → Int32
  | 0, _ => -1
  | m + 1, t => if p t = 0 then firstR p m (t + 1) else nI t
def onlyAt (f : Nat → Nat → Int32) (C R H : Nat) (V : Int32 → Int32) (G : Int32 → Int32 → Int32 → Int32) (i j t : Nat) : Int32 := onlyN (mset f C R (yvO V (f 67 138 + nI t)) G (f 67 138 + nI t) (((f 67 136 ||| bitI i) ||| bitI j) &&& (f 67 137 ^^^ (-1))) H) i j H
theorem onlyN_c {m m2 : Nat → Int32} {i j H : Nat} (e : ∀ a, a < H → m a = m2 a) (hi : i < H) (hj : j < H) : ∀ n, n ≤ H → onlyN m i j n = onlyN m2 i j n
  | 0, _ => by show only0 m i j = only0 m2 i j; unfold only0; rw [e i hi, e j hj]
  | n + 1, h => by show (if onlyN m i j n = 0 then _ else _) = (if onlyN m2 i j n = 0 then _ else _); rw [onlyN_c e hi hj n (by omega), e n (by omega)]
set_option maxRecDepth 100000 in
set_option maxHeartbeats 4000000 in
theorem lI_Mod_only {w : zW} (hm : zMo w) {P : Option Value → zW → Prop} (f : Nat → Nat → Int32) {i j H t : Nat} (hH : f 46 4 = nI H) (hH8 : H ≤ 8) (x : Int32) (d : Nat) (kx : zS 0 0 d m_Mod_only P 149 [(0, .ref 44), (1, .int (nI i)), (2, .int (nI j)), (3, .int (nI t)), (4, .int x), (5, .int (onlyN (f 71) i j H))] [] (zuI w f)) : ∀ (m h : Nat), h ≤ H → H ≤ h + m → zS 0 0 d m_Mod_only P 98 [(0, .ref 44), (1, .int (nI i)), (2, .int (nI j)), (3, .int (nI t)), (4, .int x), (5, .int (onlyN (f 71) i j h)), (6, .int (nI h))] [] (zuI w f) := by
  have hex : zS 0 0 d m_Mod_only P 98 [(0, .ref 44), (1, .int (nI i)), (2, .int (nI j)), (3, .int (nI t)), (4, .int x), (5, .int (onlyN (f 71) i j H)), (6, .int (nI H))] [] (zuI w f) := by
    refine z_iload (pc := 98) (i := 6) (j := 6) rfl rfl ?_
    refine z_aload_n (pc := 100) (i := 0) (j := 0) rfl rfl rfl ?_
    refine z_getR (pc := 101) (x := 46) rfl fl_Mod_13 hm.1 rfl (mr_46 hm) ?_
    refine z_iconst (pc := 104) (v := 4) rfl (by decide) ?_
    refine z_iald (pc := 105) rfl (mk_46 hm) (vp_in_nI (n := 4) (by decide) (by decide)) ?_
    refine z_eqi (y := nI H) hH ?_
    refine z_icmp_ge (pc := 106) (tgt := 149) rfl (by decide) (fun h106 => ?_) (fun h106 => ?_)
    · refine z_drop ?_ kx
      simp
    · exact absurd (Int32.le_refl _) h106
  intro m
  induction m with
  | zero =>
    intro h hii hmm
    obtain rfl : h = H := by omega
    exact hex
  | succ m ih =>
    intro h hii hmm
    by_cases hlt : h < H
    · have kk := ih (h + 1) (by omega) (by omega)
      refine z_iload (pc := 98) (i := 6) (j := 6) rfl rfl ?_
      refine z_aload_n (pc := 100) (i := 0) (j := 0) rfl rfl rfl ?_
      refine z_getR (pc := 101) (x := 46) rfl fl_Mod_13 hm.1 rfl (mr_46 hm) ?_
      refine z_iconst (pc := 104) (v := 4) rfl (by decide) ?_
      refine z_iald (pc := 105) rfl (mk_46 hm) (vp_in_nI (n := 4) (by decide) (by decide)) ?_
      refine z_eqi (y := nI H) hH ?_
      refine z_icmp_ge (pc := 106) (tgt := 149) rfl (by decide) (fun h106 => ?_) (fun h106 => ?_)
      · exact absurd h106 (nI_ge (b := H) hlt (by omega))
      · refine z_iload (pc := 109) (i := 5) (j := 5) rfl rfl ?_
        have j141 : ∀ u : Int32, (u = onlyN (f 71) i j (h + 1)) → zS 0 0 d m_Mod_only P 141 [(0, .ref 44), (1, .int (nI i)), (2, .int (nI j)), (3, .int (nI t)), (4, .int x), (5, .int (onlyN (f 71) i j h)), (6, .int (nI h))] [.int u] (zuI w f) := by
          intro u h_j141
          refine z_istore (pc := 141) (i := 5) (ls' := [(0, .ref 44), (1, .int (nI i)), (2, .int (nI j)), (3, .int (nI t)), (4, .int x), (5, .int u), (6, .int (nI h))]) rfl (by decide) rfl ?_
          refine z_iinc (pc := 143) (i := 6) (j := 6) (v := nI (h + 1)) (ls' := [(0, .ref 44), (1, .int (nI i)), (2, .int (nI j)), (3, .int (nI t)), (4, .int x), (5, .int u), (6, .int (nI (h + 1)))]) rfl rfl (nI_1 h) (by decide) rfl ?_
          refine z_goto (pc := 146) (tgt := 98) rfl (by decide) ?_
          rw [h_j141]
          exact kk
        refine z_if_eq (pc := 111) (tgt := 140) rfl (by decide) (fun h111 => ?_) (fun h111 => ?_)
        · refine z_iconst (pc := 140) (v := 0) rfl (by decide) ?_
          exact j141 _ (by show _ = (if _ then _ else _); rw [if_pos h111])
        · refine z_iload (pc := 114) (i := 6) (j := 6) rfl rfl ?_
          refine z_iload_n (pc := 116) (i := 1) (j := 1) rfl rfl rfl ?_
          refine z_icmp_eq (pc := 117) (tgt := 136) rfl (by decide) (fun h117 => ?_) (fun h117 => ?_)
          · refine z_iconst (pc := 136) (v := 1) rfl (by decide) ?_
            refine z_goto (pc := 137) (tgt := 141) rfl (by decide) ?_
            exact j141 _ (by show _ = (if _ then _ else _); rw [if_neg h111, if_pos h117])
          · refine z_iload (pc := 120) (i := 6) (j := 6) rfl rfl ?_
            refine z_iload_n (pc := 122) (i := 2) (j := 2) rfl rfl rfl ?_
            refine z_icmp_eq (pc := 123) (tgt := 136) rfl (by decide) (fun h123 => ?_) (fun h123 => ?_)
            · refine z_iconst (pc := 136) (v := 1) rfl (by decide) ?_
              refine z_goto (pc := 137) (tgt := 141) rfl (by decide) ?_
              exact j141 _ (by show _ = (if _ then _ else _); rw [if_neg h111, if_neg h117, if_pos h123])
            · refine z_aload_n (pc := 126) (i := 0) (j := 0) rfl rfl rfl ?_
              refine z_getR (pc := 127) (x := 71) rfl fl_Mod_90 hm.1 rfl (mr_71 hm) ?_
              refine z_iload (pc := 130) (i := 6) (j := 6) rfl rfl ?_
              refine z_iald (pc := 132) rfl (mk_71 hm) (vp_in_nI (show h < 8 by omega) (by decide)) ?_
              refine z_eqi (y := f 71 h) (by rw [nI_clamp (by omega)]; rfl) ?_
              refine z_if_ne (pc := 133) (tgt := 140) rfl (by decide) (fun h133 => ?_) (fun h133 => ?_)
              · refine z_iconst (pc := 140) (v := 0) rfl (by decide) ?_
                exact j141 _ (by show _ = (if _ then _ else _); rw [if_neg h111, if_neg h117, if_neg h123, if_neg h133])
              · refine z_iconst (pc := 136) (v := 1) rfl (by decide) ?_
                refine z_goto (pc := 137) (tgt := 141) rfl (by decide) ?_
                exact j141 _ (by show _ = (if _ then _ else _); rw [if_neg h111, if_neg h117, if_neg h123, if_pos h133])
    · obtain rfl : h = H := by omega
      exact hex
set_option maxRecDepth 100000 in
set_option maxHeartbeats 4000000 in
theorem lO_Mod_only {w : zW} (hm : zMo w) {C R H : Nat} {V : Int32 → Int32} {G : Int32 → Int32 → Int32 → Int32} (hi : zMi (zI w) C R H V G) {i j : Nat} (hi1 : i < H) (hj1 : j < H) (X : Int32) (d : Nat) (hd : 5 ≤ d) : ∀ (m t : Nat) (f : Nat → Nat → Int32), t + m = 24 → zFr w f → firstR (onlyAt (zI w) C R H V G i j) m t = X → zS 0 0 d m_Mod_only (fun rv w1 => ∃ f, w1 = zuI w f ∧ rv = some (.int X) ∧ zFr w f) 18 [(0, .ref 44), (1, .int (nI i)), (2, .int (nI j)), (3, .int (nI t))] [] (zuI w f) := by
  have hH8 := hi.2.2.2.2.2.1
  intro m
  induction m with
  | zero =>
    intro t f ht F_f hX
    obtain rfl : t = 24 := by omega
    refine z_iload_n (pc := 18) (i := 3) (j := 3) rfl rfl rfl ?_
    refine z_bipush (pc := 19) (v := 24) rfl (by decide) ?_
    refine z_icmp_ge (pc := 21) (tgt := 162) rfl (by decide) (fun _ => ?_) (fun h => absurd (by decide) h)
    refine z_iconst (pc := 162) (v := -1) rfl (by decide) ?_
    exact z_iret (pc := 163) rfl rfl ⟨f, rfl, by rw [← hX]; rfl, F_f⟩
  | succ m ih =>
    intro t f ht F_f hX
    refine z_iload_n (pc := 18) (i := 3) (j := 3) rfl rfl rfl ?_
    refine z_bipush (pc := 19) (v := 24) rfl (by decide) ?_
    refine z_icmp_ge (pc := 21) (tgt := 162) rfl (by decide) (fun h21 => ?_) (fun h21 => ?_)
    · exact absurd h21 (nI_ge (b := 24) (by omega) (by decide))
    · refine z_aload_n (pc := 24) (i := 0) (j := 0) rfl rfl rfl ?_
      refine z_getR (pc := 25) (x := 67) rfl fl_Mod_78 hm.1 rfl (mr_67 hm) ?_
      refine z_sipush (pc := 28) (v := 138) rfl (by decide) ?_
      refine z_iald (pc := 31) rfl (mk_67 hm) (vp_in_nI (n := 138) (by decide) (by decide)) ?_
      refine z_eqi (y := zI w 67 138) (congrFun (F_f.1 67 (by omega) (by decide) (by decide) (by decide)) 138) ?_
      refine z_iload_n (pc := 32) (i := 3) (j := 3) rfl rfl rfl ?_
      refine z_iadd (pc := 33) rfl ?_
      refine z_istore (pc := 34) (i := 4) (ls' := [(0, .ref 44), (1, .int (nI i)), (2, .int (nI j)), (3, .int (nI t)), (4, .int ((zI w 67 138) + (nI t)))]) rfl (by decide) rfl ?_
      refine z_aload_n (pc := 36) (i := 0) (j := 0) rfl rfl rfl ?_
      refine z_aload_n (pc := 37) (i := 0) (j := 0) rfl rfl rfl ?_
      refine z_getR (pc := 38) (x := 67) rfl fl_Mod_78 hm.1 rfl (mr_67 hm) ?_
      refine z_sipush (pc := 41) (v := 136) rfl (by decide) ?_
      refine z_iald (pc := 44) rfl (mk_67 hm) (vp_in_nI (n := 136) (by decide) (by decide)) ?_
      refine z_eqi (y := zI w 67 136) (congrFun (F_f.1 67 (by omega) (by decide) (by decide) (by decide)) 136) ?_
      refine z_iconst (pc := 45) (v := 1) rfl (by decide) ?_
      refine z_iload_n (pc := 46) (i := 1) (j := 1) rfl rfl rfl ?_
      refine z_ishl (pc := 47) rfl ?_
      refine z_ior (pc := 48) rfl ?_
      refine z_iconst (pc := 49) (v := 1) rfl (by decide) ?_
      refine z_iload_n (pc := 50) (i := 2) (j := 2) rfl rfl rfl ?_
      refine z_ishl (pc := 51) rfl ?_
      refine z_ior (pc := 52) rfl ?_
      refine z_iload (pc := 53) (i := 4) (j := 4) rfl rfl ?_
      refine z_aload_n (pc := 55) (i := 0) (j := 0) rfl rfl rfl ?_
      refine z_iload (pc := 56) (i := 4) (j := 4) rfl rfl ?_
      refine z_cV (pc := 58) (mc1 := 0) (ms1 := 0) (mc2 := 0) (ms2 := 0) (as := [.int ((zI w 67 138) + (nI t))]) (rest := [.int ((zI w 67 138) + (nI t)), .int (((zI w 67 136) ||| (1 <<< ((nI i) &&& 31))) ||| (1 <<< ((nI j) &&& 31))), .ref 44]) (o := 44) rfl rfl hm.1 ok_Mod_windAt rfl rfl cl_Mod_307 (by omega) (Nat.le_of_ble_eq_true rfl) (Nat.le_of_ble_eq_true rfl) (Nat.le_refl _) (Nat.le_refl _) (c_Mod_windAt (w := zuI w f) hm (zFr_i F_f hi).2.2.2.2.2.2.1 ((zI w 67 138) + (nI t)) 3 (by decide)) (fun r1 w1 hp => ?_) rfl rfl
      obtain ⟨f1, hw1, rfl, hn_f1⟩ := hp
      rw [hw1]
      refine ⟨⟨Nat.le_refl _, Or.inl rfl⟩, ?_⟩
      have F_f1 : zFr w f1 := zFr_w F_f hn_f1
      obtain ⟨yv, hyv⟩ : ∃ yv, yv = yvO V (zI w 67 138 + nI t) := ⟨_, rfl⟩
      rw [yvO_eq, ← hyv]
      have hy : yv < 8 := hyv ▸ yvO_lt _ _
      refine z_cV (pc := 61) (mc1 := 0) (ms1 := 0) (mc2 := 0) (ms2 := 0) (as := [.int (((zI w 67 136) ||| (1 <<< ((nI i) &&& 31))) ||| (1 <<< ((nI j) &&& 31))), .int ((zI w 67 138) + (nI t)), .int (nI yv)]) (rest := []) (o := 44) rfl rfl hm.1 ok_Mod_smokes rfl rfl cl_Mod_310 (by omega) (Nat.le_of_ble_eq_true rfl) (Nat.le_of_ble_eq_true rfl) (Nat.le_refl _) (Nat.le_refl _) (c_Mod_smokes (w := zuI w f1) hm (zFr_i F_f1 hi).1 (zFr_i F_f1 hi).2.1 (zFr_i F_f1 hi).2.2.1 hi.2.2.2.1 hi.2.2.2.2.1 hi.2.2.2.2.2.1 (G := G) (zFr_i F_f1 hi).2.2.2.2.2.2.2 (yv := yv) hy (((zI w 67 136) ||| (1 <<< ((nI i) &&& 31))) ||| (1 <<< ((nI j) &&& 31))) ((zI w 67 138) + (nI t)) 4 (by decide)) (fun r1 w1 hp => ?_) rfl rfl
      obtain ⟨f2, hw1, rfl, -, h71, hn_f2⟩ := hp
      rw [hw1]
      refine ⟨⟨Nat.le_refl _, Or.inl rfl⟩, ?_⟩
      have F_f2 : zFr w f2 := zFr_s F_f1 hn_f2
      have m_f2 : ∀ a, a < H → f2 71 a = mset (zI w) C R yv G ((zI w 67 138) + (nI t)) ((((zI w 67 136) ||| (1 <<< ((nI i) &&& 31))) ||| (1 <<< ((nI j) &&& 31))) &&& (zI w 67 137 ^^^ (-1))) H a := fun a ha => (congrFun h71 a).trans ((metM_set _ _ _ _ _ _ _ hi.2.2.2.2.2.1 ha).trans (by rw [mset_c (f := zI w) (g := zI (zuI w f1)) (F_f1.1 48 (by omega) (by decide) (by decide) (by decide)) (F_f1.1 49 (by omega) (by decide) (by decide) (by decide)) (F_f1.1 50 (by omega) (by decide) (by decide) (by decide)) (F_f1.1 51 (by omega) (by decide) (by decide) (by decide)), show zI (zuI w f1) 67 = zI w 67 from F_f1.1 67 (by omega) (by decide) (by decide) (by decide)]))
      refine z_aload_n (pc := 64) (i := 0) (j := 0) rfl rfl rfl ?_
      refine z_getR (pc := 65) (x := 71) rfl fl_Mod_90 hm.1 rfl (mr_71 hm) ?_
      refine z_iload_n (pc := 68) (i := 1) (j := 1) rfl rfl rfl ?_
      refine z_iald (pc := 69) rfl (mk_71 hm) (vp_in_nI (show i < 8 by omega) (by decide)) ?_
      refine z_eqi (y := f2 71 i) (by rw [nI_clamp (by omega)]; rfl) ?_
      have j93 : ∀ u : Int32, (u = only0 (f2 71) i j) → zS 0 0 d m_Mod_only (fun rv w1 => ∃ f, w1 = zuI w f ∧ rv = some (.int X) ∧ zFr w f) 93 [(0, .ref 44), (1, .int (nI i)), (2, .int (nI j)), (3, .int (nI t)), (4, .int ((zI w 67 138) + (nI t)))] [.int u] (zuI w f2) := by
        intro u h_j93
        refine z_istore (pc := 93) (i := 5) (ls' := [(0, .ref 44), (1, .int (nI i)), (2, .int (nI j)), (3, .int (nI t)), (4, .int ((zI w 67 138) + (nI t))), (5, .int u)]) rfl (by decide) rfl ?_
        refine z_iconst (pc := 95) (v := 0) rfl (by decide) ?_
        refine z_istore (pc := 96) (i := 6) (ls' := [(0, .ref 44), (1, .int (nI i)), (2, .int (nI j)), (3, .int (nI t)), (4, .int ((zI w 67 138) + (nI t))), (5, .int u), (6, .int 0)]) rfl (by decide) rfl ?_
        rw [h_j93]
        refine lI_Mod_only hm f2 (i := i) (j := j) (H := H) (t := t) (zFr_i F_f2 hi).2.2.1 hi.2.2.2.2.2.1 (zI w 67 138 + nI t) d ?_ H 0 (by omega) (by omega)
        have ep : onlyN (f2 71) i j H = onlyAt (zI w) C R H V G i j t := by rw [onlyN_c m_f2 hi1 hj1 H (Nat.le_refl _), hyv]; rfl
        rw [ep]
        refine z_iload (pc := 149) (i := 5) (j := 5) rfl rfl ?_
        refine z_if_eq (pc := 151) (tgt := 156) rfl (by decide) (fun h151 => ?_) (fun h151 => ?_)
        · refine z_iinc (pc := 156) (i := 3) (j := 3) (v := nI (t + 1)) (ls' := [(0, .ref 44), (1, .int (nI i)), (2, .int (nI j)), (3, .int (nI (t + 1))), (4, .int (zI w 67 138 + nI t)), (5, .int (onlyAt (zI w) C R H V G i j t))]) rfl rfl (nI_1 t) (by decide) rfl ?_
          refine z_goto (pc := 159) (tgt := 18) rfl (by decide) ?_
          refine z_drop ?_ (ih (t + 1) f2 (by omega) F_f2 ?_)
          · simp
          · rw [← hX]; show _ = (if _ then _ else _); rw [if_pos h151]
        · refine z_iload_n (pc := 154) (i := 3) (j := 3) rfl rfl rfl ?_
          exact z_iret (pc := 155) rfl rfl ⟨f2, rfl, by rw [← hX]; show _ = some (Value.int (if _ then _ else _)); rw [if_neg h151], F_f2⟩
      refine z_iconst (pc := 70) (v := 1) rfl (by decide) ?_
      refine z_iload_n (pc := 71) (i := 2) (j := 2) rfl rfl rfl ?_
      refine z_ishl (pc := 72) rfl ?_
      refine z_icmp_ne (pc := 73) (tgt := 92) rfl (by decide) (fun h73 => ?_) (fun h73 => ?_)
      · refine z_iconst (pc := 92) (v := 0) rfl (by decide) ?_
        exact j93 _ (by unfold only0 bitI; rw [if_neg h73])
      · refine z_aload_n (pc := 76) (i := 0) (j := 0) rfl rfl rfl ?_
        refine z_getR (pc := 77) (x := 71) rfl fl_Mod_90 hm.1 rfl (mr_71 hm) ?_
        refine z_iload_n (pc := 80) (i := 2) (j := 2) rfl rfl rfl ?_
        refine z_iald (pc := 81) rfl (mk_71 hm) (vp_in_nI (show j < 8 by omega) (by decide)) ?_
        refine z_eqi (y := f2 71 j) (by rw [nI_clamp (by omega)]; rfl) ?_
        refine z_iconst (pc := 82) (v := 1) rfl (by decide) ?_
        refine z_iload_n (pc := 83) (i := 1) (j := 1) rfl rfl rfl ?_
        refine z_ishl (pc := 84) rfl ?_
        refine z_icmp_ne (pc := 85) (tgt := 92) rfl (by decide) (fun h85 => ?_) (fun h85 => ?_)
        · refine z_iconst (pc := 92) (v := 0) rfl (by decide) ?_
          exact j93 _ (by unfold only0 bitI; rw [if_pos h73, if_neg h85])
        · refine z_iconst (pc := 88) (v := 1) rfl (by decide) ?_
          refine z_goto (pc := 89) (tgt := 93) rfl (by decide) ?_
          exact j93 _ (by unfold only0 bitI; rw [if_pos h73, if_pos h85])
set_option maxRecDepth 100000 in
set_option maxHeartbeats 4000000 in
theorem c_Mod_only {w : zW} (hm : zMo w) {C R H : Nat} {V : Int32 → Int32} {G : Int32 → Int32 → Int32 → Int32} (hi : zMi (zI w) C R H V G) (a b : Int32) (d : Nat) (hd : 5 ≤ d) : zS 0 0 d m_Mod_only (fun rv w1 => ∃ f, w1 = zuI w f ∧ rv = some (.int (if twoOK H a b = 0 then -1 else firstR (onlyAt (zI w) C R H V G a.toNatClampNeg b.toNatClampNeg) 24 0)) ∧ zFr w f) 0 [(0, .ref 44), (1, .int a), (2, .int b)] [] w := by
  refine z_aload_n (pc := 0) (i := 0) (j := 0) rfl rfl rfl ?_
  refine z_iconst (pc := 1) (v := 0) rfl (by decide) ?_
  refine z_putI (pc := 2) rfl fl_Mod_100 hm.1 rfl  ?_
  change zS _ _ _ _ _ _ _ _ (zuI w (z2 (zI w) 44 0 0))
  obtain ⟨f0, hf0⟩ : ∃ f0, f0 = z2 (zI w) 44 0 0 := ⟨_, rfl⟩
  rw [← hf0]
  have F_f0 : zFr w f0 := hf0 ▸ zFr_0 w
  refine z_aload_n (pc := 5) (i := 0) (j := 0) rfl rfl rfl ?_
  refine z_iload_n (pc := 6) (i := 1) (j := 1) rfl rfl rfl ?_
  refine z_iload_n (pc := 7) (i := 2) (j := 2) rfl rfl rfl ?_
  refine z_cV (pc := 8) (mc1 := 0) (ms1 := 0) (mc2 := 0) (ms2 := 0) (as := [.int a, .int b]) (rest := []) (o := 44) rfl rfl hm.1 ok_Mod_areTwo rfl rfl cl_Mod_330 (by omega) (Nat.le_of_ble_eq_true rfl) (Nat.le_of_ble_eq_true rfl) (Nat.le_refl _) (Nat.le_refl _) (c_Mod_areTwo (w := zuI w f0) hm (zFr_i F_f0 hi) a b 1 (by decide)) (fun r1 w1 hp => ?_) rfl rfl
  obtain ⟨rfl, hw1⟩ := hp
  rw [hw1]
  refine ⟨⟨Nat.le_refl _, Or.inl rfl⟩, ?_⟩
  refine z_if_ne (pc := 11) (tgt := 16) rfl (by decide) (fun h11 => ?_) (fun h11 => ?_)
  · obtain ⟨i, j, hi1, hj1, rfl, rfl, hij⟩ := twoOK_of hi.2.2.2.2.2.1 h11
    have hH8 := hi.2.2.2.2.2.1
    refine z_iconst (pc := 16) (v := 0) rfl (by decide) ?_
    refine z_istore_n (pc := 17) (i := 3) (ls' := [(0, .ref 44), (1, .int (nI i)), (2, .int (nI j)), (3, .int 0)]) rfl rfl (by decide) rfl ?_
    refine lO_Mod_only hm hi hi1 hj1 _ d hd 24 0 f0 (by omega) F_f0 ?_
    rw [if_neg h11, nI_clamp (by omega), nI_clamp (by omega)]
  · refine z_iconst (pc := 14) (v := (-1)) rfl (by decide) ?_
    exact z_iret (pc := 15) rfl rfl ⟨f0, rfl, by rw [if_pos h11], F_f0⟩
