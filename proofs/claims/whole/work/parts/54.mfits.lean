/-! FITS of the model -/
def fitN (m r : Nat → Int32) : Nat → Int32
  | 0 => 1
  | k + 1 => if fitN m r k = 0 then 0 else if (m (r (141 + 3 * k)).toNatClampNeg >>> (r (141 + 3 * k + 1) &&& 31)) &&& 1 = r (141 + 3 * k + 2) then 1 else 0
theorem fitN_c {m m2 r : Nat → Int32} {H : Nat} : ∀ n, (∀ a, a < H → m a = m2 a) → (∀ k, k < n → ∃ a, a < H ∧ r (141 + 3 * k) = nI a) → H ≤ 8 → fitN m r n = fitN m2 r n
  | 0, _, _, _ => rfl
  | n + 1, e, hs, h8 => by
    obtain ⟨a, ha, er⟩ := hs n (by omega)
    show (if fitN m r n = 0 then _ else if (m (r (141 + 3 * n)).toNatClampNeg >>> _) &&& 1 = _ then _ else _) = (if fitN m2 r n = 0 then _ else if (m2 (r (141 + 3 * n)).toNatClampNeg >>> _) &&& 1 = _ then _ else _)
    rw [fitN_c n e (fun k hk => hs k (by omega)) h8, er, nI_clamp (by omega), e a ha]
def fitAt (f : Nat → Nat → Int32) (C R H n : Nat) (G : Int32 → Int32 → Int32 → Int32) (q : Nat) : Int32 := if fitN (mset f C R q G (f 67 138) (burnR (f 67)) H) (f 67) n = 0 then 0 else bitI q
set_option maxRecDepth 100000 in
set_option maxHeartbeats 4000000 in
theorem lI_Mod_fits {w : zW} (hm : zMo w) {P : Option Value → zW → Prop} (f : Nat → Nat → Int32) (F_f : zFr w f) {H n q : Nat} (hH8 : H ≤ 8) (hn : zI w 67 140 = nI n) (hn1 : n ≤ 10) (hs : ∀ k, k < n → ∃ a, a < H ∧ zI w 67 (141 + 3 * k) = nI a) (s0 : Int32) (d : Nat) (kx : zS 0 0 d m_Mod_fits P 124 [(0, .ref 44), (1, .int s0), (2, .int (nI q)), (3, .int (fitN (f 71) (zI w 67) n))] [] (zuI w f)) : ∀ (m i : Nat), i ≤ n → n ≤ i + m → zS 0 0 d m_Mod_fits P 41 [(0, .ref 44), (1, .int s0), (2, .int (nI q)), (3, .int (fitN (f 71) (zI w 67) i)), (4, .int (nI i))] [] (zuI w f) := by
  have hex : zS 0 0 d m_Mod_fits P 41 [(0, .ref 44), (1, .int s0), (2, .int (nI q)), (3, .int (fitN (f 71) (zI w 67) n)), (4, .int (nI n))] [] (zuI w f) := by
    refine z_iload (pc := 41) (i := 4) (j := 4) rfl rfl ?_
    refine z_aload_n (pc := 43) (i := 0) (j := 0) rfl rfl rfl ?_
    refine z_getR (pc := 44) (x := 67) rfl fl_Mod_78 hm.1 rfl (mr_67 hm) ?_
    refine z_sipush (pc := 47) (v := 140) rfl (by decide) ?_
    refine z_iald (pc := 50) rfl (mk_67 hm) (vp_in_nI (n := 140) (by decide) (by decide)) ?_
    refine z_eqi (y := nI n) ((congrFun (F_f.1 67 (by omega) (by decide) (by decide) (by decide)) 140).trans hn) ?_
    refine z_icmp_ge (pc := 51) (tgt := 124) rfl (by decide) (fun h51 => ?_) (fun h51 => ?_)
    · refine z_drop ?_ kx
      simp
    · exact absurd (Int32.le_refl _) h51
  intro m
  induction m with
  | zero =>
    intro i hii hmm
    obtain rfl : i = n := by omega
    exact hex
  | succ m ih =>
    intro i hii hmm
    by_cases hlt : i < n
    · have kk := ih (i + 1) (by omega) (by omega)
      refine z_iload (pc := 41) (i := 4) (j := 4) rfl rfl ?_
      refine z_aload_n (pc := 43) (i := 0) (j := 0) rfl rfl rfl ?_
      refine z_getR (pc := 44) (x := 67) rfl fl_Mod_78 hm.1 rfl (mr_67 hm) ?_
      refine z_sipush (pc := 47) (v := 140) rfl (by decide) ?_
      refine z_iald (pc := 50) rfl (mk_67 hm) (vp_in_nI (n := 140) (by decide) (by decide)) ?_
      refine z_eqi (y := nI n) ((congrFun (F_f.1 67 (by omega) (by decide) (by decide) (by decide)) 140).trans hn) ?_
      refine z_icmp_ge (pc := 51) (tgt := 124) rfl (by decide) (fun h51 => ?_) (fun h51 => ?_)
      · exact absurd h51 (nI_ge (b := n) hlt (by omega))
      · refine z_iload_n (pc := 54) (i := 3) (j := 3) rfl rfl rfl ?_
        obtain ⟨a, ha, ea⟩ := hs i hlt
        have j117 : ∀ u : Int32, (u = fitN (f 71) (zI w 67) (i + 1)) → zS 0 0 d m_Mod_fits P 117 [(0, .ref 44), (1, .int s0), (2, .int (nI q)), (3, .int (fitN (f 71) (zI w 67) i)), (4, .int (nI i))] [.int u] (zuI w f) := by
          intro u h_j117
          refine z_istore_n (pc := 117) (i := 3) (ls' := [(0, .ref 44), (1, .int s0), (2, .int (nI q)), (3, .int u), (4, .int (nI i))]) rfl rfl (by decide) rfl ?_
          refine z_iinc (pc := 118) (i := 4) (j := 4) (v := nI (i + 1)) (ls' := [(0, .ref 44), (1, .int s0), (2, .int (nI q)), (3, .int u), (4, .int (nI (i + 1)))]) rfl rfl (nI_1 i) (by decide) rfl ?_
          refine z_goto (pc := 121) (tgt := 41) rfl (by decide) ?_
          rw [h_j117]
          exact kk
        refine z_if_eq (pc := 55) (tgt := 116) rfl (by decide) (fun h55 => ?_) (fun h55 => ?_)
        · refine z_iconst (pc := 116) (v := 0) rfl (by decide) ?_
          exact j117 _ (by show _ = (if _ then _ else _); rw [if_pos h55])
        · refine z_aload_n (pc := 58) (i := 0) (j := 0) rfl rfl rfl ?_
          refine z_getR (pc := 59) (x := 71) rfl fl_Mod_90 hm.1 rfl (mr_71 hm) ?_
          refine z_aload_n (pc := 62) (i := 0) (j := 0) rfl rfl rfl ?_
          refine z_getR (pc := 63) (x := 67) rfl fl_Mod_78 hm.1 rfl (mr_67 hm) ?_
          refine z_sipush (pc := 66) (v := 141) rfl (by decide) ?_
          refine z_iconst (pc := 69) (v := 3) rfl (by decide) ?_
          refine z_iload (pc := 70) (i := 4) (j := 4) rfl rfl ?_
          refine z_imul (pc := 72) rfl ?_
          refine z_iadd (pc := 73) rfl ?_
          refine z_eqi (y := nI (141 + 3 * i)) (by rw [show (3 : Int32) = nI 3 from rfl, show (141 : Int32) = nI 141 from rfl, pk_mul, nI_add]) ?_
          refine z_iald (pc := 74) rfl (mk_67 hm) (vp_in_nI (show 141 + 3 * i < 1344 by omega) (by decide)) ?_
          refine z_eqi (y := nI a) (by rw [nI_clamp (by omega)]; exact (congrFun (F_f.1 67 (by omega) (by decide) (by decide) (by decide)) _).trans ea) ?_
          refine z_iald (pc := 75) rfl (mk_71 hm) (vp_in_nI (show a < 8 by omega) (by decide)) ?_
          refine z_eqi (y := f 71 a) (by rw [nI_clamp (by omega)]; rfl) ?_
          refine z_aload_n (pc := 76) (i := 0) (j := 0) rfl rfl rfl ?_
          refine z_getR (pc := 77) (x := 67) rfl fl_Mod_78 hm.1 rfl (mr_67 hm) ?_
          refine z_sipush (pc := 80) (v := 141) rfl (by decide) ?_
          refine z_iconst (pc := 83) (v := 3) rfl (by decide) ?_
          refine z_iload (pc := 84) (i := 4) (j := 4) rfl rfl ?_
          refine z_imul (pc := 86) rfl ?_
          refine z_iadd (pc := 87) rfl ?_
          refine z_iconst (pc := 88) (v := 1) rfl (by decide) ?_
          refine z_iadd (pc := 89) rfl ?_
          refine z_eqi (y := nI (141 + 3 * i + 1)) (by rw [show (3 : Int32) = nI 3 from rfl, show (141 : Int32) = nI 141 from rfl, pk_mul, nI_add, nI_1]) ?_
          refine z_iald (pc := 90) rfl (mk_67 hm) (vp_in_nI (show 141 + 3 * i + 1 < 1344 by omega) (by decide)) ?_
          refine z_eqi (y := zI w 67 (141 + 3 * i + 1)) (by rw [nI_clamp (by omega)]; exact congrFun (F_f.1 67 (by omega) (by decide) (by decide) (by decide)) _) ?_
          refine z_ishr (pc := 91) rfl ?_
          refine z_iconst (pc := 92) (v := 1) rfl (by decide) ?_
          refine z_iand (pc := 93) rfl ?_
          refine z_aload_n (pc := 94) (i := 0) (j := 0) rfl rfl rfl ?_
          refine z_getR (pc := 95) (x := 67) rfl fl_Mod_78 hm.1 rfl (mr_67 hm) ?_
          refine z_sipush (pc := 98) (v := 141) rfl (by decide) ?_
          refine z_iconst (pc := 101) (v := 3) rfl (by decide) ?_
          refine z_iload (pc := 102) (i := 4) (j := 4) rfl rfl ?_
          refine z_imul (pc := 104) rfl ?_
          refine z_iadd (pc := 105) rfl ?_
          refine z_iconst (pc := 106) (v := 2) rfl (by decide) ?_
          refine z_iadd (pc := 107) rfl ?_
          refine z_eqi (y := nI (141 + 3 * i + 2)) (by rw [show (3 : Int32) = nI 3 from rfl, show (141 : Int32) = nI 141 from rfl, pk_mul, nI_add, show (2 : Int32) = nI 2 from rfl, nI_add]) ?_
          refine z_iald (pc := 108) rfl (mk_67 hm) (vp_in_nI (show 141 + 3 * i + 2 < 1344 by omega) (by decide)) ?_
          refine z_eqi (y := zI w 67 (141 + 3 * i + 2)) (by rw [nI_clamp (by omega)]; exact congrFun (F_f.1 67 (by omega) (by decide) (by decide) (by decide)) _) ?_
          refine z_icmp_ne (pc := 109) (tgt := 116) rfl (by decide) (fun h109 => ?_) (fun h109 => ?_)
          · refine z_iconst (pc := 116) (v := 0) rfl (by decide) ?_
            exact j117 _ (by show _ = (if _ then _ else _); rw [if_neg h55]; rw [ea, nI_clamp (by omega), if_neg h109])
          · refine z_iconst (pc := 112) (v := 1) rfl (by decide) ?_
            refine z_goto (pc := 113) (tgt := 117) rfl (by decide) ?_
            exact j117 _ (by show _ = (if _ then _ else _); rw [if_neg h55]; rw [ea, nI_clamp (by omega), if_pos h109])
    · obtain rfl : i = n := by omega
      exact hex
set_option maxRecDepth 100000 in
set_option maxHeartbeats 4000000 in
theorem lO_Mod_fits {w : zW} (hm : zMo w) {C R H : Nat} {V : Int32 → Int32} {G : Int32 → Int32 → Int32 → Int32} (hi : zMi (zI w) C R H V G) {n : Nat} (hn : zI w 67 140 = nI n) (hn1 : n ≤ 10) (hs : ∀ k, k < n → ∃ a, a < H ∧ zI w 67 (141 + 3 * k) = nI a) (d : Nat) (hd : 5 ≤ d) : ∀ (m i : Nat) (f : Nat → Nat → Int32), i ≤ 8 → 8 ≤ i + m → (zFr w f) → zS 0 0 d m_Mod_fits (fun rv w1 => ∃ f, w1 = zuI w f ∧ rv = some (.int (orN (fitAt (zI w) C R H n G) 8)) ∧ zFr w f) 9 [(0, .ref 44), (1, .int (orN (fitAt (zI w) C R H n G) i)), (2, .int (nI i))] [] (zuI w f) := by
  have hex : ∀ f : Nat → Nat → Int32, (zFr w f) → zS 0 0 d m_Mod_fits (fun rv w1 => ∃ f, w1 = zuI w f ∧ rv = some (.int (orN (fitAt (zI w) C R H n G) 8)) ∧ zFr w f) 9 [(0, .ref 44), (1, .int (orN (fitAt (zI w) C R H n G) 8)), (2, .int (nI 8))] [] (zuI w f) := by
    intro f hf
    refine z_iload_n (pc := 9) (i := 2) (j := 2) rfl rfl rfl ?_
    refine z_bipush (pc := 10) (v := 8) rfl (by decide) ?_
    refine z_icmp_ge (pc := 12) (tgt := 144) rfl (by decide) (fun h12 => ?_) (fun h12 => ?_)
    · refine z_iload_n (pc := 144) (i := 1) (j := 1) rfl rfl rfl ?_
      exact z_iret (pc := 145) rfl rfl ⟨f, rfl, rfl, hf⟩
    · exact absurd (by decide) h12
  intro m
  induction m with
  | zero =>
    intro i f hii hmm hf
    obtain rfl : i = 8 := by omega
    exact hex f hf
  | succ m ih =>
    intro i f hii hmm hf
    by_cases hlt : i < 8
    · skip
      have F_f := hf
      refine z_iload_n (pc := 9) (i := 2) (j := 2) rfl rfl rfl ?_
      refine z_bipush (pc := 10) (v := 8) rfl (by decide) ?_
      refine z_icmp_ge (pc := 12) (tgt := 144) rfl (by decide) (fun h12 => ?_) (fun h12 => ?_)
      · exact absurd h12 (nI_ge (b := 8) hlt (by decide))
      · refine z_aload_n (pc := 15) (i := 0) (j := 0) rfl rfl rfl ?_
        refine z_aload_n (pc := 16) (i := 0) (j := 0) rfl rfl rfl ?_
        refine z_getR (pc := 17) (x := 67) rfl fl_Mod_78 hm.1 rfl (mr_67 hm) ?_
        refine z_sipush (pc := 20) (v := 136) rfl (by decide) ?_
        refine z_iald (pc := 23) rfl (mk_67 hm) (vp_in_nI (n := 136) (by decide) (by decide)) ?_
        refine z_eqi (y := zI w 67 136) (congrFun (F_f.1 67 (by omega) (by decide) (by decide) (by decide)) 136) ?_
        refine z_aload_n (pc := 24) (i := 0) (j := 0) rfl rfl rfl ?_
        refine z_getR (pc := 25) (x := 67) rfl fl_Mod_78 hm.1 rfl (mr_67 hm) ?_
        refine z_sipush (pc := 28) (v := 138) rfl (by decide) ?_
        refine z_iald (pc := 31) rfl (mk_67 hm) (vp_in_nI (n := 138) (by decide) (by decide)) ?_
        refine z_eqi (y := zI w 67 138) (congrFun (F_f.1 67 (by omega) (by decide) (by decide) (by decide)) 138) ?_
        refine z_iload_n (pc := 32) (i := 2) (j := 2) rfl rfl rfl ?_
        refine z_cV (pc := 33) (mc1 := 0) (ms1 := 0) (mc2 := 0) (ms2 := 0) (as := [.int (zI w 67 136), .int (zI w 67 138), .int (nI i)]) (rest := []) (o := 44) rfl rfl hm.1 ok_Mod_smokes rfl rfl cl_Mod_310 (by omega) (Nat.le_of_ble_eq_true rfl) (Nat.le_of_ble_eq_true rfl) (Nat.le_refl _) (Nat.le_refl _) (c_Mod_smokes (w := zuI w f) hm (zFr_i F_f hi).1 (zFr_i F_f hi).2.1 (zFr_i F_f hi).2.2.1 hi.2.2.2.1 hi.2.2.2.2.1 hi.2.2.2.2.2.1 (G := G) (zFr_i F_f hi).2.2.2.2.2.2.2 (yv := i) hlt (zI w 67 136) (zI w 67 138) 4 (by decide)) (fun r1 w1 hp => ?_) rfl rfl
        obtain ⟨f2, hw1, rfl, -, h71, hn_f2⟩ := hp
        rw [hw1]
        refine ⟨⟨Nat.le_refl _, Or.inl rfl⟩, ?_⟩
        have F_f2 : zFr w f2 := zFr_s F_f hn_f2
        have m_f2 : ∀ a, a < H → f2 71 a = mset (zI w) C R i G (zI w 67 138) ((zI w 67 136) &&& (zI w 67 137 ^^^ (-1))) H a := fun a ha => (congrFun h71 a).trans ((metM_set _ _ _ _ _ _ _ hi.2.2.2.2.2.1 ha).trans (by rw [mset_c (f := zI w) (g := zI (zuI w f)) (F_f.1 48 (by omega) (by decide) (by decide) (by decide)) (F_f.1 49 (by omega) (by decide) (by decide) (by decide)) (F_f.1 50 (by omega) (by decide) (by decide) (by decide)) (F_f.1 51 (by omega) (by decide) (by decide) (by decide)), show zI (zuI w f) 67 = zI w 67 from F_f.1 67 (by omega) (by decide) (by decide) (by decide)]))
        refine z_iconst (pc := 36) (v := 1) rfl (by decide) ?_
        refine z_istore_n (pc := 37) (i := 3) (ls' := [(0, .ref 44), (1, .int (orN (fitAt (zI w) C R H n G) i)), (2, .int (nI i)), (3, .int 1)]) rfl rfl (by decide) rfl ?_
        refine z_iconst (pc := 38) (v := 0) rfl (by decide) ?_
        refine z_istore (pc := 39) (i := 4) (ls' := [(0, .ref 44), (1, .int (orN (fitAt (zI w) C R H n G) i)), (2, .int (nI i)), (3, .int 1), (4, .int 0)]) rfl (by decide) rfl ?_
        refine lI_Mod_fits hm f2 F_f2 (H := H) (n := n) (q := i) hi.2.2.2.2.2.1 hn hn1 hs (orN (fitAt (zI w) C R H n G) i) d ?_ n 0 (by omega) (by omega)
        have ep : fitN (f2 71) (zI w 67) n = fitN (mset (zI w) C R i G (zI w 67 138) (burnR (zI w 67)) H) (zI w 67) n := fitN_c n m_f2 hs hi.2.2.2.2.2.1
        rw [ep]
        refine z_iload_n (pc := 124) (i := 1) (j := 1) rfl rfl rfl ?_
        refine z_iload_n (pc := 125) (i := 3) (j := 3) rfl rfl rfl ?_
        have j136 : ∀ u : Int32, (u = fitAt (zI w) C R H n G i) → zS 0 0 d m_Mod_fits (fun rv w1 => ∃ f, w1 = zuI w f ∧ rv = some (.int (orN (fitAt (zI w) C R H n G) 8)) ∧ zFr w f) 136 [(0, .ref 44), (1, .int (orN (fitAt (zI w) C R H n G) i)), (2, .int (nI i)), (3, .int (fitN (mset (zI w) C R i G (zI w 67 138) (burnR (zI w 67)) H) (zI w 67) n))] [.int u, .int (orN (fitAt (zI w) C R H n G) i)] (zuI w f2) := by
          intro u h_j136
          refine z_ior (pc := 136) rfl ?_
          refine z_istore_n (pc := 137) (i := 1) (ls' := [(0, .ref 44), (1, .int ((orN (fitAt (zI w) C R H n G) i) ||| u)), (2, .int (nI i)), (3, .int (fitN (mset (zI w) C R i G (zI w 67 138) (burnR (zI w 67)) H) (zI w 67) n))]) rfl rfl (by decide) rfl ?_
          refine z_iinc (pc := 138) (i := 2) (j := 2) (v := nI (i + 1)) (ls' := [(0, .ref 44), (1, .int ((orN (fitAt (zI w) C R H n G) i) ||| u)), (2, .int (nI (i + 1))), (3, .int (fitN (mset (zI w) C R i G (zI w 67 138) (burnR (zI w 67)) H) (zI w 67) n))]) rfl rfl (nI_1 i) (by decide) rfl ?_
          refine z_goto (pc := 141) (tgt := 9) rfl (by decide) ?_
          rw [h_j136]
          have eo : orN (fitAt (zI w) C R H n G) (i + 1) = orN (fitAt (zI w) C R H n G) i ||| fitAt (zI w) C R H n G i := rfl
          refine z_drop ?_ (ih (i + 1) f2 (by omega) (by omega) F_f2)
          simp [eo]
        refine z_if_eq (pc := 126) (tgt := 135) rfl (by decide) (fun h126 => ?_) (fun h126 => ?_)
        · refine z_iconst (pc := 135) (v := 0) rfl (by decide) ?_
          exact j136 _ (by unfold fitAt; rw [if_pos h126])
        · refine z_iconst (pc := 129) (v := 1) rfl (by decide) ?_
          refine z_iload_n (pc := 130) (i := 2) (j := 2) rfl rfl rfl ?_
          refine z_ishl (pc := 131) rfl ?_
          refine z_goto (pc := 132) (tgt := 136) rfl (by decide) ?_
          exact j136 _ (by unfold fitAt; rw [if_neg h126]; rfl)
    · obtain rfl : i = 8 := by omega
      exact hex f hf
set_option maxRecDepth 100000 in
set_option maxHeartbeats 4000000 in
theorem c_Mod_fits {w : zW} (hm : zMo w) {C R H : Nat} {V : Int32 → Int32} {G : Int32 → Int32 → Int32 → Int32} (hi : zMi (zI w) C R H V G) {n : Nat} (hn : zI w 67 140 = nI n) (hn1 : n ≤ 10) (hs : ∀ k, k < n → ∃ a, a < H ∧ zI w 67 (141 + 3 * k) = nI a) (d : Nat) (hd : 5 ≤ d) : zS 0 0 d m_Mod_fits (fun rv w1 => ∃ f, w1 = zuI w f ∧ rv = some (.int (orN (fitAt (zI w) C R H n G) 8)) ∧ zFr w f) 0 [(0, .ref 44)] [] w := by
  refine z_aload_n (pc := 0) (i := 0) (j := 0) rfl rfl rfl ?_
  refine z_iconst (pc := 1) (v := 0) rfl (by decide) ?_
  refine z_putI (pc := 2) rfl fl_Mod_100 hm.1 rfl  ?_
  change zS _ _ _ _ _ _ _ _ (zuI w (z2 (zI w) 44 0 0))
  obtain ⟨f0, hf0⟩ : ∃ f0, f0 = z2 (zI w) 44 0 0 := ⟨_, rfl⟩
  rw [← hf0]
  have F_f0 : zFr w f0 := hf0 ▸ zFr_0 w
  refine z_iconst (pc := 5) (v := 0) rfl (by decide) ?_
  refine z_istore_n (pc := 6) (i := 1) (ls' := [(0, .ref 44), (1, .int 0)]) rfl rfl (by decide) rfl ?_
  refine z_iconst (pc := 7) (v := 0) rfl (by decide) ?_
  refine z_istore_n (pc := 8) (i := 2) (ls' := [(0, .ref 44), (1, .int 0), (2, .int 0)]) rfl rfl (by decide) rfl ?_
  exact lO_Mod_fits hm hi hn hn1 hs d hd 8 0 f0 (by omega) (by omega) F_f0
