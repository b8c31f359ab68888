/-! FEAST of the model -/
def bts (x : Int32) : Int32 := rsum (fun k => (x >>> (nI k &&& 31)) &&& 1) 8
theorem c_Mod_bts (x : Int32) (w : zW) (d : Nat) : zS 0 0 d m_Mod_bits (fun rv w1 => rv = some (.int (bts x)) ∧ w1 = w) 0 [(0, .int x)] [] w := c_Mod_bits x w d
def fsN (m : Nat → Int32) : Nat → Int32 × Int32
  | 0 => (0, 1)
  | h + 1 => ((fsN m h).1 + bts (m h), if (fsN m h).2 = 0 then 0 else if 2 ≤ bts (m h) then 0 else 1)
theorem fsN_c {m m2 : Nat → Int32} : ∀ n, (∀ a, a < n → m a = m2 a) → fsN m n = fsN m2 n
  | 0, _ => rfl
  | n + 1, e => by show ((fsN m n).1 + bts (m n), _) = ((fsN m2 n).1 + bts (m2 n), _); rw [fsN_c n (fun a ha => e a (by omega)), e n (by omega)]
def fsM (f : Nat → Nat → Int32) (C R H : Nat) (V : Int32 → Int32) (G : Int32 → Int32 → Int32 → Int32) (x : Int32) (g : Nat) : Nat → Int32 := mset f C R (yvO V x) G x (nI g &&& (f 67 137 ^^^ (-1))) H
/-- (best, most) behind the set g -/
def fsS (f : Nat → Nat → Int32) (C R H : Nat) (V : Int32 → Int32) (G : Int32 → Int32 → Int32 → Int32) (x : Int32) (g : Nat) (q : Int32 × Int32) : Int32 × Int32 :=
  if nI g &&& f 67 137 = 0 then
    (if (fsN (fsM f C R H V G x g) H).2 = 0 then q
     else if (fsN (fsM f C R H V G x g) H).1 / 2 < q.2 then q
     else if (fsN (fsM f C R H V G x g) H).1 / 2 = q.2 then (if bts (nI g) < bts q.1 then (nI g, (fsN (fsM f C R H V G x g) H).1 / 2) else q)
     else (nI g, (fsN (fsM f C R H V G x g) H).1 / 2))
  else q
def fsQ (f : Nat → Nat → Int32) (C R H : Nat) (V : Int32 → Int32) (G : Int32 → Int32 → Int32 → Int32) (x : Int32) : Nat → Int32 × Int32
  | 0 => (0, 0)
  | n + 1 => fsS f C R H V G x (n + 1) (fsQ f C R H V G x n)
set_option maxRecDepth 100000 in
set_option maxHeartbeats 4000000 in
theorem lI_Mod_feast {w : zW} (hm : zMo w) {P : Option Value → zW → Prop} (f : Nat → Nat → Int32) {H g : Nat} (hH : f 46 4 = nI H) (hH8 : H ≤ 8) (y1 y2 x qb qm : Int32) (d : Nat) (hd : 1 ≤ d) (kx : zS 0 0 d m_Mod_feast P 155 [(0, .ref 44), (1, .int y1), (2, .int y2), (3, .int x), (4, .int qb), (5, .int qm), (6, .int (nI g)), (7, .int ((fsN (f 71) H).1)), (8, .int ((fsN (f 71) H).2))] [] (zuI w f)) : ∀ (m i : Nat), i ≤ H → H ≤ i + m → zS 0 0 d m_Mod_feast P 97 [(0, .ref 44), (1, .int y1), (2, .int y2), (3, .int x), (4, .int qb), (5, .int qm), (6, .int (nI g)), (7, .int ((fsN (f 71) i).1)), (8, .int ((fsN (f 71) i).2)), (9, .int (nI i))] [] (zuI w f) := by
  have hex : zS 0 0 d m_Mod_feast P 97 [(0, .ref 44), (1, .int y1), (2, .int y2), (3, .int x), (4, .int qb), (5, .int qm), (6, .int (nI g)), (7, .int ((fsN (f 71) H).1)), (8, .int ((fsN (f 71) H).2)), (9, .int (nI H))] [] (zuI w f) := by
    refine z_iload (pc := 97) (i := 9) (j := 9) rfl rfl ?_
    refine z_aload_n (pc := 99) (i := 0) (j := 0) rfl rfl rfl ?_
    refine z_getR (pc := 100) (x := 46) rfl fl_Mod_13 hm.1 rfl (mr_46 hm) ?_
    refine z_iconst (pc := 103) (v := 4) rfl (by decide) ?_
    refine z_iald (pc := 104) rfl (mk_46 hm) (vp_in_nI (n := 4) (by decide) (by decide)) ?_
    refine z_eqi (y := nI H) hH ?_
    refine z_icmp_ge (pc := 105) (tgt := 155) rfl (by decide) (fun h105 => ?_) (fun h105 => ?_)
    · refine z_drop ?_ kx
      simp
    · exact absurd (Int32.le_refl _) h105
  intro m
  induction m with
  | zero =>
    intro i hii hmm
    obtain rfl : i = H := by omega
    exact hex
  | succ m ih =>
    intro i hii hmm
    by_cases hlt : i < H
    · have kk := ih (i + 1) (by omega) (by omega)
      refine z_iload (pc := 97) (i := 9) (j := 9) rfl rfl ?_
      refine z_aload_n (pc := 99) (i := 0) (j := 0) rfl rfl rfl ?_
      refine z_getR (pc := 100) (x := 46) rfl fl_Mod_13 hm.1 rfl (mr_46 hm) ?_
      refine z_iconst (pc := 103) (v := 4) rfl (by decide) ?_
      refine z_iald (pc := 104) rfl (mk_46 hm) (vp_in_nI (n := 4) (by decide) (by decide)) ?_
      refine z_eqi (y := nI H) hH ?_
      refine z_icmp_ge (pc := 105) (tgt := 155) rfl (by decide) (fun h105 => ?_) (fun h105 => ?_)
      · exact absurd h105 (nI_ge (b := H) hlt (by omega))
      · refine z_iload (pc := 108) (i := 7) (j := 7) rfl rfl ?_
        refine z_aload_n (pc := 110) (i := 0) (j := 0) rfl rfl rfl ?_
        refine z_getR (pc := 111) (x := 71) rfl fl_Mod_90 hm.1 rfl (mr_71 hm) ?_
        refine z_iload (pc := 114) (i := 9) (j := 9) rfl rfl ?_
        refine z_iald (pc := 116) rfl (mk_71 hm) (vp_in_nI (show i < 8 by omega) (by decide)) ?_
        refine z_eqi (y := f 71 i) (by rw [nI_clamp (by omega)]; rfl) ?_
        refine z_cS (pc := 117) (mc1 := 0) (ms1 := 0) (mc2 := 0) (ms2 := 0) (as := [.int (f 71 i)]) (rest := [.int ((fsN (f 71) i).1)]) ok_Mod_bits rfl rfl cl_Mod_336 (by omega) (Nat.le_of_ble_eq_true rfl) (Nat.le_of_ble_eq_true rfl) (Nat.le_refl _) (Nat.le_refl _) (c_Mod_bts (f 71 i) _ 0) (fun r1 w1 hp => ?_) rfl rfl
        obtain ⟨rfl, hw1⟩ := hp
        rw [hw1]
        refine ⟨⟨Nat.le_refl _, Or.inl rfl⟩, ?_⟩
        refine z_iadd (pc := 120) rfl ?_
        refine z_istore (pc := 121) (i := 7) (ls' := [(0, .ref 44), (1, .int y1), (2, .int y2), (3, .int x), (4, .int qb), (5, .int qm), (6, .int (nI g)), (7, .int (((fsN (f 71) i).1) + (bts (f 71 i)))), (8, .int ((fsN (f 71) i).2)), (9, .int (nI i))]) rfl (by decide) rfl ?_
        refine z_iload (pc := 123) (i := 8) (j := 8) rfl rfl ?_
        have j147 : ∀ u : Int32, (u = (fsN (f 71) (i + 1)).2) → zS 0 0 d m_Mod_feast P 147 [(0, .ref 44), (1, .int y1), (2, .int y2), (3, .int x), (4, .int qb), (5, .int qm), (6, .int (nI g)), (7, .int (((fsN (f 71) i).1) + (bts (f 71 i)))), (8, .int ((fsN (f 71) i).2)), (9, .int (nI i))] [.int u] (zuI w f) := by
          intro u h_j147
          refine z_istore (pc := 147) (i := 8) (ls' := [(0, .ref 44), (1, .int y1), (2, .int y2), (3, .int x), (4, .int qb), (5, .int qm), (6, .int (nI g)), (7, .int (((fsN (f 71) i).1) + (bts (f 71 i)))), (8, .int u), (9, .int (nI i))]) rfl (by decide) rfl ?_
          refine z_iinc (pc := 149) (i := 9) (j := 9) (v := nI (i + 1)) (ls' := [(0, .ref 44), (1, .int y1), (2, .int y2), (3, .int x), (4, .int qb), (5, .int qm), (6, .int (nI g)), (7, .int (((fsN (f 71) i).1) + (bts (f 71 i)))), (8, .int u), (9, .int (nI (i + 1)))]) rfl rfl (nI_1 i) (by decide) rfl ?_
          refine z_goto (pc := 152) (tgt := 97) rfl (by decide) ?_
          rw [h_j147]
          exact kk
        refine z_if_eq (pc := 125) (tgt := 146) rfl (by decide) (fun h125 => ?_) (fun h125 => ?_)
        · refine z_iconst (pc := 146) (v := 0) rfl (by decide) ?_
          exact j147 _ (by show _ = (if _ then _ else _); rw [if_pos h125])
        · refine z_aload_n (pc := 128) (i := 0) (j := 0) rfl rfl rfl ?_
          refine z_getR (pc := 129) (x := 71) rfl fl_Mod_90 hm.1 rfl (mr_71 hm) ?_
          refine z_iload (pc := 132) (i := 9) (j := 9) rfl rfl ?_
          refine z_iald (pc := 134) rfl (mk_71 hm) (vp_in_nI (show i < 8 by omega) (by decide)) ?_
          refine z_eqi (y := f 71 i) (by rw [nI_clamp (by omega)]; rfl) ?_
          refine z_cS (pc := 135) (mc1 := 0) (ms1 := 0) (mc2 := 0) (ms2 := 0) (as := [.int (f 71 i)]) (rest := []) ok_Mod_bits rfl rfl cl_Mod_336 (by omega) (Nat.le_of_ble_eq_true rfl) (Nat.le_of_ble_eq_true rfl) (Nat.le_refl _) (Nat.le_refl _) (c_Mod_bts (f 71 i) _ 0) (fun r1 w1 hp => ?_) rfl rfl
          obtain ⟨rfl, hw1⟩ := hp
          rw [hw1]
          refine ⟨⟨Nat.le_refl _, Or.inl rfl⟩, ?_⟩
          refine z_iconst (pc := 138) (v := 2) rfl (by decide) ?_
          refine z_icmp_ge (pc := 139) (tgt := 146) rfl (by decide) (fun h139 => ?_) (fun h139 => ?_)
          · refine z_iconst (pc := 146) (v := 0) rfl (by decide) ?_
            exact j147 _ (by show _ = (if _ then _ else _); rw [if_neg h125, if_pos h139])
          · refine z_iconst (pc := 142) (v := 1) rfl (by decide) ?_
            refine z_goto (pc := 143) (tgt := 147) rfl (by decide) ?_
            exact j147 _ (by show _ = (if _ then _ else _); rw [if_neg h125, if_neg h139])
    · obtain rfl : i = H := by omega
      exact hex
theorem sh_H {H : Nat} (h : H ≤ 8) : (1 : Int32) <<< (nI H &&& 31) = nI (2 ^ H) := by
  have : ∀ H, H < 9 → (1 : Int32) <<< (nI H &&& 31) = nI (2 ^ H) := by decide
  exact this H (by omega)
set_option maxRecDepth 100000 in
set_option maxHeartbeats 4000000 in
theorem lO_Mod_feast {w : zW} (hm : zMo w) {C R H : Nat} {V : Int32 → Int32} {G : Int32 → Int32 → Int32 → Int32} (hi : zMi (zI w) C R H V G) (y1 y2 x : Int32) (d : Nat) (hd : 5 ≤ d) : ∀ (m i : Nat) (f : Nat → Nat → Int32), i ≤ (2 ^ H - 1) → (2 ^ H - 1) ≤ i + m → zFr w f → zS 0 0 d m_Mod_feast (fun rv w1 => ∃ f, w1 = zuI w f ∧ rv = some (.int (if y2 = 0 then (fsQ (zI w) C R H V G x (2 ^ H - 1)).2 else (fsQ (zI w) C R H V G x (2 ^ H - 1)).1)) ∧ zFr w f) 46 [(0, .ref 44), (1, .int y1), (2, .int y2), (3, .int x), (4, .int ((fsQ (zI w) C R H V G x i).1)), (5, .int ((fsQ (zI w) C R H V G x i).2)), (6, .int (nI (i + 1)))] [] (zuI w f) := by
  have hH8 := hi.2.2.2.2.2.1
  have hp2 : 2 ^ H ≤ 256 := Nat.le_trans (Nat.pow_le_pow_right (n := 2) (by decide) hH8) (by decide)
  have hp1 : 1 ≤ 2 ^ H := Nat.one_le_two_pow
  have hex : ∀ f : Nat → Nat → Int32, zFr w f → zS 0 0 d m_Mod_feast (fun rv w1 => ∃ f, w1 = zuI w f ∧ rv = some (.int (if y2 = 0 then (fsQ (zI w) C R H V G x (2 ^ H - 1)).2 else (fsQ (zI w) C R H V G x (2 ^ H - 1)).1)) ∧ zFr w f) 46 [(0, .ref 44), (1, .int y1), (2, .int y2), (3, .int x), (4, .int ((fsQ (zI w) C R H V G x (2 ^ H - 1)).1)), (5, .int ((fsQ (zI w) C R H V G x (2 ^ H - 1)).2)), (6, .int (nI ((2 ^ H - 1) + 1)))] [] (zuI w f) := by
    intro f F_f
    refine z_iload (pc := 46) (i := 6) (j := 6) rfl rfl ?_
    refine z_iconst (pc := 48) (v := 1) rfl (by decide) ?_
    refine z_aload_n (pc := 49) (i := 0) (j := 0) rfl rfl rfl ?_
    refine z_getR (pc := 50) (x := 46) rfl fl_Mod_13 hm.1 rfl (mr_46 hm) ?_
    refine z_iconst (pc := 53) (v := 4) rfl (by decide) ?_
    refine z_iald (pc := 54) rfl (mk_46 hm) (vp_in_nI (n := 4) (by decide) (by decide)) ?_
    refine z_eqi (y := nI H) ((zFr_i F_f hi).2.2.1) ?_
    refine z_ishl (pc := 55) rfl ?_
    refine z_eqi (y := nI (2 ^ H)) (sh_H hi.2.2.2.2.2.1) ?_
    refine z_icmp_ge (pc := 56) (tgt := 210) rfl (by decide) (fun h56 => ?_) (fun h56 => ?_)
    · refine z_iload_n (pc := 210) (i := 2) (j := 2) rfl rfl rfl ?_
      have j221 : ∀ u : Int32, (u = (if y2 = 0 then (fsQ (zI w) C R H V G x (2 ^ H - 1)).2 else (fsQ (zI w) C R H V G x (2 ^ H - 1)).1)) → zS 0 0 d m_Mod_feast (fun rv w1 => ∃ f, w1 = zuI w f ∧ rv = some (.int (if y2 = 0 then (fsQ (zI w) C R H V G x (2 ^ H - 1)).2 else (fsQ (zI w) C R H V G x (2 ^ H - 1)).1)) ∧ zFr w f) 221 [(0, .ref 44), (1, .int y1), (2, .int y2), (3, .int x), (4, .int ((fsQ (zI w) C R H V G x (2 ^ H - 1)).1)), (5, .int ((fsQ (zI w) C R H V G x (2 ^ H - 1)).2)), (6, .int (nI ((2 ^ H - 1) + 1)))] [.int u] (zuI w f) := by
        intro u h_j221
        exact z_iret (pc := 221) rfl rfl ⟨f, rfl, by rw [h_j221], F_f⟩
      refine z_if_ne (pc := 211) (tgt := 219) rfl (by decide) (fun h211 => ?_) (fun h211 => ?_)
      · refine z_iload (pc := 219) (i := 4) (j := 4) rfl rfl ?_
        exact j221 _ (by rw [if_neg h211] <;> rfl)
      · refine z_iload (pc := 214) (i := 5) (j := 5) rfl rfl ?_
        refine z_goto (pc := 216) (tgt := 221) rfl (by decide) ?_
        exact j221 _ (by rw [if_pos h211] <;> rfl)
    · exact absurd (nI_le (by omega) (by omega)) h56
  intro m
  induction m with
  | zero =>
    intro i f hii hmm F_f
    obtain rfl : i = (2 ^ H - 1) := by omega
    exact hex f F_f
  | succ m ih =>
    intro i f hii hmm F_f
    by_cases hlt : i < (2 ^ H - 1)
    · skip
      refine z_iload (pc := 46) (i := 6) (j := 6) rfl rfl ?_
      refine z_iconst (pc := 48) (v := 1) rfl (by decide) ?_
      refine z_aload_n (pc := 49) (i := 0) (j := 0) rfl rfl rfl ?_
      refine z_getR (pc := 50) (x := 46) rfl fl_Mod_13 hm.1 rfl (mr_46 hm) ?_
      refine z_iconst (pc := 53) (v := 4) rfl (by decide) ?_
      refine z_iald (pc := 54) rfl (mk_46 hm) (vp_in_nI (n := 4) (by decide) (by decide)) ?_
      refine z_eqi (y := nI H) ((zFr_i F_f hi).2.2.1) ?_
      refine z_ishl (pc := 55) rfl ?_
      refine z_eqi (y := nI (2 ^ H)) (sh_H hi.2.2.2.2.2.1) ?_
      refine z_icmp_ge (pc := 56) (tgt := 210) rfl (by decide) (fun h56 => ?_) (fun h56 => ?_)
      · exact absurd h56 (nI_ge (b := 2 ^ H) (by omega) (by omega))
      · have j204 : ∀ (g : Nat → Nat → Int32) (q : Int32 × Int32), zFr w g → q = fsS (zI w) C R H V G x (i + 1) (fsQ (zI w) C R H V G x i) → zS 0 0 d m_Mod_feast (fun rv w1 => ∃ f, w1 = zuI w f ∧ rv = some (.int (if y2 = 0 then (fsQ (zI w) C R H V G x (2 ^ H - 1)).2 else (fsQ (zI w) C R H V G x (2 ^ H - 1)).1)) ∧ zFr w f) 204 [(0, .ref 44), (1, .int y1), (2, .int y2), (3, .int x), (4, .int q.1), (5, .int q.2), (6, .int (nI (i + 1)))] [] (zuI w g) := by
          intro g q F_g hq
          refine z_iinc (pc := 204) (i := 6) (j := 6) (v := nI (i + 1 + 1)) (ls' := [(0, .ref 44), (1, .int y1), (2, .int y2), (3, .int x), (4, .int q.1), (5, .int q.2), (6, .int (nI (i + 1 + 1)))]) rfl rfl (nI_1 (i + 1)) (by decide) rfl ?_
          refine z_goto (pc := 207) (tgt := 46) rfl (by decide) ?_
          rw [hq]
          exact ih (i + 1) g (by omega) (by omega) F_g
        refine z_iload (pc := 59) (i := 6) (j := 6) rfl rfl ?_
        refine z_aload_n (pc := 61) (i := 0) (j := 0) rfl rfl rfl ?_
        refine z_getR (pc := 62) (x := 67) rfl fl_Mod_78 hm.1 rfl (mr_67 hm) ?_
        refine z_sipush (pc := 65) (v := 137) rfl (by decide) ?_
        refine z_iald (pc := 68) rfl (mk_67 hm) (vp_in_nI (n := 137) (by decide) (by decide)) ?_
        refine z_eqi (y := zI w 67 137) (congrFun (F_f.1 67 (by omega) (by decide) (by decide) (by decide)) 137) ?_
        refine z_iand (pc := 69) rfl ?_
        refine z_if_eq (pc := 70) (tgt := 76) rfl (by decide) (fun h70 => ?_) (fun h70 => ?_)
        · refine z_aload_n (pc := 76) (i := 0) (j := 0) rfl rfl rfl ?_
          refine z_iload (pc := 77) (i := 6) (j := 6) rfl rfl ?_
          refine z_iload_n (pc := 79) (i := 3) (j := 3) rfl rfl rfl ?_
          refine z_aload_n (pc := 80) (i := 0) (j := 0) rfl rfl rfl ?_
          refine z_iload_n (pc := 81) (i := 3) (j := 3) rfl rfl rfl ?_
          refine z_cV (pc := 82) (mc1 := 0) (ms1 := 0) (mc2 := 0) (ms2 := 0) (as := [.int x]) (rest := [.int x, .int (nI (i + 1)), .ref 44]) (o := 44) rfl rfl hm.1 ok_Mod_windAt rfl rfl cl_Mod_307 (by omega) (Nat.le_of_ble_eq_true rfl) (Nat.le_of_ble_eq_true rfl) (Nat.le_refl _) (Nat.le_refl _) (c_Mod_windAt (w := zuI w f) hm (zFr_i F_f hi).2.2.2.2.2.2.1 x 3 (by decide)) (fun r1 w1 hp => ?_) rfl rfl
          obtain ⟨f1, hw1, rfl, hn_f1⟩ := hp
          rw [hw1]
          refine ⟨⟨Nat.le_refl _, Or.inl rfl⟩, ?_⟩
          have F_f1 : zFr w f1 := zFr_w F_f hn_f1
          obtain ⟨yv, hyv⟩ : ∃ yv, yv = yvO V x := ⟨_, rfl⟩
          rw [yvO_eq, ← hyv]
          have hy : yv < 8 := hyv ▸ yvO_lt _ _
          refine z_cV (pc := 85) (mc1 := 0) (ms1 := 0) (mc2 := 0) (ms2 := 0) (as := [.int (nI (i + 1)), .int x, .int (nI yv)]) (rest := []) (o := 44) rfl rfl hm.1 ok_Mod_smokes rfl rfl cl_Mod_310 (by omega) (Nat.le_of_ble_eq_true rfl) (Nat.le_of_ble_eq_true rfl) (Nat.le_refl _) (Nat.le_refl _) (c_Mod_smokes (w := zuI w f1) hm (zFr_i F_f1 hi).1 (zFr_i F_f1 hi).2.1 (zFr_i F_f1 hi).2.2.1 hi.2.2.2.1 hi.2.2.2.2.1 hi.2.2.2.2.2.1 (G := G) (zFr_i F_f1 hi).2.2.2.2.2.2.2 (yv := yv) hy (nI (i + 1)) x 4 (by decide)) (fun r1 w1 hp => ?_) rfl rfl
          obtain ⟨f2, hw1, rfl, -, h71, hn_f2⟩ := hp
          rw [hw1]
          refine ⟨⟨Nat.le_refl _, Or.inl rfl⟩, ?_⟩
          have F_f2 : zFr w f2 := zFr_s F_f1 hn_f2
          have m_f2 : ∀ a, a < H → f2 71 a = mset (zI w) C R yv G x ((nI (i + 1)) &&& (zI w 67 137 ^^^ (-1))) H a := fun a ha => (congrFun h71 a).trans ((metM_set _ _ _ _ _ _ _ hi.2.2.2.2.2.1 ha).trans (by rw [mset_c (f := zI w) (g := zI (zuI w f1)) (F_f1.1 48 (by omega) (by decide) (by decide) (by decide)) (F_f1.1 49 (by omega) (by decide) (by decide) (by decide)) (F_f1.1 50 (by omega) (by decide) (by decide) (by decide)) (F_f1.1 51 (by omega) (by decide) (by decide) (by decide)), show zI (zuI w f1) 67 = zI w 67 from F_f1.1 67 (by omega) (by decide) (by decide) (by decide)]))
          refine z_iconst (pc := 88) (v := 0) rfl (by decide) ?_
          refine z_istore (pc := 89) (i := 7) (ls' := [(0, .ref 44), (1, .int y1), (2, .int y2), (3, .int x), (4, .int ((fsQ (zI w) C R H V G x i).1)), (5, .int ((fsQ (zI w) C R H V G x i).2)), (6, .int (nI (i + 1))), (7, .int 0)]) rfl (by decide) rfl ?_
          refine z_iconst (pc := 91) (v := 1) rfl (by decide) ?_
          refine z_istore (pc := 92) (i := 8) (ls' := [(0, .ref 44), (1, .int y1), (2, .int y2), (3, .int x), (4, .int ((fsQ (zI w) C R H V G x i).1)), (5, .int ((fsQ (zI w) C R H V G x i).2)), (6, .int (nI (i + 1))), (7, .int 0), (8, .int 1)]) rfl (by decide) rfl ?_
          refine z_iconst (pc := 94) (v := 0) rfl (by decide) ?_
          refine z_istore (pc := 95) (i := 9) (ls' := [(0, .ref 44), (1, .int y1), (2, .int y2), (3, .int x), (4, .int ((fsQ (zI w) C R H V G x i).1)), (5, .int ((fsQ (zI w) C R H V G x i).2)), (6, .int (nI (i + 1))), (7, .int 0), (8, .int 1), (9, .int 0)]) rfl (by decide) rfl ?_
          refine lI_Mod_feast hm f2 (H := H) (g := i + 1) (zFr_i F_f2 hi).2.2.1 hi.2.2.2.2.2.1 y1 y2 x (fsQ (zI w) C R H V G x i).1 (fsQ (zI w) C R H V G x i).2 d (by omega) ?_ H 0 (by omega) (by omega)
          have ep : fsN (f2 71) H = (fsN (fsM (zI w) C R H V G x (i + 1)) H) := by rw [fsN_c H m_f2, hyv]; rfl
          rw [ep]
          refine z_iload (pc := 155) (i := 7) (j := 7) rfl rfl ?_
          refine z_iconst (pc := 157) (v := 2) rfl (by decide) ?_
          refine z_idiv (pc := 158) rfl (by decide) ?_
          refine z_istore (pc := 159) (i := 7) (ls' := [(0, .ref 44), (1, .int y1), (2, .int y2), (3, .int x), (4, .int ((fsQ (zI w) C R H V G x i).1)), (5, .int ((fsQ (zI w) C R H V G x i).2)), (6, .int (nI (i + 1))), (7, .int (((fsN (fsM (zI w) C R H V G x (i + 1)) H).1) / 2)), (8, .int ((fsN (fsM (zI w) C R H V G x (i + 1)) H).2))]) rfl (by decide) rfl ?_
          refine z_iload (pc := 161) (i := 8) (j := 8) rfl rfl ?_
          refine z_if_eq (pc := 163) (tgt := 204) rfl (by decide) (fun h163 => ?_) (fun h163 => ?_)
          · exact z_drop (by simp) (j204 f2 (fsQ (zI w) C R H V G x i) F_f2 (by unfold fsS; rw [if_pos h70, if_pos h163]))
          · refine z_iload (pc := 166) (i := 7) (j := 7) rfl rfl ?_
            refine z_iload (pc := 168) (i := 5) (j := 5) rfl rfl ?_
            refine z_icmp_lt (pc := 170) (tgt := 204) rfl (by decide) (fun h170 => ?_) (fun h170 => ?_)
            · exact z_drop (by simp) (j204 f2 (fsQ (zI w) C R H V G x i) F_f2 (by unfold fsS; rw [if_pos h70, if_neg h163, if_pos h170]))
            · refine z_iload (pc := 173) (i := 7) (j := 7) rfl rfl ?_
              refine z_iload (pc := 175) (i := 5) (j := 5) rfl rfl ?_
              refine z_icmp_ne (pc := 177) (tgt := 196) rfl (by decide) (fun h177 => ?_) (fun h177 => ?_)
              · refine z_iload (pc := 196) (i := 7) (j := 7) rfl rfl ?_
                refine z_istore (pc := 198) (i := 5) (ls' := [(0, .ref 44), (1, .int y1), (2, .int y2), (3, .int x), (4, .int ((fsQ (zI w) C R H V G x i).1)), (5, .int (((fsN (fsM (zI w) C R H V G x (i + 1)) H).1) / 2)), (6, .int (nI (i + 1))), (7, .int (((fsN (fsM (zI w) C R H V G x (i + 1)) H).1) / 2)), (8, .int ((fsN (fsM (zI w) C R H V G x (i + 1)) H).2))]) rfl (by decide) rfl ?_
                refine z_iload (pc := 200) (i := 6) (j := 6) rfl rfl ?_
                refine z_istore (pc := 202) (i := 4) (ls' := [(0, .ref 44), (1, .int y1), (2, .int y2), (3, .int x), (4, .int (nI (i + 1))), (5, .int (((fsN (fsM (zI w) C R H V G x (i + 1)) H).1) / 2)), (6, .int (nI (i + 1))), (7, .int (((fsN (fsM (zI w) C R H V G x (i + 1)) H).1) / 2)), (8, .int ((fsN (fsM (zI w) C R H V G x (i + 1)) H).2))]) rfl (by decide) rfl ?_
                exact z_drop (by simp) (j204 f2 (nI (i + 1), ((fsN (fsM (zI w) C R H V G x (i + 1)) H).1) / 2) F_f2 (by unfold fsS; rw [if_pos h70, if_neg h163, if_neg h170, if_neg h177]))
              · refine z_iload (pc := 180) (i := 6) (j := 6) rfl rfl ?_
                refine z_cS (pc := 182) (mc1 := 0) (ms1 := 0) (mc2 := 0) (ms2 := 0) (as := [.int (nI (i + 1))]) (rest := []) ok_Mod_bits rfl rfl cl_Mod_336 (by omega) (Nat.le_of_ble_eq_true rfl) (Nat.le_of_ble_eq_true rfl) (Nat.le_refl _) (Nat.le_refl _) (c_Mod_bts (nI (i + 1)) _ 0) (fun r1 w1 hp => ?_) rfl rfl
                obtain ⟨rfl, hw1⟩ := hp
                rw [hw1]
                refine ⟨⟨Nat.le_refl _, Or.inl rfl⟩, ?_⟩
                refine z_iload (pc := 185) (i := 4) (j := 4) rfl rfl ?_
                refine z_cS (pc := 187) (mc1 := 0) (ms1 := 0) (mc2 := 0) (ms2 := 0) (as := [.int ((fsQ (zI w) C R H V G x i).1)]) (rest := [.int (bts (nI (i + 1)))]) ok_Mod_bits rfl rfl cl_Mod_336 (by omega) (Nat.le_of_ble_eq_true rfl) (Nat.le_of_ble_eq_true rfl) (Nat.le_refl _) (Nat.le_refl _) (c_Mod_bts ((fsQ (zI w) C R H V G x i).1) _ 0) (fun r1 w1 hp => ?_) rfl rfl
                obtain ⟨rfl, hw1⟩ := hp
                rw [hw1]
                refine ⟨⟨Nat.le_refl _, Or.inl rfl⟩, ?_⟩
                refine z_icmp_lt (pc := 190) (tgt := 196) rfl (by decide) (fun h190 => ?_) (fun h190 => ?_)
                · refine z_iload (pc := 196) (i := 7) (j := 7) rfl rfl ?_
                  refine z_istore (pc := 198) (i := 5) (ls' := [(0, .ref 44), (1, .int y1), (2, .int y2), (3, .int x), (4, .int ((fsQ (zI w) C R H V G x i).1)), (5, .int (((fsN (fsM (zI w) C R H V G x (i + 1)) H).1) / 2)), (6, .int (nI (i + 1))), (7, .int (((fsN (fsM (zI w) C R H V G x (i + 1)) H).1) / 2)), (8, .int ((fsN (fsM (zI w) C R H V G x (i + 1)) H).2))]) rfl (by decide) rfl ?_
                  refine z_iload (pc := 200) (i := 6) (j := 6) rfl rfl ?_
                  refine z_istore (pc := 202) (i := 4) (ls' := [(0, .ref 44), (1, .int y1), (2, .int y2), (3, .int x), (4, .int (nI (i + 1))), (5, .int (((fsN (fsM (zI w) C R H V G x (i + 1)) H).1) / 2)), (6, .int (nI (i + 1))), (7, .int (((fsN (fsM (zI w) C R H V G x (i + 1)) H).1) / 2)), (8, .int ((fsN (fsM (zI w) C R H V G x (i + 1)) H).2))]) rfl (by decide) rfl ?_
                  exact z_drop (by simp) (j204 f2 (nI (i + 1), ((fsN (fsM (zI w) C R H V G x (i + 1)) H).1) / 2) F_f2 (by unfold fsS; rw [if_pos h70, if_neg h163, if_neg h170, if_pos h177, if_pos h190]))
                · refine z_goto (pc := 193) (tgt := 204) rfl (by decide) ?_
                  exact z_drop (by simp) (j204 f2 (fsQ (zI w) C R H V G x i) F_f2 (by unfold fsS; rw [if_pos h70, if_neg h163, if_neg h170, if_pos h177, if_neg h190]))
        · refine z_goto (pc := 73) (tgt := 204) rfl (by decide) ?_
          exact j204 f (fsQ (zI w) C R H V G x i) F_f (by unfold fsS; rw [if_neg h70])
    · obtain rfl : i = (2 ^ H - 1) := by omega
      exact hex f F_f
set_option maxRecDepth 100000 in
set_option maxHeartbeats 4000000 in
theorem c_Mod_feast {w : zW} (hm : zMo w) {C R H : Nat} {V : Int32 → Int32} {G : Int32 → Int32 → Int32 → Int32} (hi : zMi (zI w) C R H V G) (b v : Int32) (d : Nat) (hd : 5 ≤ d) : zS 0 0 d m_Mod_feast (fun rv w1 => ∃ f, w1 = zuI w f ∧ rv = some (.int (if (if b < 0 then 0 else if 23 < b then 0 else 1 : Int32) = 0 then -1 else if (if v < 0 then 0 else if 1 < v then 0 else 1 : Int32) = 0 then -1 else (if v = 0 then (fsQ (zI w) C R H V G (zI w 67 138 + b) (2 ^ H - 1)).2 else (fsQ (zI w) C R H V G (zI w 67 138 + b) (2 ^ H - 1)).1))) ∧ zFr w f) 0 [(0, .ref 44), (1, .int b), (2, .int v)] [] w := by
  refine z_aload_n (pc := 0) (i := 0) (j := 0) rfl rfl rfl ?_
  refine z_iconst (pc := 1) (v := 0) rfl (by decide) ?_
  refine z_putI (pc := 2) rfl fl_Mod_100 hm.1 rfl  ?_
  change zS _ _ _ _ _ _ _ _ (zuI w (z2 (zI w) 44 0 0))
  obtain ⟨f0, hf0⟩ : ∃ f0, f0 = z2 (zI w) 44 0 0 := ⟨_, rfl⟩
  rw [← hf0]
  have F_f0 : zFr w f0 := hf0 ▸ zFr_0 w
  refine z_iload_n (pc := 5) (i := 1) (j := 1) rfl rfl rfl ?_
  refine z_iconst (pc := 6) (v := 0) rfl (by decide) ?_
  refine z_bipush (pc := 7) (v := 23) rfl (by decide) ?_
  refine z_cS (pc := 9) (mc1 := 0) (ms1 := 0) (mc2 := 0) (ms2 := 0) (as := [.int b, .int 0, .int 23]) (rest := []) ok_Mod_within rfl rfl cl_Mod_214 (by omega) (Nat.le_of_ble_eq_true rfl) (Nat.le_of_ble_eq_true rfl) (Nat.le_refl _) (Nat.le_refl _) (c_Mod_within b 0 23 0 _) (fun r1 w1 hp => ?_) rfl rfl
  obtain ⟨rfl, hw1⟩ := hp
  rw [hw1]
  refine ⟨⟨Nat.le_refl _, Or.inl rfl⟩, ?_⟩
  refine z_if_eq (pc := 12) (tgt := 24) rfl (by decide) (fun h12 => ?_) (fun h12 => ?_)
  · refine z_iconst (pc := 24) (v := (-1)) rfl (by decide) ?_
    exact z_iret (pc := 25) rfl rfl ⟨f0, rfl, by rw [if_pos h12], F_f0⟩
  · refine z_iload_n (pc := 15) (i := 2) (j := 2) rfl rfl rfl ?_
    refine z_iconst (pc := 16) (v := 0) rfl (by decide) ?_
    refine z_iconst (pc := 17) (v := 1) rfl (by decide) ?_
    refine z_cS (pc := 18) (mc1 := 0) (ms1 := 0) (mc2 := 0) (ms2 := 0) (as := [.int v, .int 0, .int 1]) (rest := []) ok_Mod_within rfl rfl cl_Mod_214 (by omega) (Nat.le_of_ble_eq_true rfl) (Nat.le_of_ble_eq_true rfl) (Nat.le_refl _) (Nat.le_refl _) (c_Mod_within v 0 1 0 _) (fun r1 w1 hp => ?_) rfl rfl
    obtain ⟨rfl, hw1⟩ := hp
    rw [hw1]
    refine ⟨⟨Nat.le_refl _, Or.inl rfl⟩, ?_⟩
    refine z_if_ne (pc := 21) (tgt := 26) rfl (by decide) (fun h21 => ?_) (fun h21 => ?_)
    · refine z_aload_n (pc := 26) (i := 0) (j := 0) rfl rfl rfl ?_
      refine z_getR (pc := 27) (x := 67) rfl fl_Mod_78 hm.1 rfl (mr_67 hm) ?_
      refine z_sipush (pc := 30) (v := 138) rfl (by decide) ?_
      refine z_iald (pc := 33) rfl (mk_67 hm) (vp_in_nI (n := 138) (by decide) (by decide)) ?_
      refine z_eqi (y := zI w 67 138) (congrFun (F_f0.1 67 (by omega) (by decide) (by decide) (by decide)) 138) ?_
      refine z_iload_n (pc := 34) (i := 1) (j := 1) rfl rfl rfl ?_
      refine z_iadd (pc := 35) rfl ?_
      refine z_istore_n (pc := 36) (i := 3) (ls' := [(0, .ref 44), (1, .int b), (2, .int v), (3, .int ((zI w 67 138) + b))]) rfl rfl (by decide) rfl ?_
      refine z_iconst (pc := 37) (v := 0) rfl (by decide) ?_
      refine z_istore (pc := 38) (i := 4) (ls' := [(0, .ref 44), (1, .int b), (2, .int v), (3, .int ((zI w 67 138) + b)), (4, .int 0)]) rfl (by decide) rfl ?_
      refine z_iconst (pc := 40) (v := 0) rfl (by decide) ?_
      refine z_istore (pc := 41) (i := 5) (ls' := [(0, .ref 44), (1, .int b), (2, .int v), (3, .int ((zI w 67 138) + b)), (4, .int 0), (5, .int 0)]) rfl (by decide) rfl ?_
      refine z_iconst (pc := 43) (v := 1) rfl (by decide) ?_
      refine z_istore (pc := 44) (i := 6) (ls' := [(0, .ref 44), (1, .int b), (2, .int v), (3, .int ((zI w 67 138) + b)), (4, .int 0), (5, .int 0), (6, .int 1)]) rfl (by decide) rfl ?_
      refine zS_P ?_ (lO_Mod_feast hm hi b v (zI w 67 138 + b) d hd (2 ^ H - 1) 0 f0 (by omega) (by omega) F_f0)
      intro r1 w1 hp
      rw [if_neg h12, if_neg h21]
      exact hp
    · refine z_iconst (pc := 24) (v := (-1)) rfl (by decide) ?_
      exact z_iret (pc := 25) rfl rfl ⟨f0, rfl, by rw [if_neg h12, if_pos h21], F_f0⟩
