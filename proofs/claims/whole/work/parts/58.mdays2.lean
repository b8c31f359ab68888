set_option maxRecDepth 100000 in
set_option maxHeartbeats 4000000 in
theorem lC_Mod_days {w : zW} (hm : zMo w) {C R H : Nat} {V : Int32 → Int32} {G : Int32 → Int32 → Int32 → Int32} (hi : zMi (zI w) C R H V G) {P : Option Value → zW → Prop} (q : DQ) (hq67 : q.1 = zI w 67) (hqn : q.2.2.1 < 2 ^ 31) (a : Nat → Int32) (n : Nat) (hn : n ≤ 72) (y1 y2 y4 y6 : Int32) (d : Nat) (hd : 5 ≤ d) (kx : ∀ f : Nat → Nat → Int32, zFd w f (dayT (zI w) C R H V G q n).1 (dayT (zI w) C R H V G q n).2.1 a → zS 0 0 d m_Mod_days P 272 [(0, .ref 44), (1, .int y1), (2, .int y2), (3, .int (nI n)), (4, .int y4), (5, .int ((dayT (zI w) C R H V G q n).2.2.2.1)), (6, .int y6)] [] (zuI (zsL w 44 41 (lN (dayT (zI w) C R H V G q n).2.2.1)) f)) : ∀ (m i : Nat) (f : Nat → Nat → Int32), i ≤ n → n ≤ i + m → (zFd w f (dayT (zI w) C R H V G q i).1 (dayT (zI w) C R H V G q i).2.1 a) → zS 0 0 d m_Mod_days P 114 [(0, .ref 44), (1, .int y1), (2, .int y2), (3, .int (nI n)), (4, .int y4), (5, .int ((dayT (zI w) C R H V G q i).2.2.2.1)), (6, .int y6), (7, .int ((dayT (zI w) C R H V G q i).2.2.2.2)), (8, .int (nI i))] [] (zuI (zsL w 44 41 (lN (dayT (zI w) C R H V G q i).2.2.1)) f) := by
  have hex : ∀ f : Nat → Nat → Int32, (zFd w f (dayT (zI w) C R H V G q n).1 (dayT (zI w) C R H V G q n).2.1 a) → zS 0 0 d m_Mod_days P 114 [(0, .ref 44), (1, .int y1), (2, .int y2), (3, .int (nI n)), (4, .int y4), (5, .int ((dayT (zI w) C R H V G q n).2.2.2.1)), (6, .int y6), (7, .int ((dayT (zI w) C R H V G q n).2.2.2.2)), (8, .int (nI n))] [] (zuI (zsL w 44 41 (lN (dayT (zI w) C R H V G q n).2.2.1)) f) := by
    intro f hf
    refine z_iload (pc := 114) (i := 8) (j := 8) rfl rfl ?_
    refine z_iload_n (pc := 116) (i := 3) (j := 3) rfl rfl rfl ?_
    refine z_icmp_ge (pc := 117) (tgt := 272) rfl (by decide) (fun h117 => ?_) (fun h117 => ?_)
    · exact z_drop (by simp) (kx f hf)
    · exact absurd (Int32.le_refl _) h117
  intro m
  induction m with
  | zero =>
    intro i f hii hmm hf
    obtain rfl : i = n := by omega
    exact hex f hf
  | succ m ih =>
    intro i f hii hmm hf
    by_cases hlt : i < n
    · skip
      have hH8 := hi.2.2.2.2.2.1
      have hnn10 := dayT_n (f := zI w) (C := C) (R := R) (H := H) (V := V) (G := G) hqn i
      have hnn8 := nxN_lt (dayT (zI w) C R H V G q i).2.2.1
      refine z_iload (pc := 114) (i := 8) (j := 8) rfl rfl ?_
      refine z_iload_n (pc := 116) (i := 3) (j := 3) rfl rfl rfl ?_
      refine z_icmp_ge (pc := 117) (tgt := 272) rfl (by decide) (fun h117 => ?_) (fun h117 => ?_)
      · exact absurd h117 (nI_ge (b := n) hlt (by omega))
      · refine z_aload_n (pc := 120) (i := 0) (j := 0) rfl rfl rfl ?_
        refine z_getR (pc := 121) (x := 67) rfl fl_Mod_78 hm.1 rfl (mr_67 hm) ?_
        refine z_sipush (pc := 124) (v := 138) rfl (by decide) ?_
        refine z_iald (pc := 127) rfl (mk_67 hm) (vp_in_nI (n := 138) (by decide) (by decide)) ?_
        refine z_eqi (y := zI w 67 138) ((congrFun hf.2.1 138).trans ((dayT_64 hi.2.2.2.2.2.1 (by omega) i).trans (congrFun hq67 138))) ?_
        refine z_iload (pc := 128) (i := 8) (j := 8) rfl rfl ?_
        refine z_iadd (pc := 130) rfl ?_
        refine z_istore (pc := 131) (i := 9) (ls' := [(0, .ref 44), (1, .int y1), (2, .int y2), (3, .int (nI n)), (4, .int y4), (5, .int ((dayT (zI w) C R H V G q i).2.2.2.1)), (6, .int y6), (7, .int ((dayT (zI w) C R H V G q i).2.2.2.2)), (8, .int (nI i)), (9, .int ((zI w 67 138) + (nI i)))]) rfl (by decide) rfl ?_
        refine z_aload_n (pc := 133) (i := 0) (j := 0) rfl rfl rfl ?_
        refine z_bipush (pc := 134) (v := 10) rfl (by decide) ?_
        refine z_cV (pc := 136) (mc1 := 0) (ms1 := 0) (mc2 := 0) (ms2 := 0) (as := [.int (nI 10)]) (rest := []) (o := 44) rfl rfl hm.1 ok_Mod_draws rfl rfl cl_Mod_353 (by omega) (Nat.le_of_ble_eq_true rfl) (Nat.le_of_ble_eq_true rfl) (Nat.le_refl _) (Nat.le_refl _) (c_Mod_draws (w := zuI (zsL w 44 41 (lN (dayT (zI w) C R H V G q i).2.2.1)) f) hm (n := (dayT (zI w) C R H V G q i).2.2.1) (m := 10) hnn10 (zL_hit w 44 41 _) (by decide) (by decide) 0) (fun r1 w1 hp => ?_) rfl rfl
        obtain ⟨rfl, hw1⟩ := hp
        rw [hw1, dz_over]
        refine ⟨⟨Nat.le_refl _, Or.inl rfl⟩, ?_⟩
        refine z_aload_n (pc := 139) (i := 0) (j := 0) rfl rfl rfl ?_
        refine z_getR (pc := 140) (x := 46) rfl fl_Mod_13 hm.1 rfl (mr_46 hm) ?_
        refine z_iconst (pc := 143) (v := 3) rfl (by decide) ?_
        refine z_iald (pc := 144) rfl (mk_46 hm) (vp_in_nI (n := 3) (by decide) (by decide)) ?_
        refine z_eqi (y := zI w 46 3) (congrFun (hf.1 46 (by omega) (by decide) (by decide) (by decide) (by decide) (by decide)) 3) ?_
        have j163 : ∀ (g : Nat → Nat → Int32) (yv n2 : Nat), (yv, n2) = (dyv (zI w) V i (dayT (zI w) C R H V G q i).2.2.1) → zFd w g (dayT (zI w) C R H V G q i).1 (dayT (zI w) C R H V G q i).2.1 a → zS 0 0 d m_Mod_days P 163 [(0, .ref 44), (1, .int y1), (2, .int y2), (3, .int (nI n)), (4, .int y4), (5, .int ((dayT (zI w) C R H V G q i).2.2.2.1)), (6, .int y6), (7, .int ((dayT (zI w) C R H V G q i).2.2.2.2)), (8, .int (nI i)), (9, .int (zI w 67 138 + nI i))] [.int (nI yv)] (zuI (zsL w 44 41 (lN n2)) g) := by
          intro g yv n2 hd2 hg
          have hy : yv < 8 := by have := dyv_lt (zI w) V i (dayT (zI w) C R H V G q i).2.2.1; rw [← hd2] at this; exact this
          refine z_istore (pc := 163) (i := 10) (ls' := [(0, .ref 44), (1, .int y1), (2, .int y2), (3, .int (nI n)), (4, .int y4), (5, .int ((dayT (zI w) C R H V G q i).2.2.2.1)), (6, .int y6), (7, .int ((dayT (zI w) C R H V G q i).2.2.2.2)), (8, .int (nI i)), (9, .int (zI w 67 138 + nI i)), (10, .int (nI yv))]) rfl (by decide) rfl ?_
          refine z_aload_n (pc := 165) (i := 0) (j := 0) rfl rfl rfl ?_
          refine z_aload_n (pc := 166) (i := 0) (j := 0) rfl rfl rfl ?_
          refine z_getR (pc := 167) (x := 67) rfl fl_Mod_78 hm.1 rfl (mr_67 hm) ?_
          refine z_sipush (pc := 170) (v := 136) rfl (by decide) ?_
          refine z_iald (pc := 173) rfl (mk_67 hm) (vp_in_nI (n := 136) (by decide) (by decide)) ?_
          refine z_eqi (y := zI w 67 136) ((congrFun hg.2.1 136).trans ((dayT_64 hi.2.2.2.2.2.1 (by omega) i).trans (congrFun hq67 136))) ?_
          refine z_iload (pc := 174) (i := 9) (j := 9) rfl rfl ?_
          refine z_iload (pc := 176) (i := 10) (j := 10) rfl rfl ?_
          refine z_cV (pc := 178) (mc1 := 0) (ms1 := 0) (mc2 := 0) (ms2 := 0) (as := [.int (zI w 67 136), .int (zI w 67 138 + nI i), .int (nI yv)]) (rest := []) (o := 44) rfl rfl hm.1 ok_Mod_smokes rfl rfl cl_Mod_310 (by omega) (Nat.le_of_ble_eq_true rfl) (Nat.le_of_ble_eq_true rfl) (Nat.le_refl _) (Nat.le_refl _) (c_Mod_smokes (w := zuI (zsL w 44 41 (lN n2)) g) hm (zFd_i hg hi).1 (zFd_i hg hi).2.1 (zFd_i hg hi).2.2.1 hi.2.2.2.1 hi.2.2.2.2.1 hi.2.2.2.2.2.1 (G := G) (zFd_i hg hi).2.2.2.2.2.2.2 (yv := yv) hy (zI w 67 136) (zI w 67 138 + nI i) 4 (by decide)) (fun r1 w1 hp => ?_) rfl rfl
          obtain ⟨g2, hw1, rfl, -, h71, hn2⟩ := hp
          rw [hw1]
          refine ⟨⟨Nat.le_refl _, Or.inl rfl⟩, ?_⟩
          have G2 := zFd_s hg hn2
          have m2 : ∀ b, b < H → g2 71 b = mset (zI w) C R yv G (zI w 67 138 + nI i) (burnR (zI w 67)) H b := fun b hb => (congrFun h71 b).trans ((metM_set _ _ _ _ _ _ _ hi.2.2.2.2.2.1 hb).trans (by rw [mset_c (f := zI w) (g := zI (zuI (zsL w 44 41 (lN n2)) g)) (hg.1 48 (by omega) (by decide) (by decide) (by decide) (by decide) (by decide)) (hg.1 49 (by omega) (by decide) (by decide) (by decide) (by decide) (by decide)) (hg.1 50 (by omega) (by decide) (by decide) (by decide) (by decide) (by decide)) (hg.1 51 (by omega) (by decide) (by decide) (by decide) (by decide) (by decide)), show zI (zuI (zsL w 44 41 (lN n2)) g) 67 137 = zI w 67 137 from ((congrFun hg.2.1 137).trans ((dayT_64 hi.2.2.2.2.2.1 (by omega) i).trans (congrFun hq67 137)))]; rfl))
          refine z_aload_n (pc := 181) (i := 0) (j := 0) rfl rfl rfl ?_
          refine z_iload (pc := 182) (i := 7) (j := 7) rfl rfl ?_
          have j201 : ∀ tt : Int32, (tt = turnM (dayT (zI w) C R H V G q i).2.2.2.2 yv) → zS 0 0 d m_Mod_days P 201 [(0, .ref 44), (1, .int y1), (2, .int y2), (3, .int (nI n)), (4, .int y4), (5, .int ((dayT (zI w) C R H V G q i).2.2.2.1)), (6, .int y6), (7, .int ((dayT (zI w) C R H V G q i).2.2.2.2)), (8, .int (nI i)), (9, .int (zI w 67 138 + nI i)), (10, .int (nI yv))] [.int tt, .ref 44] (zuI (zsL w 44 41 (lN n2)) g2) := by
            intro tt h_j201
            refine z_iconst (pc := 201) (v := 0) rfl (by decide) ?_
            refine z_cV (pc := 202) (mc1 := 0) (ms1 := 0) (mc2 := 0) (ms2 := 0) (as := [.int tt, .int 0]) (rest := []) (o := 44) rfl rfl hm.1 ok_Mod_weds rfl rfl cl_Mod_317 (by omega) (Nat.le_of_ble_eq_true rfl) (Nat.le_of_ble_eq_true rfl) (Nat.le_refl _) (Nat.le_refl _) (c_Mod_weds (w := zuI (zsL w 44 41 (lN n2)) g2) hm (zFd_i G2 hi).2.2.1 hi.2.2.2.2.2.1 tt 0 0) (fun r1 w1 hp => ?_) rfl rfl
            obtain ⟨g3, hw1, rfl, h67, h40, hn3, hk3⟩ := hp
            rw [hw1]
            refine ⟨⟨Nat.le_refl _, Or.inl rfl⟩, ?_⟩
            have eW : wedA tt 0 (zI (zuI (zsL w 44 41 (lN n2)) g2) 71) H (zI (zuI (zsL w 44 41 (lN n2)) g2) 67, zI (zuI (zsL w 44 41 (lN n2)) g2) 44 40) H = dayW (zI w) C R H V G i (dayT (zI w) C R H V G q i) := by
              rw [wedA_m _ _ (m := zI (zuI (zsL w 44 41 (lN n2)) g2) 71) m2 _ H (Nat.le_refl _), show zI (zuI (zsL w 44 41 (lN n2)) g2) 67 = _ from G2.2.1, show zI (zuI (zsL w 44 41 (lN n2)) g2) 44 40 = _ from G2.2.2.1]
              unfold dayW
              rw [← hd2, ← h_j201]
            rw [eW] at h67 h40
            have G3 : zFd w g3 (dayW (zI w) C R H V G i (dayT (zI w) C R H V G q i)).1 (dayW (zI w) C R H V G i (dayT (zI w) C R H V G q i)).2 a := ⟨fun o h1 h2 h3 h4 h5 h6 => (hn3 o h2 h3).trans (G2.1 o h1 h2 h3 h4 h5 h6), h67, h40, (hn3 69 (by decide) (by decide)).trans G2.2.2.2.1, fun k h1 h2 => (hk3 k h2).trans (G2.2.2.2.2.1 k h1 h2), (hk3 0 (by decide)).trans G2.2.2.2.2.2⟩
            refine z_iconst (pc := 205) (v := 1) rfl (by decide) ?_
            refine z_iload (pc := 206) (i := 10) (j := 10) rfl rfl ?_
            refine z_iadd (pc := 208) rfl ?_
            refine z_istore (pc := 209) (i := 7) (ls' := [(0, .ref 44), (1, .int y1), (2, .int y2), (3, .int (nI n)), (4, .int y4), (5, .int ((dayT (zI w) C R H V G q i).2.2.2.1)), (6, .int y6), (7, .int (1 + (nI yv))), (8, .int (nI i)), (9, .int (zI w 67 138 + nI i)), (10, .int (nI yv))]) rfl (by decide) rfl ?_
            refine z_iconst (pc := 211) (v := 0) rfl (by decide) ?_
            refine z_istore (pc := 212) (i := 11) (ls' := [(0, .ref 44), (1, .int y1), (2, .int y2), (3, .int (nI n)), (4, .int y4), (5, .int ((dayT (zI w) C R H V G q i).2.2.2.1)), (6, .int y6), (7, .int (1 + (nI yv))), (8, .int (nI i)), (9, .int (zI w 67 138 + nI i)), (10, .int (nI yv)), (11, .int 0)]) rfl (by decide) rfl ?_
            refine z_iconst (pc := 214) (v := 0) rfl (by decide) ?_
            refine z_istore (pc := 215) (i := 12) (ls' := [(0, .ref 44), (1, .int y1), (2, .int y2), (3, .int (nI n)), (4, .int y4), (5, .int ((dayT (zI w) C R H V G q i).2.2.2.1)), (6, .int y6), (7, .int (1 + (nI yv))), (8, .int (nI i)), (9, .int (zI w 67 138 + nI i)), (10, .int (nI yv)), (11, .int 0), (12, .int 0)]) rfl (by decide) rfl ?_
            refine z_drop (ls' := [(0, .ref 44), (1, .int y1), (2, .int y2), (3, .int (nI n)), (4, .int y4), (5, .int ((dayT (zI w) C R H V G q i).2.2.2.1)), (6, .int y6), (7, .int (1 + (nI yv))), (8, .int (nI i)), (11, .int 0), (12, .int (nI 0))]) (by simp [nI_0]) ?_
            refine lD_Mod_days (w := zsL w 44 41 (lN n2)) hm g3 (H := H) (zFd_i G3 hi).2.2.1 hi.2.2.2.2.2.1 _ _ _ _ _ _ _ _ d (by omega) ?_ H 0 (by omega) (by omega)
            rw [h67]
            refine z_iload (pc := 257) (i := 5) (j := 5) rfl rfl ?_
            refine z_iload (pc := 259) (i := 11) (j := 9) rfl rfl ?_
            refine z_mmax (pc := 261) rfl ml_Mod_356 (by omega) (Nat.le_of_ble_eq_true rfl) ?_
            refine z_istore (pc := 264) (i := 5) (ls' := [(0, .ref 44), (1, .int y1), (2, .int y2), (3, .int (nI n)), (4, .int y4), (5, .int (if (dayT (zI w) C R H V G q i).2.2.2.1 < rsum (oftM (dayW (zI w) C R H V G i (dayT (zI w) C R H V G q i)).1) H then rsum (oftM (dayW (zI w) C R H V G i (dayT (zI w) C R H V G q i)).1) H else (dayT (zI w) C R H V G q i).2.2.2.1)), (6, .int y6), (7, .int (1 + nI yv)), (8, .int (nI i)), (11, .int (rsum (oftM (dayW (zI w) C R H V G i (dayT (zI w) C R H V G q i)).1) H))]) rfl (by decide) rfl ?_
            refine z_iinc (pc := 266) (i := 8) (j := 8) (v := nI (i + 1)) (ls' := [(0, .ref 44), (1, .int y1), (2, .int y2), (3, .int (nI n)), (4, .int y4), (5, .int (if (dayT (zI w) C R H V G q i).2.2.2.1 < rsum (oftM (dayW (zI w) C R H V G i (dayT (zI w) C R H V G q i)).1) H then rsum (oftM (dayW (zI w) C R H V G i (dayT (zI w) C R H V G q i)).1) H else (dayT (zI w) C R H V G q i).2.2.2.1)), (6, .int y6), (7, .int (1 + nI yv)), (8, .int (nI (i + 1))), (11, .int (rsum (oftM (dayW (zI w) C R H V G i (dayT (zI w) C R H V G q i)).1) H))]) rfl rfl (nI_1 i) (by decide) rfl ?_
            refine z_goto (pc := 269) (tgt := 114) rfl (by decide) ?_
            have hS : dayT (zI w) C R H V G q (i + 1) = ((dayW (zI w) C R H V G i (dayT (zI w) C R H V G q i)).1, (dayW (zI w) C R H V G i (dayT (zI w) C R H V G q i)).2, n2, if (dayT (zI w) C R H V G q i).2.2.2.1 < rsum (oftM (dayW (zI w) C R H V G i (dayT (zI w) C R H V G q i)).1) H then rsum (oftM (dayW (zI w) C R H V G i (dayT (zI w) C R H V G q i)).1) H else (dayT (zI w) C R H V G q i).2.2.2.1, 1 + nI yv) := by
              rw [dayT_s]
              unfold dayS
              rw [← hd2]
            have kk := ih (i + 1) g3 (by omega) (by omega) (by rw [hS]; exact G3)
            rw [hS] at kk
            refine z_drop ?_ kk
            simp
          refine z_if_le (pc := 184) (tgt := 200) rfl (by decide) (fun h184 => ?_) (fun h184 => ?_)
          · refine z_iconst (pc := 200) (v := 0) rfl (by decide) ?_
            exact j201 _ (by unfold turnM; rw [if_pos h184])
          · refine z_iload (pc := 187) (i := 7) (j := 7) rfl rfl ?_
            refine z_iconst (pc := 189) (v := 1) rfl (by decide) ?_
            refine z_iload (pc := 190) (i := 10) (j := 10) rfl rfl ?_
            refine z_iadd (pc := 192) rfl ?_
            refine z_icmp_eq (pc := 193) (tgt := 200) rfl (by decide) (fun h193 => ?_) (fun h193 => ?_)
            · refine z_iconst (pc := 200) (v := 0) rfl (by decide) ?_
              exact j201 _ (by unfold turnM; rw [if_neg h184, if_pos h193])
            · refine z_iconst (pc := 196) (v := 1) rfl (by decide) ?_
              refine z_goto (pc := 197) (tgt := 201) rfl (by decide) ?_
              exact j201 _ (by unfold turnM; rw [if_neg h184, if_neg h193])
        refine z_icmp_ge (pc := 145) (tgt := 157) rfl (by decide) (fun h145 => ?_) (fun h145 => ?_)
        · refine z_aload_n (pc := 157) (i := 0) (j := 0) rfl rfl rfl ?_
          refine z_iload (pc := 158) (i := 9) (j := 9) rfl rfl ?_
          refine z_cV (pc := 160) (mc1 := 0) (ms1 := 0) (mc2 := 0) (ms2 := 0) (as := [.int ((zI w 67 138) + (nI i))]) (rest := []) (o := 44) rfl rfl hm.1 ok_Mod_windAt rfl rfl cl_Mod_307 (by omega) (Nat.le_of_ble_eq_true rfl) (Nat.le_of_ble_eq_true rfl) (Nat.le_refl _) (Nat.le_refl _) (c_Mod_windAt (w := zuI (zsL w 44 41 (lN (nxN (dayT (zI w) C R H V G q i).2.2.1))) f) hm (zFd_i hf hi).2.2.2.2.2.2.1 (zI w 67 138 + nI i) 3 (by decide)) (fun r1 w1 hp => ?_) rfl rfl
          obtain ⟨f1, hw1, rfl, hn1⟩ := hp
          rw [hw1, yvO_eq]
          refine ⟨⟨Nat.le_refl _, Or.inl rfl⟩, ?_⟩
          have F1 := zFd_w hf hn1
          exact j163 f1 _ _ (by unfold dyv; rw [if_pos h145]) F1
        · refine z_aload_n (pc := 148) (i := 0) (j := 0) rfl rfl rfl ?_
          refine z_bipush (pc := 149) (v := 8) rfl (by decide) ?_
          refine z_cV (pc := 151) (mc1 := 0) (ms1 := 0) (mc2 := 0) (ms2 := 0) (as := [.int (nI 8)]) (rest := []) (o := 44) rfl rfl hm.1 ok_Mod_draws rfl rfl cl_Mod_353 (by omega) (Nat.le_of_ble_eq_true rfl) (Nat.le_of_ble_eq_true rfl) (Nat.le_refl _) (Nat.le_refl _) (c_Mod_draws (w := zuI (zsL w 44 41 (lN (nxN (dayT (zI w) C R H V G q i).2.2.1))) f) hm (n := nxN (dayT (zI w) C R H V G q i).2.2.1) (m := 8) hnn8 (zL_hit w 44 41 _) (by decide) (by decide) 0) (fun r1 w1 hp => ?_) rfl rfl
          obtain ⟨rfl, hw1⟩ := hp
          rw [hw1, dz_over]
          refine ⟨⟨Nat.le_refl _, Or.inl rfl⟩, ?_⟩
          refine z_goto (pc := 154) (tgt := 163) rfl (by decide) ?_
          exact j163 f _ _ (by unfold dyv; rw [if_neg h145]) hf
    · obtain rfl : i = n := by omega
      exact hex f hf
theorem dayR_n {f : Nat → Nat → Int32} {C R H : Nat} {V : Int32 → Int32} {G : Int32 → Int32 → Int32 → Int32} {hs sd : Nat} (h : sd < 2 ^ 31) : ∀ r, (dayR f C R H V G hs sd r).2.1 < 2 ^ 31
  | 0 => h
  | r + 1 => dayT_n (q := (f 67, (dayR f C R H V G hs sd r).1, (dayR f C R H V G hs sd r).2.1, (dayR f C R H V G hs sd r).2.2, f 67 139)) (dayR_n h r) hs
theorem fill_64 {r t a : Nat → Int32} (h : ∀ k, 64 ≤ k → t k = r k) : fa_fill (fa_fill r a 64) t 64 = r := by
  funext k
  by_cases hk : k < 64
  · rw [fa_fill_in hk, fa_fill_in hk]
  · rw [fa_fill_out (by omega)]; exact h k (by omega)
set_option maxRecDepth 100000 in
set_option maxHeartbeats 4000000 in
theorem lB_Mod_days {w : zW} (hm : zMo w) {C R H : Nat} {V : Int32 → Int32} {G : Int32 → Int32 → Int32 → Int32} (hi : zMi (zI w) C R H V G) (hs rn sd : Nat) (hhs : hs ≤ 72) (hrn : rn ≤ 20) (hsd : sd < 2 ^ 31) (y1 y4 : Int32) (d : Nat) (hd : 5 ≤ d) : ∀ (m i : Nat) (f : Nat → Nat → Int32), i ≤ rn → rn ≤ i + m → (zFd w f (zI w 67) (dayR (zI w) C R H V G hs sd i).1 (fa_fill (zI w 67) (zI w 69) 64)) → zS 0 0 d m_Mod_days (fun rv w1 => ∃ f, w1 = zuI (zsL w 44 41 (lN (dayR (zI w) C R H V G hs sd rn).2.1)) f ∧ rv = some (.int (if y4 = 0 then (dayR (zI w) C R H V G hs sd rn).1 else (dayR (zI w) C R H V G hs sd rn).2.2)) ∧ zFd w f (zI w 67) (dayR (zI w) C R H V G hs sd rn).1 (fa_fill (zI w 67) (zI w 69) 64)) 95 [(0, .ref 44), (1, .int y1), (2, .int (nI rn)), (3, .int (nI hs)), (4, .int y4), (5, .int ((dayR (zI w) C R H V G hs sd i).2.2)), (6, .int (nI i))] [] (zuI (zsL w 44 41 (lN (dayR (zI w) C R H V G hs sd i).2.1)) f) := by
  have hex : ∀ f : Nat → Nat → Int32, (zFd w f (zI w 67) (dayR (zI w) C R H V G hs sd rn).1 (fa_fill (zI w 67) (zI w 69) 64)) → zS 0 0 d m_Mod_days (fun rv w1 => ∃ f, w1 = zuI (zsL w 44 41 (lN (dayR (zI w) C R H V G hs sd rn).2.1)) f ∧ rv = some (.int (if y4 = 0 then (dayR (zI w) C R H V G hs sd rn).1 else (dayR (zI w) C R H V G hs sd rn).2.2)) ∧ zFd w f (zI w 67) (dayR (zI w) C R H V G hs sd rn).1 (fa_fill (zI w 67) (zI w 69) 64)) 95 [(0, .ref 44), (1, .int y1), (2, .int (nI rn)), (3, .int (nI hs)), (4, .int y4), (5, .int ((dayR (zI w) C R H V G hs sd rn).2.2)), (6, .int (nI rn))] [] (zuI (zsL w 44 41 (lN (dayR (zI w) C R H V G hs sd rn).2.1)) f) := by
    intro f hf
    refine z_iload (pc := 95) (i := 6) (j := 6) rfl rfl ?_
    refine z_iload_n (pc := 97) (i := 2) (j := 2) rfl rfl rfl ?_
    refine z_icmp_ge (pc := 98) (tgt := 308) rfl (by decide) (fun h98 => ?_) (fun h98 => ?_)
    · refine z_iload (pc := 308) (i := 4) (j := 4) rfl rfl ?_
      have j322 : ∀ u : Int32, (u = (if y4 = 0 then (dayR (zI w) C R H V G hs sd rn).1 else (dayR (zI w) C R H V G hs sd rn).2.2)) → zS 0 0 d m_Mod_days (fun rv w1 => ∃ f, w1 = zuI (zsL w 44 41 (lN (dayR (zI w) C R H V G hs sd rn).2.1)) f ∧ rv = some (.int (if y4 = 0 then (dayR (zI w) C R H V G hs sd rn).1 else (dayR (zI w) C R H V G hs sd rn).2.2)) ∧ zFd w f (zI w 67) (dayR (zI w) C R H V G hs sd rn).1 (fa_fill (zI w 67) (zI w 69) 64)) 322 [(0, .ref 44), (1, .int y1), (2, .int (nI rn)), (3, .int (nI hs)), (4, .int y4), (5, .int ((dayR (zI w) C R H V G hs sd rn).2.2)), (6, .int (nI rn))] [.int u] (zuI (zsL w 44 41 (lN (dayR (zI w) C R H V G hs sd rn).2.1)) f) := by
        intro u h_j322
        exact z_iret (pc := 322) rfl rfl ⟨f, rfl, by rw [h_j322], hf⟩
      refine z_if_ne (pc := 310) (tgt := 320) rfl (by decide) (fun h310 => ?_) (fun h310 => ?_)
      · refine z_iload (pc := 320) (i := 5) (j := 5) rfl rfl ?_
        exact j322 _ (by rw [if_neg h310] <;> rfl)
      · refine z_aload_n (pc := 313) (i := 0) (j := 0) rfl rfl rfl ?_
        refine z_getI (pc := 314) rfl fl_Mod_314 hm.1 rfl ?_
        refine z_eqi (y := (dayR (zI w) C R H V G hs sd rn).1) hf.2.2.1 ?_
        refine z_goto (pc := 317) (tgt := 322) rfl (by decide) ?_
        exact j322 _ (by rw [if_pos h310] <;> rfl)
    · exact absurd (Int32.le_refl _) h98
  intro m
  induction m with
  | zero =>
    intro i f hii hmm hf
    obtain rfl : i = rn := by omega
    exact hex f hf
  | succ m ih =>
    intro i f hii hmm hf
    by_cases hlt : i < rn
    · skip
      refine z_iload (pc := 95) (i := 6) (j := 6) rfl rfl ?_
      refine z_iload_n (pc := 97) (i := 2) (j := 2) rfl rfl rfl ?_
      refine z_icmp_ge (pc := 98) (tgt := 308) rfl (by decide) (fun h98 => ?_) (fun h98 => ?_)
      · exact absurd h98 (nI_ge (b := rn) hlt (by omega))
      · refine z_aload_n (pc := 101) (i := 0) (j := 0) rfl rfl rfl ?_
        refine z_getR (pc := 102) (x := 67) rfl fl_Mod_78 hm.1 rfl (mr_67 hm) ?_
        refine z_sipush (pc := 105) (v := 139) rfl (by decide) ?_
        refine z_iald (pc := 108) rfl (mk_67 hm) (vp_in_nI (n := 139) (by decide) (by decide)) ?_
        refine z_eqi (y := zI w 67 139) (congrFun hf.2.1 139) ?_
        refine z_istore (pc := 109) (i := 7) (ls' := [(0, .ref 44), (1, .int y1), (2, .int (nI rn)), (3, .int (nI hs)), (4, .int y4), (5, .int ((dayR (zI w) C R H V G hs sd i).2.2)), (6, .int (nI i)), (7, .int (zI w 67 139))]) rfl (by decide) rfl ?_
        refine z_iconst (pc := 111) (v := 0) rfl (by decide) ?_
        refine z_istore (pc := 112) (i := 8) (ls' := [(0, .ref 44), (1, .int y1), (2, .int (nI rn)), (3, .int (nI hs)), (4, .int y4), (5, .int ((dayR (zI w) C R H V G hs sd i).2.2)), (6, .int (nI i)), (7, .int (zI w 67 139)), (8, .int 0)]) rfl (by decide) rfl ?_
        refine lC_Mod_days hm hi (zI w 67, (dayR (zI w) C R H V G hs sd i).1, (dayR (zI w) C R H V G hs sd i).2.1, (dayR (zI w) C R H V G hs sd i).2.2, zI w 67 139) rfl (dayR_n hsd i) (fa_fill (zI w 67) (zI w 69) 64) hs hhs y1 (nI rn) y4 (nI i) d hd ?_ hs 0 f (by omega) (by omega) hf
        intro g hg
        refine z_iconst (pc := 272) (v := nI 0) rfl rfl ?_
        refine z_istore (pc := 273) (i := 8) (ls' := [(0, .ref 44), (1, .int y1), (2, .int (nI rn)), (3, .int (nI hs)), (4, .int y4), (5, .int ((dayT (zI w) C R H V G (zI w 67, (dayR (zI w) C R H V G hs sd i).1, (dayR (zI w) C R H V G hs sd i).2.1, (dayR (zI w) C R H V G hs sd i).2.2, zI w 67 139) hs).2.2.2.1)), (6, .int (nI i)), (8, .int (nI 0))]) rfl (by decide) rfl ?_
        have l := lE_Mod_days (w := zsL w 44 41 (lN (dayT (zI w) C R H V G (zI w 67, (dayR (zI w) C R H V G hs sd i).1, (dayR (zI w) C R H V G hs sd i).2.1, (dayR (zI w) C R H V G hs sd i).2.2, zI w 67 139) hs).2.2.1)) hm (P := (fun rv w1 => ∃ f, w1 = zuI (zsL w 44 41 (lN (dayR (zI w) C R H V G hs sd rn).2.1)) f ∧ rv = some (.int (if y4 = 0 then (dayR (zI w) C R H V G hs sd rn).1 else (dayR (zI w) C R H V G hs sd rn).2.2)) ∧ zFd w f (zI w 67) (dayR (zI w) C R H V G hs sd rn).1 (fa_fill (zI w 67) (zI w 69) 64))) g y1 (nI rn) (nI hs) y4 (dayT (zI w) C R H V G (zI w 67, (dayR (zI w) C R H V G hs sd i).1, (dayR (zI w) C R H V G hs sd i).2.1, (dayR (zI w) C R H V G hs sd i).2.2, zI w 67 139) hs).2.2.2.1 (nI i) d ?_ 64 0 (by omega) (by omega)
        · rw [fa_fill_0, zr_self] at l
          exact l
        refine z_iinc (pc := 302) (i := 6) (j := 6) (v := nI (i + 1)) (ls' := [(0, .ref 44), (1, .int y1), (2, .int (nI rn)), (3, .int (nI hs)), (4, .int y4), (5, .int ((dayT (zI w) C R H V G (zI w 67, (dayR (zI w) C R H V G hs sd i).1, (dayR (zI w) C R H V G hs sd i).2.1, (dayR (zI w) C R H V G hs sd i).2.2, zI w 67 139) hs).2.2.2.1)), (6, .int (nI (i + 1)))]) rfl rfl (nI_1 i) (by decide) rfl ?_
        refine z_goto (pc := 305) (tgt := 95) rfl (by decide) ?_
        refine ih (i + 1) _ (by omega) (by omega) ⟨fun o h1 h2 h3 h4 h5 h6 => (zr_o g (o := 67) (a := o) _ h3).trans (hg.1 o h1 h2 h3 h4 h5 h6), ?_, (congrFun (zr_o g (o := 67) (a := 44) _ (by decide)) 40).trans hg.2.2.1, (zr_o g (o := 67) (a := 69) _ (by decide)).trans hg.2.2.2.1, fun k h1 h2 => (congrFun (zr_o g (o := 67) (a := 44) _ (by decide)) k).trans (hg.2.2.2.2.1 k h1 h2), (congrFun (zr_o g (o := 67) (a := 44) _ (by decide)) 0).trans hg.2.2.2.2.2⟩
        rw [zr_h, hg.2.2.2.1, hg.2.1]
        exact fill_64 (fun k hk => dayT_64 hi.2.2.2.2.2.1 hk hs)
    · obtain rfl : i = rn := by omega
      exact hex f hf
theorem zsL_same (w : zW) (o k : Nat) : zsL w o k (zL w o k) = w := by
  unfold zsL
  have : z2 (zL w) o k (zL w o k) = zL w := by
    funext a b
    unfold z2
    by_cases h : a = o ∧ b = k
    · rw [if_pos h, h.1, h.2]
    · rw [if_neg h]
  rw [this]
set_option maxRecDepth 100000 in
set_option maxHeartbeats 4000000 in
theorem c_Mod_days {w : zW} (hm : zMo w) {C R H : Nat} {V : Int32 → Int32} {G : Int32 → Int32 → Int32 → Int32} (hi : zMi (zI w) C R H V G) (x1 x2 x3 x4 : Int32) (d : Nat) (hd : 5 ≤ d) : zS 0 0 d m_Mod_days (fun rv w1 => ∃ g f, w1 = zuI (zsL w 44 41 g) f ∧ rv = some (.int (if (if x1 < 0 then 0 else if 9999 < x1 then 0 else 1 : Int32) = 0 then -1 else if (if x2 < 1 then 0 else if 20 < x2 then 0 else 1 : Int32) = 0 then -1 else if (if x3 < 1 then 0 else if 72 < x3 then 0 else 1 : Int32) = 0 then -1 else if (if x4 < 0 then 0 else if 1 < x4 then 0 else 1 : Int32) = 0 then -1 else if x4 = 0 then (dayR (zI w) C R H V G x3.toNatClampNeg x1.toNatClampNeg x2.toNatClampNeg).1 else (dayR (zI w) C R H V G x3.toNatClampNeg x1.toNatClampNeg x2.toNatClampNeg).2.2)) ∧ f 67 = zI w 67 ∧ (∀ o, (o < 57 ∨ 66 < o) → o ≠ 44 → o ≠ 67 → o ≠ 69 → o ≠ 70 → o ≠ 71 → f o = zI w o) ∧ (∀ k, k ≠ 0 → k ≠ 40 → f 44 k = zI w 44 k) ∧ f 44 0 = 0) 0 [(0, .ref 44), (1, .int x1), (2, .int x2), (3, .int x3), (4, .int x4)] [] w := by
  refine z_aload_n (pc := 0) (i := 0) (j := 0) rfl rfl rfl ?_
  refine z_iconst (pc := 1) (v := 0) rfl (by decide) ?_
  refine z_putI (pc := 2) rfl fl_Mod_100 hm.1 rfl  ?_
  change zS _ _ _ _ _ _ _ _ (zuI w (z2 (zI w) 44 0 0))
  obtain ⟨f0, hf0⟩ : ∃ f0, f0 = z2 (zI w) 44 0 0 := ⟨_, rfl⟩
  rw [← hf0]
  have F_f0 : zFr w f0 := hf0 ▸ zFr_0 w
  refine z_iload_n (pc := 5) (i := 1) (j := 1) rfl rfl rfl ?_
  refine z_iconst (pc := 6) (v := 0) rfl (by decide) ?_
  refine z_sipush (pc := 7) (v := 9999) rfl (by decide) ?_
  refine z_cS (pc := 10) (mc1 := 0) (ms1 := 0) (mc2 := 0) (ms2 := 0) (as := [.int x1, .int 0, .int 9999]) (rest := []) ok_Mod_within rfl rfl cl_Mod_214 (by omega) (Nat.le_of_ble_eq_true rfl) (Nat.le_of_ble_eq_true rfl) (Nat.le_refl _) (Nat.le_refl _) (c_Mod_within x1 0 9999 0 _) (fun r1 w1 hp => ?_) rfl rfl
  obtain ⟨rfl, hw1⟩ := hp
  rw [hw1]
  refine ⟨⟨Nat.le_refl _, Or.inl rfl⟩, ?_⟩
  refine z_if_eq (pc := 13) (tgt := 46) rfl (by decide) (fun h13 => ?_) (fun h13 => ?_)
  · refine z_iconst (pc := 46) (v := (-1)) rfl (by decide) ?_
    exact z_iret (pc := 47) rfl rfl ⟨zL w 44 41, f0, by rw [zsL_same], by rw [if_pos h13], F_f0.1 67 (by omega) (by decide) (by decide) (by decide), fun o h1 h2 _ _ h5 h6 => F_f0.1 o h1 h2 h5 h6, fun k h1 _ => F_f0.2.1 k h1, F_f0.2.2⟩
  · refine z_iload_n (pc := 16) (i := 2) (j := 2) rfl rfl rfl ?_
    refine z_iconst (pc := 17) (v := 1) rfl (by decide) ?_
    refine z_bipush (pc := 18) (v := 20) rfl (by decide) ?_
    refine z_cS (pc := 20) (mc1 := 0) (ms1 := 0) (mc2 := 0) (ms2 := 0) (as := [.int x2, .int 1, .int 20]) (rest := []) ok_Mod_within rfl rfl cl_Mod_214 (by omega) (Nat.le_of_ble_eq_true rfl) (Nat.le_of_ble_eq_true rfl) (Nat.le_refl _) (Nat.le_refl _) (c_Mod_within x2 1 20 0 _) (fun r1 w1 hp => ?_) rfl rfl
    obtain ⟨rfl, hw1⟩ := hp
    rw [hw1]
    refine ⟨⟨Nat.le_refl _, Or.inl rfl⟩, ?_⟩
    refine z_if_eq (pc := 23) (tgt := 46) rfl (by decide) (fun h23 => ?_) (fun h23 => ?_)
    · refine z_iconst (pc := 46) (v := (-1)) rfl (by decide) ?_
      exact z_iret (pc := 47) rfl rfl ⟨zL w 44 41, f0, by rw [zsL_same], by rw [if_neg h13, if_pos h23], F_f0.1 67 (by omega) (by decide) (by decide) (by decide), fun o h1 h2 _ _ h5 h6 => F_f0.1 o h1 h2 h5 h6, fun k h1 _ => F_f0.2.1 k h1, F_f0.2.2⟩
    · refine z_iload_n (pc := 26) (i := 3) (j := 3) rfl rfl rfl ?_
      refine z_iconst (pc := 27) (v := 1) rfl (by decide) ?_
      refine z_bipush (pc := 28) (v := 72) rfl (by decide) ?_
      refine z_cS (pc := 30) (mc1 := 0) (ms1 := 0) (mc2 := 0) (ms2 := 0) (as := [.int x3, .int 1, .int 72]) (rest := []) ok_Mod_within rfl rfl cl_Mod_214 (by omega) (Nat.le_of_ble_eq_true rfl) (Nat.le_of_ble_eq_true rfl) (Nat.le_refl _) (Nat.le_refl _) (c_Mod_within x3 1 72 0 _) (fun r1 w1 hp => ?_) rfl rfl
      obtain ⟨rfl, hw1⟩ := hp
      rw [hw1]
      refine ⟨⟨Nat.le_refl _, Or.inl rfl⟩, ?_⟩
      refine z_if_eq (pc := 33) (tgt := 46) rfl (by decide) (fun h33 => ?_) (fun h33 => ?_)
      · refine z_iconst (pc := 46) (v := (-1)) rfl (by decide) ?_
        exact z_iret (pc := 47) rfl rfl ⟨zL w 44 41, f0, by rw [zsL_same], by rw [if_neg h13, if_neg h23, if_pos h33], F_f0.1 67 (by omega) (by decide) (by decide) (by decide), fun o h1 h2 _ _ h5 h6 => F_f0.1 o h1 h2 h5 h6, fun k h1 _ => F_f0.2.1 k h1, F_f0.2.2⟩
      · refine z_iload (pc := 36) (i := 4) (j := 4) rfl rfl ?_
        refine z_iconst (pc := 38) (v := 0) rfl (by decide) ?_
        refine z_iconst (pc := 39) (v := 1) rfl (by decide) ?_
        refine z_cS (pc := 40) (mc1 := 0) (ms1 := 0) (mc2 := 0) (ms2 := 0) (as := [.int x4, .int 0, .int 1]) (rest := []) ok_Mod_within rfl rfl cl_Mod_214 (by omega) (Nat.le_of_ble_eq_true rfl) (Nat.le_of_ble_eq_true rfl) (Nat.le_refl _) (Nat.le_refl _) (c_Mod_within x4 0 1 0 _) (fun r1 w1 hp => ?_) rfl rfl
        obtain ⟨rfl, hw1⟩ := hp
        rw [hw1]
        refine ⟨⟨Nat.le_refl _, Or.inl rfl⟩, ?_⟩
        refine z_if_ne (pc := 43) (tgt := 48) rfl (by decide) (fun h43 => ?_) (fun h43 => ?_)
        · obtain ⟨sd, hsd, rfl⟩ : ∃ n : Nat, n ≤ 9999 ∧ x1 = nI n := by
            have z1 : (0 : Int32).toInt = 0 := rfl
            have zk : (9999 : Int32).toInt = 9999 := rfl
            have := wi1_of h13
            exact ⟨x1.toInt.toNat, by omega, by apply Int32.toInt_inj.mp; rw [nI_toInt (by omega)]; omega⟩
          obtain ⟨rn, hrn, rfl⟩ : ∃ n : Nat, n ≤ 20 ∧ x2 = nI n := by
            have z1 : (1 : Int32).toInt = 1 := rfl
            have zk : (20 : Int32).toInt = 20 := rfl
            have := wi1_of h23
            exact ⟨x2.toInt.toNat, by omega, by apply Int32.toInt_inj.mp; rw [nI_toInt (by omega)]; omega⟩
          obtain ⟨hs, hhs, rfl⟩ : ∃ n : Nat, n ≤ 72 ∧ x3 = nI n := by
            have z1 : (1 : Int32).toInt = 1 := rfl
            have zk : (72 : Int32).toInt = 72 := rfl
            have := wi1_of h33
            exact ⟨x3.toInt.toNat, by omega, by apply Int32.toInt_inj.mp; rw [nI_toInt (by omega)]; omega⟩
          refine z_aload_n (pc := 48) (i := 0) (j := 0) rfl rfl rfl ?_
          refine z_iload_n (pc := 49) (i := 1) (j := 1) rfl rfl rfl ?_
          refine z_i2l (pc := 50) rfl ?_
          refine z_eql (y := lN sd) (nI_l (by omega)) ?_
          refine z_putL (pc := 51) rfl fl_Mod_342 hm.1 rfl  ?_
          refine z_aload_n (pc := 54) (i := 0) (j := 0) rfl rfl rfl ?_
          refine z_iconst (pc := 55) (v := 0) rfl (by decide) ?_
          refine z_putI (pc := 56) rfl fl_Mod_314 hm.1 rfl  ?_
          refine z_iconst (pc := 59) (v := 0) rfl (by decide) ?_
          refine z_istore (pc := 60) (i := 5) (ls' := [(0, .ref 44), (1, .int (nI sd)), (2, .int (nI rn)), (3, .int (nI hs)), (4, .int x4), (5, .int 0)]) rfl (by decide) rfl ?_
          refine z_iconst (pc := 62) (v := 0) rfl (by decide) ?_
          refine z_istore (pc := 63) (i := 6) (ls' := [(0, .ref 44), (1, .int (nI sd)), (2, .int (nI rn)), (3, .int (nI hs)), (4, .int x4), (5, .int 0), (6, .int 0)]) rfl (by decide) rfl ?_
          have l := lA_Mod_days (w := zsL w 44 41 (lN sd)) hm (P := (fun rv w1 => ∃ g f, w1 = zuI (zsL w 44 41 g) f ∧ rv = some (.int (if (if (nI sd) < 0 then 0 else if 9999 < (nI sd) then 0 else 1 : Int32) = 0 then -1 else if (if (nI rn) < 1 then 0 else if 20 < (nI rn) then 0 else 1 : Int32) = 0 then -1 else if (if (nI hs) < 1 then 0 else if 72 < (nI hs) then 0 else 1 : Int32) = 0 then -1 else if (if x4 < 0 then 0 else if 1 < x4 then 0 else 1 : Int32) = 0 then -1 else if x4 = 0 then (dayR (zI w) C R H V G (nI hs).toNatClampNeg (nI sd).toNatClampNeg (nI rn).toNatClampNeg).1 else (dayR (zI w) C R H V G (nI hs).toNatClampNeg (nI sd).toNatClampNeg (nI rn).toNatClampNeg).2.2)) ∧ f 67 = zI w 67 ∧ (∀ o, (o < 57 ∨ 66 < o) → o ≠ 44 → o ≠ 67 → o ≠ 69 → o ≠ 70 → o ≠ 71 → f o = zI w o) ∧ (∀ k, k ≠ 0 → k ≠ 40 → f 44 k = zI w 44 k) ∧ f 44 0 = 0)) (z2 f0 44 40 0) (nI sd) (nI rn) (nI hs) x4 0 d ?_ 64 0 (by omega) (by omega)
          · rw [fa_fill_0, zr_self] at l
            exact l
          refine z_iconst (pc := 92) (v := nI 0) rfl rfl ?_
          refine z_istore (pc := 93) (i := 6) (ls' := [(0, .ref 44), (1, .int (nI sd)), (2, .int (nI rn)), (3, .int (nI hs)), (4, .int x4), (5, .int 0), (6, .int (nI 0))]) rfl (by decide) rfl ?_
          have e67 : (z2 f0 44 40 0) 67 = zI w 67 := (z2_ro f0 (o := 44) (a := 67) 40 0 (by decide)).trans (F_f0.1 67 (by omega) (by decide) (by decide) (by decide))
          have e69 : (z2 f0 44 40 0) 69 = zI w 69 := (z2_ro f0 (o := 44) (a := 69) 40 0 (by decide)).trans (F_f0.1 69 (by omega) (by decide) (by decide) (by decide))
          refine zS_P ?_ (lB_Mod_days hm hi hs rn sd hhs hrn (by omega) (nI sd) x4 d hd rn 0 _ (by omega) (by omega) ⟨fun o h1 h2 h3 h4 h5 h6 => (zr_o _ (o := 69) (a := o) _ h4).trans ((z2_ro f0 (o := 44) (a := o) 40 0 h2).trans (F_f0.1 o h1 h2 h5 h6)), (zr_o _ (o := 69) (a := 67) _ (by decide)).trans e67, (congrFun (zr_o _ (o := 69) (a := 44) _ (by decide)) 40).trans (z2_hit f0 44 40 0), (zr_h _ _ _).trans (by rw [e67, e69]), fun k h1 h2 => (congrFun (zr_o _ (o := 69) (a := 44) _ (by decide)) k).trans ((z2_k f0 44 0 h2).trans (F_f0.2.1 k h1)), (congrFun (zr_o _ (o := 69) (a := 44) _ (by decide)) 0).trans ((z2_k f0 44 0 (by decide)).trans F_f0.2.2)⟩)
          rintro r1 w1 ⟨f, hw1, hr, hf⟩
          refine ⟨_, f, hw1, ?_, hf.2.1, fun o h1 h2 h3 h4 h5 h6 => hf.1 o h1 h2 h3 h4 h5 h6, hf.2.2.2.2.1, hf.2.2.2.2.2⟩
          rw [if_neg h13, if_neg h23, if_neg h33, if_neg h43, nI_clamp (by omega), nI_clamp (by omega), nI_clamp (by omega)]
          exact hr
        · refine z_iconst (pc := 46) (v := (-1)) rfl (by decide) ?_
          exact z_iret (pc := 47) rfl rfl ⟨zL w 44 41, f0, by rw [zsL_same], by rw [if_neg h13, if_neg h23, if_neg h33, if_pos h43], F_f0.1 67 (by omega) (by decide) (by decide) (by decide), fun o h1 h2 _ _ h5 h6 => F_f0.1 o h1 h2 h5 h6, fun k h1 _ => F_f0.2.1 k h1, F_f0.2.2⟩
