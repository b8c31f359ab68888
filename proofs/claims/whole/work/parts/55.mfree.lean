/-! FREE of the model -/
def frT (last : Int32) (yv : Nat) : Bool := decide (¬ last ≤ 0 ∧ ¬ last = 1 + nI yv)
def frA (t : Bool) (a b : Int32) : Int32 := if t = true then (if 0 ≤ a then (if 0 ≤ b then (if b < a then b else a) else a) else b) else a
def frB (t : Bool) (b : Int32) : Int32 := if t = true then -1 else b
def frN (m lit a n : Int32) : Int32 := if m = 0 then n else if a < 0 then n else if n < 0 then a + lit else if n ≤ a + lit then n else a + lit
def frW (b e : Int32) : Int32 := if 0 ≤ b then b + e else -1
def frZ (m a e cold : Int32) : Int32 := if 0 ≤ a then a + (if m = 0 then e else cold) else -1
def frL (f : Nat → Nat → Int32) (j : Nat) : Int32 := if mbit (f 67 137) j = 0 then priceV (f 51 j) else f 46 2
def frE (f : Nat → Nat → Int32) (j : Nat) : Int32 := if f 46 2 < frL f j then f 46 2 else frL f j
def frM (f : Nat → Nat → Int32) (C R H : Nat) (V : Int32 → Int32) (G : Int32 → Int32 → Int32 → Int32) (j t : Nat) : Int32 := if mset f C R (yvO V (f 67 138 + nI t)) G (f 67 138 + nI t) ((f 67 136 ||| bitI j) &&& (f 67 137 ^^^ (-1))) H j = 0 then 0 else 1
def frS (f : Nat → Nat → Int32) (C R H : Nat) (V : Int32 → Int32) (G : Int32 → Int32 → Int32 → Int32) (j t : Nat) (q : Int32 × Int32 × Int32) : Int32 × Int32 × Int32 :=
  (frZ (frM f C R H V G j t) (frA (frT q.2.2 (yvO V (f 67 138 + nI t))) q.1 q.2.1) (frE f j) (f 46 2),
   frN (frM f C R H V G j t) (frL f j) (frA (frT q.2.2 (yvO V (f 67 138 + nI t))) q.1 q.2.1) (frW (frB (frT q.2.2 (yvO V (f 67 138 + nI t))) q.2.1) (frE f j)),
   1 + nI (yvO V (f 67 138 + nI t)))
def frQ (f : Nat → Nat → Int32) (C R H : Nat) (V : Int32 → Int32) (G : Int32 → Int32 → Int32 → Int32) (j : Nat) (q : Int32 × Int32 × Int32) : Nat → Int32 × Int32 × Int32
  | 0 => q
  | t + 1 => frS f C R H V G j t (frQ f C R H V G j q t)
set_option maxRecDepth 100000 in
set_option maxHeartbeats 4000000 in
theorem l_Mod_free {w : zW} (hm : zMo w) {C R H : Nat} {V : Int32 → Int32} {G : Int32 → Int32 → Int32 → Int32} (hi : zMi (zI w) C R H V G) {j : Nat} (hj : j < H) (q : Int32 × Int32 × Int32) (n : Nat) (hn : n ≤ 24) (d : Nat) (hd : 5 ≤ d) : ∀ (m i : Nat) (f : Nat → Nat → Int32), i ≤ n → n ≤ i + m → (zFr w f) → zS 0 0 d m_Mod_free (fun rv w1 => ∃ f, w1 = zuI w f ∧ rv = some (.int ((frQ (zI w) C R H V G j q n).1)) ∧ zFr w f) 67 [(0, .ref 44), (1, .int (nI j)), (2, .int (nI n)), (3, .int ((frQ (zI w) C R H V G j q i).1)), (4, .int ((frQ (zI w) C R H V G j q i).2.1)), (5, .int ((frQ (zI w) C R H V G j q i).2.2)), (6, .int (nI i))] [] (zuI w f) := by
  have hex : ∀ f : Nat → Nat → Int32, (zFr w f) → zS 0 0 d m_Mod_free (fun rv w1 => ∃ f, w1 = zuI w f ∧ rv = some (.int ((frQ (zI w) C R H V G j q n).1)) ∧ zFr w f) 67 [(0, .ref 44), (1, .int (nI j)), (2, .int (nI n)), (3, .int ((frQ (zI w) C R H V G j q n).1)), (4, .int ((frQ (zI w) C R H V G j q n).2.1)), (5, .int ((frQ (zI w) C R H V G j q n).2.2)), (6, .int (nI n))] [] (zuI w f) := by
    intro f hf
    refine z_iload (pc := 67) (i := 6) (j := 6) rfl rfl ?_
    refine z_iload_n (pc := 69) (i := 2) (j := 2) rfl rfl rfl ?_
    refine z_icmp_ge (pc := 70) (tgt := 297) rfl (by decide) (fun h70 => ?_) (fun h70 => ?_)
    · refine z_iload_n (pc := 297) (i := 3) (j := 3) rfl rfl rfl ?_
      exact z_iret (pc := 298) rfl rfl ⟨f, rfl, rfl, hf⟩
    · exact absurd (Int32.le_refl _) h70
  intro m
  induction m with
  | zero =>
    intro i f hii hmm hf
    obtain rfl : i = n := by omega
    exact hex f hf
  | succ m ih =>
    intro i f hii hmm hf
    by_cases hlt : i < n
    · skip
      have F_f := hf
      have hH8 := hi.2.2.2.2.2.1
      refine z_iload (pc := 67) (i := 6) (j := 6) rfl rfl ?_
      refine z_iload_n (pc := 69) (i := 2) (j := 2) rfl rfl rfl ?_
      refine z_icmp_ge (pc := 70) (tgt := 297) rfl (by decide) (fun h70 => ?_) (fun h70 => ?_)
      · exact absurd h70 (nI_ge (b := n) hlt (by omega))
      · refine z_aload_n (pc := 73) (i := 0) (j := 0) rfl rfl rfl ?_
        refine z_getR (pc := 74) (x := 67) rfl fl_Mod_78 hm.1 rfl (mr_67 hm) ?_
        refine z_sipush (pc := 77) (v := 138) rfl (by decide) ?_
        refine z_iald (pc := 80) rfl (mk_67 hm) (vp_in_nI (n := 138) (by decide) (by decide)) ?_
        refine z_eqi (y := zI w 67 138) (congrFun (F_f.1 67 (by omega) (by decide) (by decide) (by decide)) 138) ?_
        refine z_iload (pc := 81) (i := 6) (j := 6) rfl rfl ?_
        refine z_iadd (pc := 83) rfl ?_
        refine z_istore (pc := 84) (i := 7) (ls' := [(0, .ref 44), (1, .int (nI j)), (2, .int (nI n)), (3, .int ((frQ (zI w) C R H V G j q i).1)), (4, .int ((frQ (zI w) C R H V G j q i).2.1)), (5, .int ((frQ (zI w) C R H V G j q i).2.2)), (6, .int (nI i)), (7, .int ((zI w 67 138) + (nI i)))]) rfl (by decide) rfl ?_
        refine z_aload_n (pc := 86) (i := 0) (j := 0) rfl rfl rfl ?_
        refine z_iload (pc := 87) (i := 7) (j := 7) rfl rfl ?_
        refine z_cV (pc := 89) (mc1 := 0) (ms1 := 0) (mc2 := 0) (ms2 := 0) (as := [.int ((zI w 67 138) + (nI i))]) (rest := []) (o := 44) rfl rfl hm.1 ok_Mod_windAt rfl rfl cl_Mod_307 (by omega) (Nat.le_of_ble_eq_true rfl) (Nat.le_of_ble_eq_true rfl) (Nat.le_refl _) (Nat.le_refl _) (c_Mod_windAt (w := zuI w f) hm (zFr_i F_f hi).2.2.2.2.2.2.1 ((zI w 67 138) + (nI i)) 3 (by decide)) (fun r1 w1 hp => ?_) rfl rfl
        obtain ⟨f1, hw1, rfl, hn_f1⟩ := hp
        rw [hw1]
        refine ⟨⟨Nat.le_refl _, Or.inl rfl⟩, ?_⟩
        have F_f1 : zFr w f1 := zFr_w F_f hn_f1
        obtain ⟨yv, hyv⟩ : ∃ yv, yv = yvO V (zI w 67 138 + nI i) := ⟨_, rfl⟩
        rw [yvO_eq, ← hyv]
        have hy : yv < 8 := hyv ▸ yvO_lt _ _
        refine z_istore (pc := 92) (i := 8) (ls' := [(0, .ref 44), (1, .int (nI j)), (2, .int (nI n)), (3, .int ((frQ (zI w) C R H V G j q i).1)), (4, .int ((frQ (zI w) C R H V G j q i).2.1)), (5, .int ((frQ (zI w) C R H V G j q i).2.2)), (6, .int (nI i)), (7, .int ((zI w 67 138) + (nI i))), (8, .int (nI yv))]) rfl (by decide) rfl ?_
        refine z_iload (pc := 94) (i := 5) (j := 5) rfl rfl ?_
        have j136 : ∀ a b : Int32, (a = frA (frT (frQ (zI w) C R H V G j q i).2.2 yv) (frQ (zI w) C R H V G j q i).1 (frQ (zI w) C R H V G j q i).2.1 ∧ b = frB (frT (frQ (zI w) C R H V G j q i).2.2 yv) (frQ (zI w) C R H V G j q i).2.1) → zS 0 0 d m_Mod_free (fun rv w1 => ∃ f, w1 = zuI w f ∧ rv = some (.int ((frQ (zI w) C R H V G j q n).1)) ∧ zFr w f) 136 [(0, .ref 44), (1, .int (nI j)), (2, .int (nI n)), (3, .int a), (4, .int b), (5, .int ((frQ (zI w) C R H V G j q i).2.2)), (6, .int (nI i)), (7, .int ((zI w 67 138) + (nI i))), (8, .int (nI yv))] [] (zuI w f1) := by
          intro a b h_j136
          refine z_iconst (pc := 136) (v := 1) rfl (by decide) ?_
          refine z_iload (pc := 137) (i := 8) (j := 8) rfl rfl ?_
          refine z_iadd (pc := 139) rfl ?_
          refine z_istore (pc := 140) (i := 5) (ls' := [(0, .ref 44), (1, .int (nI j)), (2, .int (nI n)), (3, .int a), (4, .int b), (5, .int (1 + (nI yv))), (6, .int (nI i)), (7, .int ((zI w 67 138) + (nI i))), (8, .int (nI yv))]) rfl (by decide) rfl ?_
          refine z_aload_n (pc := 142) (i := 0) (j := 0) rfl rfl rfl ?_
          refine z_aload_n (pc := 143) (i := 0) (j := 0) rfl rfl rfl ?_
          refine z_getR (pc := 144) (x := 67) rfl fl_Mod_78 hm.1 rfl (mr_67 hm) ?_
          refine z_sipush (pc := 147) (v := 136) rfl (by decide) ?_
          refine z_iald (pc := 150) rfl (mk_67 hm) (vp_in_nI (n := 136) (by decide) (by decide)) ?_
          refine z_eqi (y := zI w 67 136) (congrFun (F_f1.1 67 (by omega) (by decide) (by decide) (by decide)) 136) ?_
          refine z_iconst (pc := 151) (v := 1) rfl (by decide) ?_
          refine z_iload_n (pc := 152) (i := 1) (j := 1) rfl rfl rfl ?_
          refine z_ishl (pc := 153) rfl ?_
          refine z_ior (pc := 154) rfl ?_
          refine z_iload (pc := 155) (i := 7) (j := 7) rfl rfl ?_
          refine z_iload (pc := 157) (i := 8) (j := 8) rfl rfl ?_
          refine z_cV (pc := 159) (mc1 := 0) (ms1 := 0) (mc2 := 0) (ms2 := 0) (as := [.int ((zI w 67 136) ||| (1 <<< ((nI j) &&& 31))), .int ((zI w 67 138) + (nI i)), .int (nI yv)]) (rest := []) (o := 44) rfl rfl hm.1 ok_Mod_smokes rfl rfl cl_Mod_310 (by omega) (Nat.le_of_ble_eq_true rfl) (Nat.le_of_ble_eq_true rfl) (Nat.le_refl _) (Nat.le_refl _) (c_Mod_smokes (w := zuI w f1) hm (zFr_i F_f1 hi).1 (zFr_i F_f1 hi).2.1 (zFr_i F_f1 hi).2.2.1 hi.2.2.2.1 hi.2.2.2.2.1 hi.2.2.2.2.2.1 (G := G) (zFr_i F_f1 hi).2.2.2.2.2.2.2 (yv := yv) hy ((zI w 67 136) ||| (1 <<< ((nI j) &&& 31))) ((zI w 67 138) + (nI i)) 4 (by decide)) (fun r1 w1 hp => ?_) rfl rfl
          obtain ⟨f2, hw1, rfl, -, h71, hn_f2⟩ := hp
          rw [hw1]
          refine ⟨⟨Nat.le_refl _, Or.inl rfl⟩, ?_⟩
          have F_f2 : zFr w f2 := zFr_s F_f1 hn_f2
          have m_f2 : ∀ a, a < H → f2 71 a = mset (zI w) C R yv G ((zI w 67 138) + (nI i)) (((zI w 67 136) ||| (1 <<< ((nI j) &&& 31))) &&& (zI w 67 137 ^^^ (-1))) H a := fun a ha => (congrFun h71 a).trans ((metM_set _ _ _ _ _ _ _ hi.2.2.2.2.2.1 ha).trans (by rw [mset_c (f := zI w) (g := zI (zuI w f1)) (F_f1.1 48 (by omega) (by decide) (by decide) (by decide)) (F_f1.1 49 (by omega) (by decide) (by decide) (by decide)) (F_f1.1 50 (by omega) (by decide) (by decide) (by decide)) (F_f1.1 51 (by omega) (by decide) (by decide) (by decide)), show zI (zuI w f1) 67 = zI w 67 from F_f1.1 67 (by omega) (by decide) (by decide) (by decide)]))
          refine z_aload_n (pc := 162) (i := 0) (j := 0) rfl rfl rfl ?_
          refine z_getR (pc := 163) (x := 71) rfl fl_Mod_90 hm.1 rfl (mr_71 hm) ?_
          refine z_iload_n (pc := 166) (i := 1) (j := 1) rfl rfl rfl ?_
          refine z_iald (pc := 167) rfl (mk_71 hm) (vp_in_nI (show j < 8 by omega) (by decide)) ?_
          refine z_eqi (y := mset (zI w) C R yv G (zI w 67 138 + nI i) ((zI w 67 136 ||| bitI j) &&& (zI w 67 137 ^^^ (-1))) H j) (by rw [nI_clamp (by omega)]; exact m_f2 j hj) ?_
          have j176 : ∀ mt : Int32, (mt = frM (zI w) C R H V G j i) → zS 0 0 d m_Mod_free (fun rv w1 => ∃ f, w1 = zuI w f ∧ rv = some (.int ((frQ (zI w) C R H V G j q n).1)) ∧ zFr w f) 176 [(0, .ref 44), (1, .int (nI j)), (2, .int (nI n)), (3, .int a), (4, .int b), (5, .int (1 + (nI yv))), (6, .int (nI i)), (7, .int ((zI w 67 138) + (nI i))), (8, .int (nI yv))] [.int mt] (zuI w f2) := by
            intro mt h_j176
            refine z_istore (pc := 176) (i := 9) (ls' := [(0, .ref 44), (1, .int (nI j)), (2, .int (nI n)), (3, .int a), (4, .int b), (5, .int (1 + (nI yv))), (6, .int (nI i)), (7, .int ((zI w 67 138) + (nI i))), (8, .int (nI yv)), (9, .int mt)]) rfl (by decide) rfl ?_
            refine z_aload_n (pc := 178) (i := 0) (j := 0) rfl rfl rfl ?_
            refine z_iload_n (pc := 179) (i := 1) (j := 1) rfl rfl rfl ?_
            refine z_cV (pc := 180) (mc1 := 0) (ms1 := 0) (mc2 := 0) (ms2 := 0) (as := [.int (nI j)]) (rest := []) (o := 44) rfl rfl hm.1 ok_Mod_isShut rfl rfl cl_Mod_279 (by omega) (Nat.le_of_ble_eq_true rfl) (Nat.le_of_ble_eq_true rfl) (Nat.le_refl _) (Nat.le_refl _) (c_Mod_isShut (w := zuI w f2) hm (nI j) 0) (fun r1 w1 hp => ?_) rfl rfl
            obtain ⟨rfl, hw1⟩ := hp
            rw [hw1, show zI (zuI w f2) 67 (137 : Int32).toNatClampNeg = zI w 67 137 from congrFun (F_f2.1 67 (by omega) (by decide) (by decide) (by decide)) 137]
            refine ⟨⟨Nat.le_refl _, Or.inl rfl⟩, ?_⟩
            have j200 : ∀ lt : Int32, (lt = frL (zI w) j) → zS 0 0 d m_Mod_free (fun rv w1 => ∃ f, w1 = zuI w f ∧ rv = some (.int ((frQ (zI w) C R H V G j q n).1)) ∧ zFr w f) 200 [(0, .ref 44), (1, .int (nI j)), (2, .int (nI n)), (3, .int a), (4, .int b), (5, .int (1 + (nI yv))), (6, .int (nI i)), (7, .int ((zI w 67 138) + (nI i))), (8, .int (nI yv)), (9, .int mt)] [.int lt] (zuI w f2) := by
              intro lt h_j200
              refine z_istore (pc := 200) (i := 10) (ls' := [(0, .ref 44), (1, .int (nI j)), (2, .int (nI n)), (3, .int a), (4, .int b), (5, .int (1 + (nI yv))), (6, .int (nI i)), (7, .int ((zI w 67 138) + (nI i))), (8, .int (nI yv)), (9, .int mt), (10, .int lt)]) rfl (by decide) rfl ?_
              refine z_iload (pc := 202) (i := 10) (j := 10) rfl rfl ?_
              refine z_aload_n (pc := 204) (i := 0) (j := 0) rfl rfl rfl ?_
              refine z_getR (pc := 205) (x := 46) rfl fl_Mod_13 hm.1 rfl (mr_46 hm) ?_
              refine z_iconst (pc := 208) (v := 2) rfl (by decide) ?_
              refine z_iald (pc := 209) rfl (mk_46 hm) (vp_in_nI (n := 2) (by decide) (by decide)) ?_
              refine z_eqi (y := zI w 46 2) (congrFun (F_f2.1 46 (by omega) (by decide) (by decide) (by decide)) 2) ?_
              refine z_mmin (pc := 210) rfl ml_Mod_285 (by omega) (Nat.le_of_ble_eq_true rfl) ?_
              refine z_istore (pc := 213) (i := 11) (ls' := [(0, .ref 44), (1, .int (nI j)), (2, .int (nI n)), (3, .int a), (4, .int b), (5, .int (1 + (nI yv))), (6, .int (nI i)), (7, .int ((zI w 67 138) + (nI i))), (8, .int (nI yv)), (9, .int mt), (10, .int lt), (11, .int (if zI w 46 2 < lt then zI w 46 2 else lt))]) rfl (by decide) rfl ?_
              refine z_iload (pc := 215) (i := 4) (j := 4) rfl rfl ?_
              have j229 : ∀ nw : Int32, (nw = frW b (if zI w 46 2 < lt then zI w 46 2 else lt)) → zS 0 0 d m_Mod_free (fun rv w1 => ∃ f, w1 = zuI w f ∧ rv = some (.int ((frQ (zI w) C R H V G j q n).1)) ∧ zFr w f) 229 [(0, .ref 44), (1, .int (nI j)), (2, .int (nI n)), (3, .int a), (4, .int b), (5, .int (1 + (nI yv))), (6, .int (nI i)), (7, .int ((zI w 67 138) + (nI i))), (8, .int (nI yv)), (9, .int mt), (10, .int lt), (11, .int (if zI w 46 2 < lt then zI w 46 2 else lt))] [.int nw] (zuI w f2) := by
                intro nw h_j229
                refine z_istore (pc := 229) (i := 12) (ls' := [(0, .ref 44), (1, .int (nI j)), (2, .int (nI n)), (3, .int a), (4, .int b), (5, .int (1 + (nI yv))), (6, .int (nI i)), (7, .int ((zI w 67 138) + (nI i))), (8, .int (nI yv)), (9, .int mt), (10, .int lt), (11, .int (if zI w 46 2 < lt then zI w 46 2 else lt)), (12, .int nw)]) rfl (by decide) rfl ?_
                refine z_iload (pc := 231) (i := 9) (j := 9) rfl rfl ?_
                have j260 : ∀ nz : Int32, (nz = frN mt lt a nw) → zS 0 0 d m_Mod_free (fun rv w1 => ∃ f, w1 = zuI w f ∧ rv = some (.int ((frQ (zI w) C R H V G j q n).1)) ∧ zFr w f) 260 [(0, .ref 44), (1, .int (nI j)), (2, .int (nI n)), (3, .int a), (4, .int b), (5, .int (1 + (nI yv))), (6, .int (nI i)), (7, .int ((zI w 67 138) + (nI i))), (8, .int (nI yv)), (9, .int mt), (10, .int lt), (11, .int (if zI w 46 2 < lt then zI w 46 2 else lt)), (12, .int nz)] [] (zuI w f2) := by
                  intro nz h_j260
                  refine z_iload_n (pc := 260) (i := 3) (j := 3) rfl rfl rfl ?_
                  have j286 : ∀ z : Int32, (z = frZ mt a (if zI w 46 2 < lt then zI w 46 2 else lt) (zI w 46 2)) → zS 0 0 d m_Mod_free (fun rv w1 => ∃ f, w1 = zuI w f ∧ rv = some (.int ((frQ (zI w) C R H V G j q n).1)) ∧ zFr w f) 286 [(0, .ref 44), (1, .int (nI j)), (2, .int (nI n)), (3, .int a), (4, .int b), (5, .int (1 + (nI yv))), (6, .int (nI i)), (7, .int ((zI w 67 138) + (nI i))), (8, .int (nI yv)), (9, .int mt), (10, .int lt), (11, .int (if zI w 46 2 < lt then zI w 46 2 else lt)), (12, .int nz)] [.int z] (zuI w f2) := by
                    intro z h_j286
                    refine z_istore_n (pc := 286) (i := 3) (ls' := [(0, .ref 44), (1, .int (nI j)), (2, .int (nI n)), (3, .int z), (4, .int b), (5, .int (1 + (nI yv))), (6, .int (nI i)), (7, .int ((zI w 67 138) + (nI i))), (8, .int (nI yv)), (9, .int mt), (10, .int lt), (11, .int (if zI w 46 2 < lt then zI w 46 2 else lt)), (12, .int nz)]) rfl rfl (by decide) rfl ?_
                    refine z_iload (pc := 287) (i := 12) (j := 12) rfl rfl ?_
                    refine z_istore (pc := 289) (i := 4) (ls' := [(0, .ref 44), (1, .int (nI j)), (2, .int (nI n)), (3, .int z), (4, .int nz), (5, .int (1 + (nI yv))), (6, .int (nI i)), (7, .int ((zI w 67 138) + (nI i))), (8, .int (nI yv)), (9, .int mt), (10, .int lt), (11, .int (if zI w 46 2 < lt then zI w 46 2 else lt)), (12, .int nz)]) rfl (by decide) rfl ?_
                    refine z_iinc (pc := 291) (i := 6) (j := 6) (v := nI (i + 1)) (ls' := [(0, .ref 44), (1, .int (nI j)), (2, .int (nI n)), (3, .int z), (4, .int nz), (5, .int (1 + (nI yv))), (6, .int (nI (i + 1))), (7, .int ((zI w 67 138) + (nI i))), (8, .int (nI yv)), (9, .int mt), (10, .int lt), (11, .int (if zI w 46 2 < lt then zI w 46 2 else lt)), (12, .int nz)]) rfl rfl (nI_1 i) (by decide) rfl ?_
                    refine z_goto (pc := 294) (tgt := 67) rfl (by decide) ?_
                    have hS : (frQ (zI w) C R H V G j q (i + 1)) = (z, nz, 1 + nI yv) := by
                      show frS _ _ _ _ _ _ _ _ _ = _
                      unfold frS
                      rw [← hyv, ← h_j136.1, ← h_j136.2, ← h_j176]
                      have eE : frE (zI w) j = if zI w 46 2 < lt then zI w 46 2 else lt := by unfold frE; rw [← h_j200]
                      rw [← h_j200, eE, ← h_j229, ← h_j260, ← h_j286]
                    refine z_drop ?_ (ih (i + 1) f2 (by omega) (by omega) F_f2)
                    simp [hS]
                  refine z_if_ge (pc := 261) (tgt := 268) rfl (by decide) (fun h261 => ?_) (fun h261 => ?_)
                  · refine z_iload_n (pc := 268) (i := 3) (j := 3) rfl rfl rfl ?_
                    refine z_iload (pc := 269) (i := 9) (j := 9) rfl rfl ?_
                    have j285 : ∀ c5 : Int32, (c5 = (if mt = 0 then (if zI w 46 2 < lt then zI w 46 2 else lt) else zI w 46 2)) → zS 0 0 d m_Mod_free (fun rv w1 => ∃ f, w1 = zuI w f ∧ rv = some (.int ((frQ (zI w) C R H V G j q n).1)) ∧ zFr w f) 285 [(0, .ref 44), (1, .int (nI j)), (2, .int (nI n)), (3, .int a), (4, .int b), (5, .int (1 + (nI yv))), (6, .int (nI i)), (7, .int ((zI w 67 138) + (nI i))), (8, .int (nI yv)), (9, .int mt), (10, .int lt), (11, .int (if zI w 46 2 < lt then zI w 46 2 else lt)), (12, .int nz)] [.int c5, .int a] (zuI w f2) := by
                      intro c5 h_j285
                      refine z_iadd (pc := 285) rfl ?_
                      exact j286 _ (by unfold frZ; rw [if_pos h261, h_j285])
                    refine z_if_eq (pc := 271) (tgt := 283) rfl (by decide) (fun h271 => ?_) (fun h271 => ?_)
                    · refine z_iload (pc := 283) (i := 11) (j := 11) rfl rfl ?_
                      exact j285 _ (by rw [if_pos h271] <;> rfl)
                    · refine z_aload_n (pc := 274) (i := 0) (j := 0) rfl rfl rfl ?_
                      refine z_getR (pc := 275) (x := 46) rfl fl_Mod_13 hm.1 rfl (mr_46 hm) ?_
                      refine z_iconst (pc := 278) (v := 2) rfl (by decide) ?_
                      refine z_iald (pc := 279) rfl (mk_46 hm) (vp_in_nI (n := 2) (by decide) (by decide)) ?_
                      refine z_eqi (y := zI w 46 2) (congrFun (F_f2.1 46 (by omega) (by decide) (by decide) (by decide)) 2) ?_
                      refine z_goto (pc := 280) (tgt := 285) rfl (by decide) ?_
                      exact j285 _ (by rw [if_neg h271] <;> rfl)
                  · refine z_iconst (pc := 264) (v := (-1)) rfl (by decide) ?_
                    refine z_goto (pc := 265) (tgt := 286) rfl (by decide) ?_
                    exact j286 _ (by unfold frZ; rw [if_neg h261])
                refine z_if_eq (pc := 233) (tgt := 260) rfl (by decide) (fun h233 => ?_) (fun h233 => ?_)
                · exact j260 _ (by unfold frN; rw [if_pos h233])
                · refine z_iload_n (pc := 236) (i := 3) (j := 3) rfl rfl rfl ?_
                  refine z_if_lt (pc := 237) (tgt := 260) rfl (by decide) (fun h237 => ?_) (fun h237 => ?_)
                  · exact j260 _ (by unfold frN; rw [if_neg h233, if_pos h237])
                  · refine z_iload (pc := 240) (i := 12) (j := 12) rfl rfl ?_
                    refine z_if_lt (pc := 242) (tgt := 254) rfl (by decide) (fun h242 => ?_) (fun h242 => ?_)
                    · refine z_iload_n (pc := 254) (i := 3) (j := 3) rfl rfl rfl ?_
                      refine z_iload (pc := 255) (i := 10) (j := 10) rfl rfl ?_
                      refine z_iadd (pc := 257) rfl ?_
                      refine z_istore (pc := 258) (i := 12) (ls' := [(0, .ref 44), (1, .int (nI j)), (2, .int (nI n)), (3, .int a), (4, .int b), (5, .int (1 + (nI yv))), (6, .int (nI i)), (7, .int ((zI w 67 138) + (nI i))), (8, .int (nI yv)), (9, .int mt), (10, .int lt), (11, .int (if zI w 46 2 < lt then zI w 46 2 else lt)), (12, .int (a + lt))]) rfl (by decide) rfl ?_
                      exact j260 _ (by unfold frN; rw [if_neg h233, if_neg h237, if_pos h242])
                    · refine z_iload_n (pc := 245) (i := 3) (j := 3) rfl rfl rfl ?_
                      refine z_iload (pc := 246) (i := 10) (j := 10) rfl rfl ?_
                      refine z_iadd (pc := 248) rfl ?_
                      refine z_iload (pc := 249) (i := 12) (j := 12) rfl rfl ?_
                      refine z_icmp_ge (pc := 251) (tgt := 260) rfl (by decide) (fun h251 => ?_) (fun h251 => ?_)
                      · exact j260 _ (by unfold frN; rw [if_neg h233, if_neg h237, if_neg h242, if_pos h251])
                      · refine z_iload_n (pc := 254) (i := 3) (j := 3) rfl rfl rfl ?_
                        refine z_iload (pc := 255) (i := 10) (j := 10) rfl rfl ?_
                        refine z_iadd (pc := 257) rfl ?_
                        refine z_istore (pc := 258) (i := 12) (ls' := [(0, .ref 44), (1, .int (nI j)), (2, .int (nI n)), (3, .int a), (4, .int b), (5, .int (1 + (nI yv))), (6, .int (nI i)), (7, .int ((zI w 67 138) + (nI i))), (8, .int (nI yv)), (9, .int mt), (10, .int lt), (11, .int (if zI w 46 2 < lt then zI w 46 2 else lt)), (12, .int (a + lt))]) rfl (by decide) rfl ?_
                        exact j260 _ (by unfold frN; rw [if_neg h233, if_neg h237, if_neg h242, if_neg h251])
              refine z_if_ge (pc := 217) (tgt := 224) rfl (by decide) (fun h217 => ?_) (fun h217 => ?_)
              · refine z_iload (pc := 224) (i := 4) (j := 4) rfl rfl ?_
                refine z_iload (pc := 226) (i := 11) (j := 11) rfl rfl ?_
                refine z_iadd (pc := 228) rfl ?_
                exact j229 _ (by unfold frW; rw [if_pos h217])
              · refine z_iconst (pc := 220) (v := (-1)) rfl (by decide) ?_
                refine z_goto (pc := 221) (tgt := 229) rfl (by decide) ?_
                exact j229 _ (by unfold frW; rw [if_neg h217])
            refine z_if_eq (pc := 183) (tgt := 195) rfl (by decide) (fun h183 => ?_) (fun h183 => ?_)
            · refine z_aload_n (pc := 195) (i := 0) (j := 0) rfl rfl rfl ?_
              refine z_iload_n (pc := 196) (i := 1) (j := 1) rfl rfl rfl ?_
              refine z_cV (pc := 197) (mc1 := 0) (ms1 := 0) (mc2 := 0) (ms2 := 0) (as := [.int (nI j)]) (rest := []) (o := 44) rfl rfl hm.1 ok_Mod_payOf rfl rfl cl_Mod_321 (by omega) (Nat.le_of_ble_eq_true rfl) (Nat.le_of_ble_eq_true rfl) (Nat.le_refl _) (Nat.le_refl _) (c_Mod_payOf (w := zuI w f2) hm (i := j) (by omega) 0) (fun r1 w1 hp => ?_) rfl rfl
              obtain ⟨rfl, hw1⟩ := hp
              rw [hw1, nI_clamp (by omega), show zI (zuI w f2) 51 = zI w 51 from (F_f2.1 51 (by omega) (by decide) (by decide) (by decide))]
              refine ⟨⟨Nat.le_refl _, Or.inl rfl⟩, ?_⟩
              exact j200 _ (by unfold frL mbit; rw [if_pos h183]; rfl)
            · refine z_aload_n (pc := 186) (i := 0) (j := 0) rfl rfl rfl ?_
              refine z_getR (pc := 187) (x := 46) rfl fl_Mod_13 hm.1 rfl (mr_46 hm) ?_
              refine z_iconst (pc := 190) (v := 2) rfl (by decide) ?_
              refine z_iald (pc := 191) rfl (mk_46 hm) (vp_in_nI (n := 2) (by decide) (by decide)) ?_
              refine z_eqi (y := zI w 46 2) (congrFun (F_f2.1 46 (by omega) (by decide) (by decide) (by decide)) 2) ?_
              refine z_goto (pc := 192) (tgt := 200) rfl (by decide) ?_
              exact j200 _ (by unfold frL mbit; rw [if_neg h183])
          refine z_if_eq (pc := 168) (tgt := 175) rfl (by decide) (fun h168 => ?_) (fun h168 => ?_)
          · refine z_iconst (pc := 175) (v := 0) rfl (by decide) ?_
            exact j176 _ (by unfold frM; rw [← hyv, if_pos h168])
          · refine z_iconst (pc := 171) (v := 1) rfl (by decide) ?_
            refine z_goto (pc := 172) (tgt := 176) rfl (by decide) ?_
            exact j176 _ (by unfold frM; rw [← hyv, if_neg h168])
        refine z_if_le (pc := 96) (tgt := 136) rfl (by decide) (fun h96 => ?_) (fun h96 => ?_)
        · exact j136 _ _ ⟨by rw [show (frT (frQ (zI w) C R H V G j q i).2.2 yv) = false from decide_eq_false (fun z => z.1 h96)]; rfl, by rw [show (frT (frQ (zI w) C R H V G j q i).2.2 yv) = false from decide_eq_false (fun z => z.1 h96)]; rfl⟩
        · refine z_iload (pc := 99) (i := 5) (j := 5) rfl rfl ?_
          refine z_iconst (pc := 101) (v := 1) rfl (by decide) ?_
          refine z_iload (pc := 102) (i := 8) (j := 8) rfl rfl ?_
          refine z_iadd (pc := 104) rfl ?_
          refine z_icmp_eq (pc := 105) (tgt := 136) rfl (by decide) (fun h105 => ?_) (fun h105 => ?_)
          · exact j136 _ _ ⟨by rw [show (frT (frQ (zI w) C R H V G j q i).2.2 yv) = false from decide_eq_false (fun z => z.2 h105)]; rfl, by rw [show (frT (frQ (zI w) C R H V G j q i).2.2 yv) = false from decide_eq_false (fun z => z.2 h105)]; rfl⟩
          · refine z_iload_n (pc := 108) (i := 3) (j := 3) rfl rfl rfl ?_
            have j132 : ∀ u : Int32, (u = frA true (frQ (zI w) C R H V G j q i).1 (frQ (zI w) C R H V G j q i).2.1) → zS 0 0 d m_Mod_free (fun rv w1 => ∃ f, w1 = zuI w f ∧ rv = some (.int ((frQ (zI w) C R H V G j q n).1)) ∧ zFr w f) 132 [(0, .ref 44), (1, .int (nI j)), (2, .int (nI n)), (3, .int ((frQ (zI w) C R H V G j q i).1)), (4, .int ((frQ (zI w) C R H V G j q i).2.1)), (5, .int ((frQ (zI w) C R H V G j q i).2.2)), (6, .int (nI i)), (7, .int ((zI w 67 138) + (nI i))), (8, .int (nI yv))] [.int u] (zuI w f1) := by
              intro u h_j132
              refine z_istore_n (pc := 132) (i := 3) (ls' := [(0, .ref 44), (1, .int (nI j)), (2, .int (nI n)), (3, .int u), (4, .int ((frQ (zI w) C R H V G j q i).2.1)), (5, .int ((frQ (zI w) C R H V G j q i).2.2)), (6, .int (nI i)), (7, .int ((zI w 67 138) + (nI i))), (8, .int (nI yv))]) rfl rfl (by decide) rfl ?_
              refine z_iconst (pc := 133) (v := (-1)) rfl (by decide) ?_
              refine z_istore (pc := 134) (i := 4) (ls' := [(0, .ref 44), (1, .int (nI j)), (2, .int (nI n)), (3, .int u), (4, .int (-1)), (5, .int ((frQ (zI w) C R H V G j q i).2.2)), (6, .int (nI i)), (7, .int ((zI w 67 138) + (nI i))), (8, .int (nI yv))]) rfl (by decide) rfl ?_
              exact j136 _ _ ⟨by rw [h_j132, show (frT (frQ (zI w) C R H V G j q i).2.2 yv) = true from decide_eq_true ⟨h96, h105⟩], by rw [show (frT (frQ (zI w) C R H V G j q i).2.2 yv) = true from decide_eq_true ⟨h96, h105⟩]; rfl⟩
            refine z_if_ge (pc := 109) (tgt := 117) rfl (by decide) (fun h109 => ?_) (fun h109 => ?_)
            · refine z_iload (pc := 117) (i := 4) (j := 4) rfl rfl ?_
              refine z_if_ge (pc := 119) (tgt := 126) rfl (by decide) (fun h119 => ?_) (fun h119 => ?_)
              · refine z_iload_n (pc := 126) (i := 3) (j := 3) rfl rfl rfl ?_
                refine z_iload (pc := 127) (i := 4) (j := 4) rfl rfl ?_
                refine z_mmin (pc := 129) rfl ml_Mod_285 (by omega) (Nat.le_of_ble_eq_true rfl) ?_
                exact j132 _ (by show _ = (if _ then _ else _); rw [if_pos rfl, if_pos h109, if_pos h119])
              · refine z_iload_n (pc := 122) (i := 3) (j := 3) rfl rfl rfl ?_
                refine z_goto (pc := 123) (tgt := 132) rfl (by decide) ?_
                exact j132 _ (by show _ = (if _ then _ else _); rw [if_pos rfl, if_pos h109, if_neg h119])
            · refine z_iload (pc := 112) (i := 4) (j := 4) rfl rfl ?_
              refine z_goto (pc := 114) (tgt := 132) rfl (by decide) ?_
              exact j132 _ (by show _ = (if _ then _ else _); rw [if_pos rfl, if_neg h109])
    · obtain rfl : i = n := by omega
      exact hex f hf
set_option maxRecDepth 100000 in
set_option maxHeartbeats 4000000 in
theorem c_Mod_free {w : zW} (hm : zMo w) {C R H : Nat} {V : Int32 → Int32} {G : Int32 → Int32 → Int32 → Int32} (hi : zMi (zI w) C R H V G) (b x : Int32) (d : Nat) (hd : 5 ≤ d) : zS 0 0 d m_Mod_free (fun rv w1 => ∃ f, w1 = zuI w f ∧ rv = some (.int (if hOK H b = true then (if (if x < 1 then 0 else if 24 < x then 0 else 1 : Int32) = 0 then -1 else (frQ (zI w) C R H V G b.toNatClampNeg (if orN (wedTo (zI w 67) b.toNatClampNeg) 8 = 0 then 0 else -1, if orN (wedTo (zI w 67) b.toNatClampNeg) 8 = 0 then -1 else 0, zI w 67 139) x.toNatClampNeg).1) else -1)) ∧ zFr w f) 0 [(0, .ref 44), (1, .int b), (2, .int x)] [] w := by
  refine z_aload_n (pc := 0) (i := 0) (j := 0) rfl rfl rfl ?_
  refine z_iconst (pc := 1) (v := 0) rfl (by decide) ?_
  refine z_putI (pc := 2) rfl fl_Mod_100 hm.1 rfl  ?_
  change zS _ _ _ _ _ _ _ _ (zuI w (z2 (zI w) 44 0 0))
  obtain ⟨f0, hf0⟩ : ∃ f0, f0 = z2 (zI w) 44 0 0 := ⟨_, rfl⟩
  rw [← hf0]
  have F_f0 : zFr w f0 := hf0 ▸ zFr_0 w
  refine z_aload_n (pc := 5) (i := 0) (j := 0) rfl rfl rfl ?_
  refine z_iload_n (pc := 6) (i := 1) (j := 1) rfl rfl rfl ?_
  refine z_cV (pc := 7) (mc1 := 0) (ms1 := 0) (mc2 := 0) (ms2 := 0) (as := [.int b]) (rest := []) (o := 44) rfl rfl hm.1 ok_Mod_isHouse rfl rfl cl_Mod_270 (by omega) (Nat.le_of_ble_eq_true rfl) (Nat.le_of_ble_eq_true rfl) (Nat.le_refl _) (Nat.le_refl _) (c_Mod_isHouse (w := zuI w f0) hm b 0) (fun r1 w1 hp => ?_) rfl rfl
  obtain ⟨rfl, hw1⟩ := hp
  rw [hw1, show zI (zuI w f0) 46 (4 : Int32).toNatClampNeg = nI H from (zFr_i F_f0 hi).2.2.1, hOK_if hi.2.2.2.2.2.1]
  refine ⟨⟨Nat.le_refl _, Or.inl rfl⟩, ?_⟩
  refine z_if_eq (pc := 10) (tgt := 23) rfl (by decide) (fun h10 => ?_) (fun h10 => ?_)
  · refine z_iconst (pc := 23) (v := (-1)) rfl (by decide) ?_
    exact z_iret (pc := 24) rfl rfl ⟨f0, rfl, by rw [if_neg (ite_eq h10)], F_f0⟩
  · refine z_iload_n (pc := 13) (i := 2) (j := 2) rfl rfl rfl ?_
    refine z_iconst (pc := 14) (v := 1) rfl (by decide) ?_
    refine z_bipush (pc := 15) (v := 24) rfl (by decide) ?_
    refine z_cS (pc := 17) (mc1 := 0) (ms1 := 0) (mc2 := 0) (ms2 := 0) (as := [.int x, .int 1, .int 24]) (rest := []) ok_Mod_within rfl rfl cl_Mod_214 (by omega) (Nat.le_of_ble_eq_true rfl) (Nat.le_of_ble_eq_true rfl) (Nat.le_refl _) (Nat.le_refl _) (c_Mod_within x 1 24 0 _) (fun r1 w1 hp => ?_) rfl rfl
    obtain ⟨rfl, hw1⟩ := hp
    rw [hw1]
    refine ⟨⟨Nat.le_refl _, Or.inl rfl⟩, ?_⟩
    refine z_if_ne (pc := 20) (tgt := 25) rfl (by decide) (fun h20 => ?_) (fun h20 => ?_)
    · obtain ⟨j, hj, rfl⟩ := hOK_of hi.2.2.2.2.2.1 (ite_ne h10)
      have hj8 : j < 8 := Nat.lt_of_lt_of_le hj hi.2.2.2.2.2.1
      obtain ⟨n, hn, rfl⟩ : ∃ n : Nat, n ≤ 24 ∧ x = nI n := by
        have z1 : (1 : Int32).toInt = 1 := rfl
        have zk : (24 : Int32).toInt = 24 := rfl
        have := wi1_of h20
        exact ⟨x.toInt.toNat, by omega, by apply Int32.toInt_inj.mp; rw [nI_toInt (by omega)]; omega⟩
      refine z_aload_n (pc := 25) (i := 0) (j := 0) rfl rfl rfl ?_
      refine z_iload_n (pc := 26) (i := 1) (j := 1) rfl rfl rfl ?_
      refine z_cV (pc := 27) (mc1 := 0) (ms1 := 0) (mc2 := 0) (ms2 := 0) (as := [.int (nI j)]) (rest := []) (o := 44) rfl rfl hm.1 ok_Mod_wedTo rfl rfl cl_Mod_273 (by omega) (Nat.le_of_ble_eq_true rfl) (Nat.le_of_ble_eq_true rfl) (Nat.le_refl _) (Nat.le_refl _) (c_Mod_wedTo (w := zuI w f0) hm hj8 0) (fun r1 w1 hp => ?_) rfl rfl
      obtain ⟨rfl, hw1⟩ := hp
      rw [hw1, show zI (zuI w f0) 67 = zI w 67 from (F_f0.1 67 (by omega) (by decide) (by decide) (by decide))]
      refine ⟨⟨Nat.le_refl _, Or.inl rfl⟩, ?_⟩
      have j38 : ∀ a0 : Int32, (a0 = (if orN (wedTo (zI w 67) j) 8 = 0 then 0 else -1)) → zS 0 0 d m_Mod_free (fun rv w1 => ∃ f, w1 = zuI w f ∧ rv = some (.int (if hOK H (nI j) = true then (if (if (nI n) < 1 then 0 else if 24 < (nI n) then 0 else 1 : Int32) = 0 then -1 else (frQ (zI w) C R H V G (nI j).toNatClampNeg (if orN (wedTo (zI w 67) (nI j).toNatClampNeg) 8 = 0 then 0 else -1, if orN (wedTo (zI w 67) (nI j).toNatClampNeg) 8 = 0 then -1 else 0, zI w 67 139) (nI n).toNatClampNeg).1) else -1)) ∧ zFr w f) 38 [(0, .ref 44), (1, .int (nI j)), (2, .int (nI n))] [.int a0] (zuI w f0) := by
        intro a0 h_j38
        refine z_istore_n (pc := 38) (i := 3) (ls' := [(0, .ref 44), (1, .int (nI j)), (2, .int (nI n)), (3, .int a0)]) rfl rfl (by decide) rfl ?_
        refine z_aload_n (pc := 39) (i := 0) (j := 0) rfl rfl rfl ?_
        refine z_iload_n (pc := 40) (i := 1) (j := 1) rfl rfl rfl ?_
        refine z_cV (pc := 41) (mc1 := 0) (ms1 := 0) (mc2 := 0) (ms2 := 0) (as := [.int (nI j)]) (rest := []) (o := 44) rfl rfl hm.1 ok_Mod_wedTo rfl rfl cl_Mod_273 (by omega) (Nat.le_of_ble_eq_true rfl) (Nat.le_of_ble_eq_true rfl) (Nat.le_refl _) (Nat.le_refl _) (c_Mod_wedTo (w := zuI w f0) hm hj8 0) (fun r1 w1 hp => ?_) rfl rfl
        obtain ⟨rfl, hw1⟩ := hp
        rw [hw1, show zI (zuI w f0) 67 = zI w 67 from (F_f0.1 67 (by omega) (by decide) (by decide) (by decide))]
        refine ⟨⟨Nat.le_refl _, Or.inl rfl⟩, ?_⟩
        have j52 : ∀ b0 : Int32, (b0 = (if orN (wedTo (zI w 67) j) 8 = 0 then -1 else 0)) → zS 0 0 d m_Mod_free (fun rv w1 => ∃ f, w1 = zuI w f ∧ rv = some (.int (if hOK H (nI j) = true then (if (if (nI n) < 1 then 0 else if 24 < (nI n) then 0 else 1 : Int32) = 0 then -1 else (frQ (zI w) C R H V G (nI j).toNatClampNeg (if orN (wedTo (zI w 67) (nI j).toNatClampNeg) 8 = 0 then 0 else -1, if orN (wedTo (zI w 67) (nI j).toNatClampNeg) 8 = 0 then -1 else 0, zI w 67 139) (nI n).toNatClampNeg).1) else -1)) ∧ zFr w f) 52 [(0, .ref 44), (1, .int (nI j)), (2, .int (nI n)), (3, .int a0)] [.int b0] (zuI w f0) := by
          intro b0 h_j52
          refine z_istore (pc := 52) (i := 4) (ls' := [(0, .ref 44), (1, .int (nI j)), (2, .int (nI n)), (3, .int a0), (4, .int b0)]) rfl (by decide) rfl ?_
          refine z_aload_n (pc := 54) (i := 0) (j := 0) rfl rfl rfl ?_
          refine z_getR (pc := 55) (x := 67) rfl fl_Mod_78 hm.1 rfl (mr_67 hm) ?_
          refine z_sipush (pc := 58) (v := 139) rfl (by decide) ?_
          refine z_iald (pc := 61) rfl (mk_67 hm) (vp_in_nI (n := 139) (by decide) (by decide)) ?_
          refine z_eqi (y := zI w 67 139) (congrFun (F_f0.1 67 (by omega) (by decide) (by decide) (by decide)) 139) ?_
          refine z_istore (pc := 62) (i := 5) (ls' := [(0, .ref 44), (1, .int (nI j)), (2, .int (nI n)), (3, .int a0), (4, .int b0), (5, .int (zI w 67 139))]) rfl (by decide) rfl ?_
          refine z_iconst (pc := 64) (v := 0) rfl (by decide) ?_
          refine z_istore (pc := 65) (i := 6) (ls' := [(0, .ref 44), (1, .int (nI j)), (2, .int (nI n)), (3, .int a0), (4, .int b0), (5, .int (zI w 67 139)), (6, .int 0)]) rfl (by decide) rfl ?_
          refine zS_P ?_ (l_Mod_free hm hi hj (a0, b0, zI w 67 139) n hn d hd n 0 f0 (by omega) (by omega) F_f0)
          intro r1 w1 hp
          rw [if_pos (ite_ne h10), if_neg h20, nI_clamp (n := j) (by omega), nI_clamp (n := n) (by omega), ← h_j38, ← h_j52]
          exact hp
        refine z_if_ne (pc := 44) (tgt := 51) rfl (by decide) (fun h44 => ?_) (fun h44 => ?_)
        · refine z_iconst (pc := 51) (v := 0) rfl (by decide) ?_
          exact j52 _ (by rw [if_neg h44] <;> rfl)
        · refine z_iconst (pc := 47) (v := (-1)) rfl (by decide) ?_
          refine z_goto (pc := 48) (tgt := 52) rfl (by decide) ?_
          exact j52 _ (by rw [if_pos h44] <;> rfl)
      refine z_if_ne (pc := 30) (tgt := 37) rfl (by decide) (fun h30 => ?_) (fun h30 => ?_)
      · refine z_iconst (pc := 37) (v := (-1)) rfl (by decide) ?_
        exact j38 _ (by rw [if_neg h30] <;> rfl)
      · refine z_iconst (pc := 33) (v := 0) rfl (by decide) ?_
        refine z_goto (pc := 34) (tgt := 38) rfl (by decide) ?_
        exact j38 _ (by rw [if_pos h30] <;> rfl)
    · refine z_iconst (pc := 23) (v := (-1)) rfl (by decide) ?_
      exact z_iret (pc := 24) rfl rfl ⟨f0, rfl, by rw [if_pos (ite_ne h10), if_pos h20], F_f0⟩
