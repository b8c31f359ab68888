/-! COUNT of the model -/
def cntE (r : Nat → Int32) (x : Int32) (a b : Nat) : Int32 := if x = 4 then (if r (8 * a + b) ≤ 0 then 0 else 1) else if x = 5 then r (64 + 8 * a + b) else 0
def cntB (r : Nat → Int32) (x : Int32) (a : Nat) (c : Int32) : Nat → Int32
  | 0 => c
  | b + 1 => if a < b then cntB r x a c b + cntE r x a b else cntB r x a c b
theorem cntB_0 (r : Nat → Int32) (x : Int32) (a : Nat) (c : Int32) : ∀ b, b ≤ a + 1 → cntB r x a c b = c
  | 0, _ => rfl
  | b + 1, h => by show (if a < b then _ else cntB r x a c b) = c; rw [if_neg (by omega)]; exact cntB_0 r x a c b (by omega)
def cntA (r : Nat → Int32) (x : Int32) : Nat → Int32
  | 0 => 0
  | a + 1 => cntB r x a (cntA r x a) 8
def cntV (r : Nat → Int32) (x : Int32) : Int32 := if x = 6 then cntA r x 8 + rsum (fun k => r (176 + k)) 1152 else cntA r x 8
def mCount (f : Nat → Nat → Int32) (x : Int32) : Int32 := if x = 0 then f 46 0 else if x = 1 then f 46 1 else if x = 2 then f 46 4 else if x = 3 then f 67 138 else if 7 ≤ x then (if x = 7 then f 67 140 else f 44 1) else cntV (f 67) x
set_option maxRecDepth 100000 in
set_option maxHeartbeats 4000000 in
theorem lI_Mod_count {w : zW} (hm : zMo w) {P : Option Value → zW → Prop} (x c : Int32) {a : Nat} (ha : a < 8) (d : Nat) (kx : ∀ f : Nat → Nat → Int32, zFr w f → zS 0 0 d m_Mod_count P 155 [(0, .ref 44), (1, .int x), (2, .int (cntB (zI w 67) x a c 8)), (3, .int (nI a))] [] (zuI w f)) : ∀ (m i : Nat) (f : Nat → Nat → Int32), i ≤ 8 → 8 ≤ i + m → (a < i ∧ zFr w f) → zS 0 0 d m_Mod_count P 87 [(0, .ref 44), (1, .int x), (2, .int (cntB (zI w 67) x a c i)), (3, .int (nI a)), (4, .int (nI i))] [] (zuI w f) := by
  have hex : ∀ f : Nat → Nat → Int32, (a < 8 ∧ zFr w f) → zS 0 0 d m_Mod_count P 87 [(0, .ref 44), (1, .int x), (2, .int (cntB (zI w 67) x a c 8)), (3, .int (nI a)), (4, .int (nI 8))] [] (zuI w f) := by
    intro f hf
    refine z_iload (pc := 87) (i := 4) (j := 4) rfl rfl ?_
    refine z_bipush (pc := 89) (v := 8) rfl (by decide) ?_
    refine z_icmp_ge (pc := 91) (tgt := 155) rfl (by decide) (fun h91 => ?_) (fun h91 => ?_)
    · exact z_drop (by simp) (kx f hf.2)
    · exact absurd (by decide) h91
  intro m
  induction m with
  | zero =>
    intro i f hii hmm hf
    obtain rfl : i = 8 := by omega
    exact hex f hf
  | succ m ih =>
    intro i f hii hmm hf
    by_cases hlt : i < 8
    · skip
      have F_f := hf.2
      refine z_iload (pc := 87) (i := 4) (j := 4) rfl rfl ?_
      refine z_bipush (pc := 89) (v := 8) rfl (by decide) ?_
      refine z_icmp_ge (pc := 91) (tgt := 155) rfl (by decide) (fun h91 => ?_) (fun h91 => ?_)
      · exact absurd h91 (nI_ge (b := 8) hlt (by decide))
      · have j147 : ∀ u : Int32, (u = cntE (zI w 67) x a i) → zS 0 0 d m_Mod_count P 147 [(0, .ref 44), (1, .int x), (2, .int (cntB (zI w 67) x a c i)), (3, .int (nI a)), (4, .int (nI i))] [.int u, .int (cntB (zI w 67) x a c i)] (zuI w f) := by
          intro u h_j147
          refine z_iadd (pc := 147) rfl ?_
          refine z_istore_n (pc := 148) (i := 2) (ls' := [(0, .ref 44), (1, .int x), (2, .int ((cntB (zI w 67) x a c i) + u)), (3, .int (nI a)), (4, .int (nI i))]) rfl rfl (by decide) rfl ?_
          refine z_iinc (pc := 149) (i := 4) (j := 4) (v := nI (i + 1)) (ls' := [(0, .ref 44), (1, .int x), (2, .int ((cntB (zI w 67) x a c i) + u)), (3, .int (nI a)), (4, .int (nI (i + 1)))]) rfl rfl (nI_1 i) (by decide) rfl ?_
          refine z_goto (pc := 152) (tgt := 87) rfl (by decide) ?_
          have e1 : cntB (zI w 67) x a c (i + 1) = cntB (zI w 67) x a c i + cntE (zI w 67) x a i := if_pos hf.1
          rw [h_j147, ← e1]
          exact ih (i + 1) f (by omega) (by omega) ⟨by omega, F_f⟩
        refine z_iload_n (pc := 94) (i := 2) (j := 2) rfl rfl rfl ?_
        refine z_iload_n (pc := 95) (i := 1) (j := 1) rfl rfl rfl ?_
        refine z_iconst (pc := 96) (v := 4) rfl (by decide) ?_
        refine z_icmp_ne (pc := 97) (tgt := 123) rfl (by decide) (fun h97 => ?_) (fun h97 => ?_)
        · refine z_iload_n (pc := 123) (i := 1) (j := 1) rfl rfl rfl ?_
          refine z_iconst (pc := 124) (v := 5) rfl (by decide) ?_
          refine z_icmp_ne (pc := 125) (tgt := 146) rfl (by decide) (fun h125 => ?_) (fun h125 => ?_)
          · refine z_iconst (pc := 146) (v := 0) rfl (by decide) ?_
            exact j147 _ (by unfold cntE; rw [if_neg h97, if_neg h125])
          · refine z_aload_n (pc := 128) (i := 0) (j := 0) rfl rfl rfl ?_
            refine z_getR (pc := 129) (x := 67) rfl fl_Mod_78 hm.1 rfl (mr_67 hm) ?_
            refine z_bipush (pc := 132) (v := 64) rfl (by decide) ?_
            refine z_bipush (pc := 134) (v := 8) rfl (by decide) ?_
            refine z_iload_n (pc := 136) (i := 3) (j := 3) rfl rfl rfl ?_
            refine z_imul (pc := 137) rfl ?_
            refine z_iadd (pc := 138) rfl ?_
            refine z_iload (pc := 139) (i := 4) (j := 4) rfl rfl ?_
            refine z_iadd (pc := 141) rfl ?_
            refine z_eqi (y := nI (64 + 8 * a + i)) (by rw [show (8 : Int32) = nI 8 from rfl, show (64 : Int32) = nI 64 from rfl, pk_mul, nI_add, nI_add]) ?_
            refine z_iald (pc := 142) rfl (mk_67 hm) (vp_in_nI (show 64 + 8 * a + i < 1344 by omega) (by decide)) ?_
            refine z_eqi (y := zI w 67 (64 + 8 * a + i)) (by rw [nI_clamp (by omega)]; exact congrFun (F_f.1 67 (by omega) (by decide) (by decide) (by decide)) _) ?_
            refine z_goto (pc := 143) (tgt := 147) rfl (by decide) ?_
            exact j147 _ (by unfold cntE; rw [if_neg h97, if_pos h125])
        · refine z_aload_n (pc := 100) (i := 0) (j := 0) rfl rfl rfl ?_
          refine z_getR (pc := 101) (x := 67) rfl fl_Mod_78 hm.1 rfl (mr_67 hm) ?_
          refine z_bipush (pc := 104) (v := 8) rfl (by decide) ?_
          refine z_iload_n (pc := 106) (i := 3) (j := 3) rfl rfl rfl ?_
          refine z_imul (pc := 107) rfl ?_
          refine z_iload (pc := 108) (i := 4) (j := 4) rfl rfl ?_
          refine z_iadd (pc := 110) rfl ?_
          refine z_eqi (y := nI (8 * a + i)) (by rw [show (8 : Int32) = nI 8 from rfl, pk_mul, nI_add]) ?_
          refine z_iald (pc := 111) rfl (mk_67 hm) (vp_in_nI (show 8 * a + i < 1344 by omega) (by decide)) ?_
          refine z_eqi (y := zI w 67 (8 * a + i)) (by rw [nI_clamp (by omega)]; exact congrFun (F_f.1 67 (by omega) (by decide) (by decide) (by decide)) _) ?_
          refine z_if_le (pc := 112) (tgt := 119) rfl (by decide) (fun h112 => ?_) (fun h112 => ?_)
          · refine z_iconst (pc := 119) (v := 0) rfl (by decide) ?_
            refine z_goto (pc := 120) (tgt := 147) rfl (by decide) ?_
            exact j147 _ (by unfold cntE; rw [if_pos h97, if_pos h112])
          · refine z_iconst (pc := 115) (v := 1) rfl (by decide) ?_
            refine z_goto (pc := 116) (tgt := 147) rfl (by decide) ?_
            exact j147 _ (by unfold cntE; rw [if_pos h97, if_neg h112])
    · obtain rfl : i = 8 := by omega
      exact hex f hf
set_option maxRecDepth 100000 in
set_option maxHeartbeats 4000000 in
theorem lO_Mod_count {w : zW} (hm : zMo w) {P : Option Value → zW → Prop} (x : Int32) (d : Nat) (kx : ∀ f : Nat → Nat → Int32, zFr w f → zS 0 0 d m_Mod_count P 161 [(0, .ref 44), (1, .int x), (2, .int (cntA (zI w 67) x 8))] [] (zuI w f)) : ∀ (m i : Nat) (f : Nat → Nat → Int32), i ≤ 8 → 8 ≤ i + m → (zFr w f) → zS 0 0 d m_Mod_count P 76 [(0, .ref 44), (1, .int x), (2, .int (cntA (zI w 67) x i)), (3, .int (nI i))] [] (zuI w f) := by
  have hex : ∀ f : Nat → Nat → Int32, (zFr w f) → zS 0 0 d m_Mod_count P 76 [(0, .ref 44), (1, .int x), (2, .int (cntA (zI w 67) x 8)), (3, .int (nI 8))] [] (zuI w f) := by
    intro f hf
    refine z_iload_n (pc := 76) (i := 3) (j := 3) rfl rfl rfl ?_
    refine z_bipush (pc := 77) (v := 8) rfl (by decide) ?_
    refine z_icmp_ge (pc := 79) (tgt := 161) rfl (by decide) (fun h79 => ?_) (fun h79 => ?_)
    · exact z_drop (by simp) (kx f hf)
    · exact absurd (by decide) h79
  intro m
  induction m with
  | zero =>
    intro i f hii hmm hf
    obtain rfl : i = 8 := by omega
    exact hex f hf
  | succ m ih =>
    intro i f hii hmm hf
    by_cases hlt : i < 8
    · skip
      refine z_iload_n (pc := 76) (i := 3) (j := 3) rfl rfl rfl ?_
      refine z_bipush (pc := 77) (v := 8) rfl (by decide) ?_
      refine z_icmp_ge (pc := 79) (tgt := 161) rfl (by decide) (fun h79 => ?_) (fun h79 => ?_)
      · exact absurd h79 (nI_ge (b := 8) hlt (by decide))
      · refine z_iload_n (pc := 82) (i := 3) (j := 3) rfl rfl rfl ?_
        refine z_iconst (pc := 83) (v := 1) rfl (by decide) ?_
        refine z_iadd (pc := 84) rfl ?_
        refine z_eqi (y := nI (i + 1)) (nI_1 i) ?_
        refine z_istore (pc := 85) (i := 4) (ls' := [(0, .ref 44), (1, .int x), (2, .int (cntA (zI w 67) x i)), (3, .int (nI i)), (4, .int (nI (i + 1)))]) rfl (by decide) rfl ?_
        have l := lI_Mod_count (w := w) hm (P := P) x (cntA (zI w 67) x i) hlt d ?_ 8 (i + 1) f (by omega) (by omega) ⟨by omega, hf⟩
        · rw [cntB_0 _ _ _ _ _ (by omega)] at l
          exact l
        intro f hf
        refine z_iinc (pc := 155) (i := 3) (j := 3) (v := nI (i + 1)) (ls' := [(0, .ref 44), (1, .int x), (2, .int (cntA (zI w 67) x (i + 1))), (3, .int (nI (i + 1)))]) rfl rfl (nI_1 i) (by decide) rfl ?_
        refine z_goto (pc := 158) (tgt := 76) rfl (by decide) ?_
        exact ih (i + 1) f (by omega) (by omega) hf
    · obtain rfl : i = 8 := by omega
      exact hex f hf
set_option maxRecDepth 100000 in
set_option maxHeartbeats 4000000 in
theorem lS_Mod_count {w : zW} (hm : zMo w) {P : Option Value → zW → Prop} (x : Int32) (hx : x = 6) (d : Nat) (kx : ∀ f : Nat → Nat → Int32, zFr w f → zS 0 0 d m_Mod_count P 193 [(0, .ref 44), (1, .int x), (2, .int (cntA (zI w 67) x 8 + rsum (fun k => zI w 67 (176 + k)) 1152))] [] (zuI w f)) : ∀ (m i : Nat) (f : Nat → Nat → Int32), i ≤ 1152 → 1152 ≤ i + m → (zFr w f) → zS 0 0 d m_Mod_count P 165 [(0, .ref 44), (1, .int x), (2, .int (cntA (zI w 67) x 8 + rsum (fun k => zI w 67 (176 + k)) i)), (3, .int (nI (176 + i)))] [] (zuI w f) := by
  have hex : ∀ f : Nat → Nat → Int32, (zFr w f) → zS 0 0 d m_Mod_count P 165 [(0, .ref 44), (1, .int x), (2, .int (cntA (zI w 67) x 8 + rsum (fun k => zI w 67 (176 + k)) 1152)), (3, .int (nI (176 + 1152)))] [] (zuI w f) := by
    intro f hf
    refine z_iload_n (pc := 165) (i := 3) (j := 3) rfl rfl rfl ?_
    refine z_sipush (pc := 166) (v := 1328) rfl (by decide) ?_
    refine z_icmp_ge (pc := 169) (tgt := 193) rfl (by decide) (fun h169 => ?_) (fun h169 => ?_)
    · exact z_drop (by simp) (kx f hf)
    · exact absurd (by decide) h169
  intro m
  induction m with
  | zero =>
    intro i f hii hmm hf
    obtain rfl : i = 1152 := by omega
    exact hex f hf
  | succ m ih =>
    intro i f hii hmm hf
    by_cases hlt : i < 1152
    · skip
      have F_f := hf
      refine z_iload_n (pc := 165) (i := 3) (j := 3) rfl rfl rfl ?_
      refine z_sipush (pc := 166) (v := 1328) rfl (by decide) ?_
      refine z_icmp_ge (pc := 169) (tgt := 193) rfl (by decide) (fun h169 => ?_) (fun h169 => ?_)
      · exact absurd h169 (nI_ge (b := 1328) (by omega) (by decide))
      · refine z_iload_n (pc := 172) (i := 1) (j := 1) rfl rfl rfl ?_
        refine z_bipush (pc := 173) (v := 6) rfl (by decide) ?_
        refine z_icmp_ne (pc := 175) (tgt := 193) rfl (by decide) (fun h175 => ?_) (fun h175 => ?_)
        · exact absurd hx h175
        · refine z_iload_n (pc := 178) (i := 2) (j := 2) rfl rfl rfl ?_
          refine z_aload_n (pc := 179) (i := 0) (j := 0) rfl rfl rfl ?_
          refine z_getR (pc := 180) (x := 67) rfl fl_Mod_78 hm.1 rfl (mr_67 hm) ?_
          refine z_iload_n (pc := 183) (i := 3) (j := 3) rfl rfl rfl ?_
          refine z_iald (pc := 184) rfl (mk_67 hm) (vp_in_nI (show 176 + i < 1344 by omega) (by decide)) ?_
          refine z_eqi (y := zI w 67 (176 + i)) (by rw [nI_clamp (by omega)]; exact congrFun (F_f.1 67 (by omega) (by decide) (by decide) (by decide)) _) ?_
          refine z_iadd (pc := 185) rfl ?_
          refine z_istore_n (pc := 186) (i := 2) (ls' := [(0, .ref 44), (1, .int x), (2, .int ((cntA (zI w 67) x 8 + rsum (fun k => zI w 67 (176 + k)) i) + (zI w 67 (176 + i)))), (3, .int (nI (176 + i)))]) rfl rfl (by decide) rfl ?_
          refine z_iinc (pc := 187) (i := 3) (j := 3) (v := nI (176 + (i + 1))) (ls' := [(0, .ref 44), (1, .int x), (2, .int ((cntA (zI w 67) x 8 + rsum (fun k => zI w 67 (176 + k)) i) + (zI w 67 (176 + i)))), (3, .int (nI (176 + (i + 1))))]) rfl rfl (nI_1 (176 + i)) (by decide) rfl ?_
          refine z_goto (pc := 190) (tgt := 165) rfl (by decide) ?_
          have e1 : cntA (zI w 67) x 8 + rsum (fun k => zI w 67 (176 + k)) (i + 1) = cntA (zI w 67) x 8 + rsum (fun k => zI w 67 (176 + k)) i + zI w 67 (176 + i) := (Int32.add_assoc _ _ _).symm
          rw [← e1]
          exact ih (i + 1) f (by omega) (by omega) hf
    · obtain rfl : i = 1152 := by omega
      exact hex f hf
theorem count_3 {x : Int32} (h : ¬ (if x < 0 then 0 else if 8 < x then 0 else 1 : Int32) = 0) (h4 : ¬ 4 ≤ x) (h0 : ¬ x = 0) (h1 : ¬ x = 1) (h2 : ¬ x = 2) : x = 3 := by
  have := wi_of h
  have z0 : (0 : Int32).toInt = 0 := rfl
  have z1 : (1 : Int32).toInt = 1 := rfl
  have z2 : (2 : Int32).toInt = 2 := rfl
  have z3 : (3 : Int32).toInt = 3 := rfl
  have z4 : (4 : Int32).toInt = 4 := rfl
  rw [fa_le] at h4
  rw [fa_eq] at h0 h1 h2 ⊢
  omega
set_option maxRecDepth 100000 in
set_option maxHeartbeats 4000000 in
theorem c_Mod_count {w : zW} (hm : zMo w) {C R H : Nat} {V : Int32 → Int32} {G : Int32 → Int32 → Int32 → Int32} (hi : zMi (zI w) C R H V G) (x : Int32) (d : Nat) (hd : 1 ≤ d) : zS 0 0 d m_Mod_count (fun rv w1 => ∃ f, w1 = zuI w f ∧ rv = some (.int (if (if x < 0 then 0 else if 8 < x then 0 else 1 : Int32) = 0 then -1 else mCount (zI w) x)) ∧ zFr w f) 0 [(0, .ref 44), (1, .int x)] [] w := by
  refine z_aload_n (pc := 0) (i := 0) (j := 0) rfl rfl rfl ?_
  refine z_iconst (pc := 1) (v := 0) rfl (by decide) ?_
  refine z_putI (pc := 2) rfl fl_Mod_100 hm.1 rfl  ?_
  change zS _ _ _ _ _ _ _ _ (zuI w (z2 (zI w) 44 0 0))
  obtain ⟨f0, hf0⟩ : ∃ f0, f0 = z2 (zI w) 44 0 0 := ⟨_, rfl⟩
  rw [← hf0]
  have F_f0 : zFr w f0 := hf0 ▸ zFr_0 w
  refine z_iload_n (pc := 5) (i := 1) (j := 1) rfl rfl rfl ?_
  refine z_iconst (pc := 6) (v := 0) rfl (by decide) ?_
  refine z_bipush (pc := 7) (v := 8) rfl (by decide) ?_
  refine z_cS (pc := 9) (mc1 := 0) (ms1 := 0) (mc2 := 0) (ms2 := 0) (as := [.int x, .int 0, .int 8]) (rest := []) ok_Mod_within rfl rfl cl_Mod_214 (by omega) (Nat.le_of_ble_eq_true rfl) (Nat.le_of_ble_eq_true rfl) (Nat.le_refl _) (Nat.le_refl _) (c_Mod_within x 0 8 0 _) (fun r1 w1 hp => ?_) rfl rfl
  obtain ⟨rfl, hw1⟩ := hp
  rw [hw1]
  refine ⟨⟨Nat.le_refl _, Or.inl rfl⟩, ?_⟩
  refine z_if_ne (pc := 12) (tgt := 17) rfl (by decide) (fun h12 => ?_) (fun h12 => ?_)
  · refine z_iload_n (pc := 17) (i := 1) (j := 1) rfl rfl rfl ?_
    refine z_iconst (pc := 18) (v := 4) rfl (by decide) ?_
    refine z_icmp_ge (pc := 19) (tgt := 72) rfl (by decide) (fun h19 => ?_) (fun h19 => ?_)
    · refine z_iconst (pc := 72) (v := 0) rfl (by decide) ?_
      refine z_istore_n (pc := 73) (i := 2) (ls' := [(0, .ref 44), (1, .int x), (2, .int 0)]) rfl rfl (by decide) rfl ?_
      refine z_iconst (pc := 74) (v := 0) rfl (by decide) ?_
      refine z_istore_n (pc := 75) (i := 3) (ls' := [(0, .ref 44), (1, .int x), (2, .int 0), (3, .int 0)]) rfl rfl (by decide) rfl ?_
      refine lO_Mod_count hm x d ?_ 8 0 f0 (by omega) (by omega) F_f0
      intro f F_f
      have k193 : ∀ f : Nat → Nat → Int32, zFr w f → zS 0 0 d m_Mod_count (fun rv w1 => ∃ f, w1 = zuI w f ∧ rv = some (.int (if (if x < 0 then 0 else if 8 < x then 0 else 1 : Int32) = 0 then -1 else mCount (zI w) x)) ∧ zFr w f) 193 [(0, .ref 44), (1, .int x), (2, .int (cntV (zI w 67) x))] [] (zuI w f) := by
        intro f F_f
        refine z_iload_n (pc := 193) (i := 1) (j := 1) rfl rfl rfl ?_
        refine z_bipush (pc := 194) (v := 7) rfl (by decide) ?_
        refine z_icmp_ge (pc := 196) (tgt := 203) rfl (by decide) (fun h196 => ?_) (fun h196 => ?_)
        · refine z_iload_n (pc := 203) (i := 1) (j := 1) rfl rfl rfl ?_
          refine z_bipush (pc := 204) (v := 7) rfl (by decide) ?_
          refine z_icmp_ne (pc := 206) (tgt := 220) rfl (by decide) (fun h206 => ?_) (fun h206 => ?_)
          · refine z_aload_n (pc := 220) (i := 0) (j := 0) rfl rfl rfl ?_
            refine z_getI (pc := 221) rfl fl_Mod_106 hm.1 rfl ?_
            refine z_eqi (y := zI w 44 1) (F_f.2.1 1 (by decide)) ?_
            exact z_iret (pc := 224) rfl rfl ⟨f, rfl, by have h4 := house_4 h19; rw [if_neg h12]; unfold mCount; rw [if_neg h4.1, if_neg h4.2.1, if_neg h4.2.2.1, if_neg h4.2.2.2, if_pos h196, if_neg h206], F_f⟩
          · refine z_aload_n (pc := 209) (i := 0) (j := 0) rfl rfl rfl ?_
            refine z_getR (pc := 210) (x := 67) rfl fl_Mod_78 hm.1 rfl (mr_67 hm) ?_
            refine z_sipush (pc := 213) (v := 140) rfl (by decide) ?_
            refine z_iald (pc := 216) rfl (mk_67 hm) (vp_in_nI (n := 140) (by decide) (by decide)) ?_
            refine z_eqi (y := zI w 67 140) (congrFun (F_f.1 67 (by omega) (by decide) (by decide) (by decide)) 140) ?_
            refine z_goto (pc := 217) (tgt := 224) rfl (by decide) ?_
            exact z_iret (pc := 224) rfl rfl ⟨f, rfl, by have h4 := house_4 h19; rw [if_neg h12]; unfold mCount; rw [if_neg h4.1, if_neg h4.2.1, if_neg h4.2.2.1, if_neg h4.2.2.2, if_pos h196, if_pos h206], F_f⟩
        · refine z_iload_n (pc := 199) (i := 2) (j := 2) rfl rfl rfl ?_
          refine z_goto (pc := 200) (tgt := 224) rfl (by decide) ?_
          exact z_iret (pc := 224) rfl rfl ⟨f, rfl, by have h4 := house_4 h19; rw [if_neg h12]; unfold mCount; rw [if_neg h4.1, if_neg h4.2.1, if_neg h4.2.2.1, if_neg h4.2.2.2, if_neg h196], F_f⟩
      refine z_sipush (pc := 161) (v := 176) rfl (by decide) ?_
      refine z_istore_n (pc := 164) (i := 3) (ls' := [(0, .ref 44), (1, .int x), (2, .int (cntA (zI w 67) x 8)), (3, .int (nI (176 + 0)))]) rfl rfl (by decide) rfl ?_
      by_cases hx : x = 6
      · have l := lS_Mod_count hm (P := (fun rv w1 => ∃ f, w1 = zuI w f ∧ rv = some (.int (if (if x < 0 then 0 else if 8 < x then 0 else 1 : Int32) = 0 then -1 else mCount (zI w) x)) ∧ zFr w f)) x hx d ?_ 1152 0 f (by omega) (by omega) F_f
        · rw [show rsum (fun k => zI w 67 (176 + k)) 0 = 0 from rfl, Int32.add_zero] at l
          exact l
        intro g F_g
        have e : cntV (zI w 67) x = cntA (zI w 67) x 8 + rsum (fun k => zI w 67 (176 + k)) 1152 := if_pos hx
        rw [← e]
        exact k193 g F_g
      · have e : cntV (zI w 67) x = cntA (zI w 67) x 8 := if_neg hx
        rw [← e]
        refine z_iload_n (pc := 165) (i := 3) (j := 3) rfl rfl rfl ?_
        refine z_sipush (pc := 166) (v := 1328) rfl (by decide) ?_
        refine z_icmp_ge (pc := 169) (tgt := 193) rfl (by decide) (fun h => absurd h (by decide)) (fun _ => ?_)
        refine z_iload_n (pc := 172) (i := 1) (j := 1) rfl rfl rfl ?_
        refine z_bipush (pc := 173) (v := 6) rfl (by decide) ?_
        refine z_icmp_ne (pc := 175) (tgt := 193) rfl (by decide) (fun _ => ?_) (fun h => absurd h hx)
        exact z_drop (by simp) (k193 f F_f)
    · refine z_iload_n (pc := 22) (i := 1) (j := 1) rfl rfl rfl ?_
      refine z_if_ne (pc := 23) (tgt := 35) rfl (by decide) (fun h23 => ?_) (fun h23 => ?_)
      · refine z_iload_n (pc := 35) (i := 1) (j := 1) rfl rfl rfl ?_
        refine z_iconst (pc := 36) (v := 1) rfl (by decide) ?_
        refine z_icmp_ne (pc := 37) (tgt := 49) rfl (by decide) (fun h37 => ?_) (fun h37 => ?_)
        · refine z_iload_n (pc := 49) (i := 1) (j := 1) rfl rfl rfl ?_
          refine z_iconst (pc := 50) (v := 2) rfl (by decide) ?_
          refine z_icmp_ne (pc := 51) (tgt := 63) rfl (by decide) (fun h51 => ?_) (fun h51 => ?_)
          · refine z_aload_n (pc := 63) (i := 0) (j := 0) rfl rfl rfl ?_
            refine z_getR (pc := 64) (x := 67) rfl fl_Mod_78 hm.1 rfl (mr_67 hm) ?_
            refine z_sipush (pc := 67) (v := 138) rfl (by decide) ?_
            refine z_iald (pc := 70) rfl (mk_67 hm) (vp_in_nI (n := 138) (by decide) (by decide)) ?_
            refine z_eqi (y := zI w 67 138) (congrFun (F_f0.1 67 (by omega) (by decide) (by decide) (by decide)) 138) ?_
            exact z_iret (pc := 71) rfl rfl ⟨f0, rfl, by rw [if_neg h12]; unfold mCount; rw [if_neg h23, if_neg h37, if_neg h51, if_pos (count_3 h12 h19 h23 h37 h51)], F_f0⟩
          · refine z_aload_n (pc := 54) (i := 0) (j := 0) rfl rfl rfl ?_
            refine z_getR (pc := 55) (x := 46) rfl fl_Mod_13 hm.1 rfl (mr_46 hm) ?_
            refine z_iconst (pc := 58) (v := 4) rfl (by decide) ?_
            refine z_iald (pc := 59) rfl (mk_46 hm) (vp_in_nI (n := 4) (by decide) (by decide)) ?_
            refine z_eqi (y := zI w 46 4) (congrFun (F_f0.1 46 (by omega) (by decide) (by decide) (by decide)) 4) ?_
            refine z_goto (pc := 60) (tgt := 71) rfl (by decide) ?_
            exact z_iret (pc := 71) rfl rfl ⟨f0, rfl, by rw [if_neg h12]; unfold mCount; rw [if_neg h23, if_neg h37, if_pos h51], F_f0⟩
        · refine z_aload_n (pc := 40) (i := 0) (j := 0) rfl rfl rfl ?_
          refine z_getR (pc := 41) (x := 46) rfl fl_Mod_13 hm.1 rfl (mr_46 hm) ?_
          refine z_iconst (pc := 44) (v := 1) rfl (by decide) ?_
          refine z_iald (pc := 45) rfl (mk_46 hm) (vp_in_nI (n := 1) (by decide) (by decide)) ?_
          refine z_eqi (y := zI w 46 1) (congrFun (F_f0.1 46 (by omega) (by decide) (by decide) (by decide)) 1) ?_
          refine z_goto (pc := 46) (tgt := 71) rfl (by decide) ?_
          exact z_iret (pc := 71) rfl rfl ⟨f0, rfl, by rw [if_neg h12]; unfold mCount; rw [if_neg h23, if_pos h37], F_f0⟩
      · refine z_aload_n (pc := 26) (i := 0) (j := 0) rfl rfl rfl ?_
        refine z_getR (pc := 27) (x := 46) rfl fl_Mod_13 hm.1 rfl (mr_46 hm) ?_
        refine z_iconst (pc := 30) (v := 0) rfl (by decide) ?_
        refine z_iald (pc := 31) rfl (mk_46 hm) (vp_in_nI (n := 0) (by decide) (by decide)) ?_
        refine z_eqi (y := zI w 46 0) (congrFun (F_f0.1 46 (by omega) (by decide) (by decide) (by decide)) 0) ?_
        refine z_goto (pc := 32) (tgt := 71) rfl (by decide) ?_
        exact z_iret (pc := 71) rfl rfl ⟨f0, rfl, by rw [if_neg h12]; unfold mCount; rw [if_pos h23], F_f0⟩
  · refine z_iconst (pc := 15) (v := (-1)) rfl (by decide) ?_
    exact z_iret (pc := 16) rfl rfl ⟨f0, rfl, by rw [if_pos h12], F_f0⟩
