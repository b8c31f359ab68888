/-! THE MODEL'S TOKENS -/
def mK (w : zW) (n : Nat) (T : Nat → Int32) : Prop := zMo w ∧ zI w 44 3 = nI n ∧ n ≤ 1000 ∧ zI w 45 = T ∧ ∀ k, k < n → tok (T k) = true
theorem mK_I {w : zW} {n : Nat} {T : Nat → Int32} (h : mK w n T) {k : Nat} (hk : k ≠ 3) (x : Int32) : mK (zsI w 44 k x) n T := ⟨h.1, (z2_k (zI w) 44 (k := k) (b := 3) x (fun e => hk e.symm)).trans h.2.1, h.2.2.1, (z2_off (zI w) (o := 44) (a := 45) k x (by decide)).trans h.2.2.2.1, h.2.2.2.2⟩
theorem mK_L {w : zW} {n : Nat} {T : Nat → Int32} (h : mK w n T) (k : Nat) (x : Int64) : mK (zsL w 44 k x) n T := ⟨h.1, h.2.1, h.2.2.1, h.2.2.2.1, h.2.2.2.2⟩
def sgA (T : Nat → Int32) (n j : Nat) : Int32 := if j < n then T j else 0
def kM (T : Nat → Int32) (a k : Nat) : Int64 := keyM T a (if k ≤ 8 then k else 8)
def nM (T : Nat → Int32) (a k : Nat) : Int32 := numV T a (if k ≤ 4 then k else 4)
set_option maxRecDepth 100000 in
set_option maxHeartbeats 4000000 in
theorem c_Mod_signAt {w : zW} {n : Nat} {T : Nat → Int32} (hk : mK w n T) {j : Nat} (hj : j ≤ 1000) (d : Nat) : zS 0 0 d m_Mod_signAt (fun rv w1 => rv = some (.int (sgA T n j)) ∧ w1 = w) 0 [(0, .ref 44), (1, .int (nI j))] [] w := by
  refine z_iload_n (pc := 0) (i := 1) (j := 1) rfl rfl rfl ?_
  refine z_aload_n (pc := 1) (i := 0) (j := 0) rfl rfl rfl ?_
  refine z_getI (pc := 2) rfl fl_Mod_109 hk.1.1 rfl ?_
  refine z_eqi (y := nI n) hk.2.1 ?_
  refine z_icmp_ge (pc := 5) (tgt := 17) rfl (by decide) (fun h5 => ?_) (fun h5 => ?_)
  · refine z_iconst (pc := 17) (v := 0) rfl (by decide) ?_
    exact z_iret (pc := 18) rfl rfl ⟨by unfold sgA; rw [if_neg (fun z => absurd h5 (nI_ge z (by have := hk.2.2.1; omega)))], rfl⟩
  · have hlt : j < n := zlt_of n (by omega) h5
    have hj1 : j < 1000 := by have := hk.2.2.1; omega
    refine z_aload_n (pc := 8) (i := 0) (j := 0) rfl rfl rfl ?_
    refine z_getR (pc := 9) (x := 45) rfl fl_Mod_7 hk.1.1 rfl (mr_45 hk.1) ?_
    refine z_iload_n (pc := 12) (i := 1) (j := 1) rfl rfl rfl ?_
    refine z_iald (pc := 13) rfl (mk_45 hk.1) (vp_in_nI (n := j) (N := 1000) hj1 (by decide)) ?_
    refine z_eqi (y := T j) (by rw [nI_clamp (by omega), hk.2.2.2.1]) ?_
    refine z_goto (pc := 14) (tgt := 18) rfl (by decide) ?_
    exact z_iret (pc := 18) rfl rfl ⟨by unfold sgA; rw [if_pos hlt], rfl⟩
set_option maxRecDepth 100000 in
set_option maxHeartbeats 4000000 in
theorem l_Mod_blanks {w : zW} {n : Nat} {T : Nat → Int32} (hk : mK w n T) {P : Option Value → zW → Prop} (d : Nat) : ∀ m p, p ≤ n → n ≤ p + m → zS 0 0 d m_Mod_nextToken P 52 [(0, .ref 44)] [] (zsI w 44 4 (nI (rn isBl T n p))) → zS 0 0 d m_Mod_nextToken P 0 [(0, .ref 44)] [] (zsI w 44 4 (nI p)) := by
  have hn1 := hk.2.2.1
  intro m
  induction m with
  | zero =>
    intro p hp hm hP
    by_cases hlt : p < n
    · omega
    · skip
      refine z_aload_n (pc := 0) (i := 0) (j := 0) rfl rfl rfl ?_
      refine z_getI (pc := 1) rfl fl_Mod_112 hk.1.1 rfl ?_
      refine z_eqi (y := nI p) rfl ?_
      refine z_aload_n (pc := 4) (i := 0) (j := 0) rfl rfl rfl ?_
      refine z_getI (pc := 5) rfl fl_Mod_109 hk.1.1 rfl ?_
      refine z_eqi (y := nI n) hk.2.1 ?_
      refine z_icmp_ge (pc := 8) (tgt := 52) rfl (by decide) (fun h8 => ?_) (fun h8 => ?_)
      · rw [rn_f (fun q => absurd h8 (nI_ge q.1 (by omega)))] at hP
        exact hP
      · exact absurd (nI_le (by omega) (by omega)) h8
  | succ m ih =>
    intro p hp hm hP
    by_cases hlt : p < n
    · skip
      refine z_aload_n (pc := 0) (i := 0) (j := 0) rfl rfl rfl ?_
      refine z_getI (pc := 1) rfl fl_Mod_112 hk.1.1 rfl ?_
      refine z_eqi (y := nI p) rfl ?_
      refine z_aload_n (pc := 4) (i := 0) (j := 0) rfl rfl rfl ?_
      refine z_getI (pc := 5) rfl fl_Mod_109 hk.1.1 rfl ?_
      refine z_eqi (y := nI n) hk.2.1 ?_
      refine z_icmp_ge (pc := 8) (tgt := 52) rfl (by decide) (fun h8 => ?_) (fun h8 => ?_)
      · exact absurd h8 (nI_ge hlt (by omega))
      · refine z_aload_n (pc := 11) (i := 0) (j := 0) rfl rfl rfl ?_
        refine z_getR (pc := 12) (x := 45) rfl fl_Mod_7 hk.1.1 rfl (mr_45 hk.1) ?_
        refine z_aload_n (pc := 15) (i := 0) (j := 0) rfl rfl rfl ?_
        refine z_getI (pc := 16) rfl fl_Mod_112 hk.1.1 rfl ?_
        refine z_eqi (y := nI p) rfl ?_
        refine z_iald (pc := 19) rfl (mk_45 hk.1) (vp_in_nI (n := p) (N := 1000) (by omega) (by decide)) ?_
        refine z_eqi (y := T p) (by rw [nI_clamp (by omega)]; exact congrFun hk.2.2.2.1 _) ?_
        refine z_bipush (pc := 20) (v := 32) rfl (by decide) ?_
        refine z_icmp_eq (pc := 22) (tgt := 39) rfl (by decide) (fun h22 => ?_) (fun h22 => ?_)
        · refine z_aload_n (pc := 39) (i := 0) (j := 0) rfl rfl rfl ?_
          refine z_dup (pc := 40) rfl rfl ?_
          refine z_getI (pc := 41) rfl fl_Mod_112 hk.1.1 rfl ?_
          refine z_eqi (y := nI p) rfl ?_
          refine z_iconst (pc := 44) (v := 1) rfl (by decide) ?_
          refine z_iadd (pc := 45) rfl ?_
          refine z_putI (pc := 46) rfl fl_Mod_112 hk.1.1 rfl  ?_
          refine z_goto (pc := 49) (tgt := 0) rfl (by decide) ?_
          have hb : isBl (T p) = true := by unfold isBl; simp [h22]
          rw [nI_1, zsI_over]
          rw [rn_t hlt hb] at hP
          exact ih (p + 1) (by omega) (by omega) hP
        · refine z_aload_n (pc := 25) (i := 0) (j := 0) rfl rfl rfl ?_
          refine z_getR (pc := 26) (x := 45) rfl fl_Mod_7 hk.1.1 rfl (mr_45 hk.1) ?_
          refine z_aload_n (pc := 29) (i := 0) (j := 0) rfl rfl rfl ?_
          refine z_getI (pc := 30) rfl fl_Mod_112 hk.1.1 rfl ?_
          refine z_eqi (y := nI p) rfl ?_
          refine z_iald (pc := 33) rfl (mk_45 hk.1) (vp_in_nI (n := p) (N := 1000) (by omega) (by decide)) ?_
          refine z_eqi (y := T p) (by rw [nI_clamp (by omega)]; exact congrFun hk.2.2.2.1 _) ?_
          refine z_bipush (pc := 34) (v := 10) rfl (by decide) ?_
          refine z_icmp_ne (pc := 36) (tgt := 52) rfl (by decide) (fun h36 => ?_) (fun h36 => ?_)
          · rw [rn_f (fun q => by have q2 := q.2; unfold isBl at q2; simp [h22, h36] at q2)] at hP
            exact hP
          · refine z_aload_n (pc := 39) (i := 0) (j := 0) rfl rfl rfl ?_
            refine z_dup (pc := 40) rfl rfl ?_
            refine z_getI (pc := 41) rfl fl_Mod_112 hk.1.1 rfl ?_
            refine z_eqi (y := nI p) rfl ?_
            refine z_iconst (pc := 44) (v := 1) rfl (by decide) ?_
            refine z_iadd (pc := 45) rfl ?_
            refine z_putI (pc := 46) rfl fl_Mod_112 hk.1.1 rfl  ?_
            refine z_goto (pc := 49) (tgt := 0) rfl (by decide) ?_
            have hb : isBl (T p) = true := by unfold isBl; simp [h36]
            rw [nI_1, zsI_over]
            rw [rn_t hlt hb] at hP
            exact ih (p + 1) (by omega) (by omega) hP
    · skip
      refine z_aload_n (pc := 0) (i := 0) (j := 0) rfl rfl rfl ?_
      refine z_getI (pc := 1) rfl fl_Mod_112 hk.1.1 rfl ?_
      refine z_eqi (y := nI p) rfl ?_
      refine z_aload_n (pc := 4) (i := 0) (j := 0) rfl rfl rfl ?_
      refine z_getI (pc := 5) rfl fl_Mod_109 hk.1.1 rfl ?_
      refine z_eqi (y := nI n) hk.2.1 ?_
      refine z_icmp_ge (pc := 8) (tgt := 52) rfl (by decide) (fun h8 => ?_) (fun h8 => ?_)
      · rw [rn_f (fun q => absurd h8 (nI_ge q.1 (by omega)))] at hP
        exact hP
      · exact absurd (nI_le (by omega) (by omega)) h8
theorem zsI_swL2 (V : zW) (o a b : Nat) (x x2 : Int64) (y y2 : Int32) : zsI (zsL (zsI (zsL V o a x) o b y) o a x2) o b y2 = zsI (zsL V o a x2) o b y2 := zsI_swL V o a b x x2 y y2
theorem kM_s {T : Nat → Int32} {a k : Nat} (h : k < 8) : kM T a (k + 1) = kM T a k * 27 + (T (a + k)).toInt64 - 96 := by
  unfold kM
  rw [if_pos (by omega), if_pos (by omega)]
  rfl
theorem kM_8 {T : Nat → Int32} {a k : Nat} (h : 8 ≤ k) : kM T a (k + 1) = kM T a k := by
  unfold kM
  rw [if_neg (by omega)]
  by_cases e : k = 8
  · rw [if_pos (by omega), e]
  · rw [if_neg (by omega)]
theorem nM_s {T : Nat → Int32} {a k : Nat} (h : k < 4) : nM T a (k + 1) = nM T a k * 10 + T (a + k) - 48 := by
  unfold nM
  rw [if_pos (by omega), if_pos (by omega)]
  rfl
theorem nM_4 {T : Nat → Int32} {a k : Nat} (h : 4 ≤ k) : nM T a (k + 1) = nM T a k := by
  unfold nM
  rw [if_neg (by omega)]
  by_cases e : k = 4
  · rw [if_pos (by omega), e]
  · rw [if_neg (by omega)]
set_option maxRecDepth 100000 in
set_option maxHeartbeats 4000000 in
theorem l_Mod_letters {w : zW} {n : Nat} {T : Nat → Int32} (hk : mK w n T) {P : Option Value → zW → Prop} {a : Nat} (hbeg : zI w 44 5 = nI a) (x : Int32) (d : Nat) (hd : 1 ≤ d) : ∀ m k, a + k ≤ n → n ≤ a + k + m → zS 0 0 d m_Mod_nextToken P 188 [(0, .ref 44), (1, .int x)] [] (zsI (zsL w 44 7 (kM T a (rn isLt T n (a + k) - a))) 44 4 (nI (a + (rn isLt T n (a + k) - a)))) → zS 0 0 d m_Mod_nextToken P 109 [(0, .ref 44), (1, .int x)] [] (zsI (zsL w 44 7 (kM T a k)) 44 4 (nI (a + k))) := by
  have hn1 := hk.2.2.1
  intro m
  induction m with
  | zero =>
    intro k hp hm hP
    by_cases hlt : a + k < n
    · omega
    · skip
      refine z_aload_n (pc := 109) (i := 0) (j := 0) rfl rfl rfl ?_
      refine z_aload_n (pc := 110) (i := 0) (j := 0) rfl rfl rfl ?_
      refine z_getI (pc := 111) rfl fl_Mod_112 hk.1.1 rfl ?_
      refine z_eqi (y := nI (a + k)) rfl ?_
      refine z_cV (pc := 114) (mc1 := 0) (ms1 := 0) (mc2 := 0) (ms2 := 0) (as := [.int (nI (a + k))]) (rest := []) (o := 44) rfl rfl hk.1.1 ok_Mod_signAt rfl rfl cl_Mod_128 (by omega) (Nat.le_of_ble_eq_true rfl) (Nat.le_of_ble_eq_true rfl) (Nat.le_refl _) (Nat.le_refl _) (c_Mod_signAt (w := zsI (zsL w 44 7 (kM T a k)) 44 4 (nI (a + k))) (mK_I (mK_L hk _ _) (by decide) _) (j := a + k) (by omega) 0) (fun r1 w1 hp => ?_) rfl rfl
      obtain ⟨rfl, hw1⟩ := hp
      rw [hw1]
      refine ⟨⟨Nat.le_refl _, Or.inl rfl⟩, ?_⟩
      refine z_eqi (y := 0) (by unfold sgA; rw [if_neg hlt]) ?_
      refine z_bipush (pc := 117) (v := 97) rfl (by decide) ?_
      refine z_icmp_lt (pc := 119) (tgt := 188) rfl (by decide) (fun h119 => ?_) (fun h119 => ?_)
      · rw [rn_f (fun q => hlt q.1)] at hP
        rw [show a + k - a = k by omega] at hP
        exact hP
      · exact absurd (by decide) h119
  | succ m ih =>
    intro k hp hm hP
    by_cases hlt : a + k < n
    · skip
      refine z_aload_n (pc := 109) (i := 0) (j := 0) rfl rfl rfl ?_
      refine z_aload_n (pc := 110) (i := 0) (j := 0) rfl rfl rfl ?_
      refine z_getI (pc := 111) rfl fl_Mod_112 hk.1.1 rfl ?_
      refine z_eqi (y := nI (a + k)) rfl ?_
      refine z_cV (pc := 114) (mc1 := 0) (ms1 := 0) (mc2 := 0) (ms2 := 0) (as := [.int (nI (a + k))]) (rest := []) (o := 44) rfl rfl hk.1.1 ok_Mod_signAt rfl rfl cl_Mod_128 (by omega) (Nat.le_of_ble_eq_true rfl) (Nat.le_of_ble_eq_true rfl) (Nat.le_refl _) (Nat.le_refl _) (c_Mod_signAt (w := zsI (zsL w 44 7 (kM T a k)) 44 4 (nI (a + k))) (mK_I (mK_L hk _ _) (by decide) _) (j := a + k) (by omega) 0) (fun r1 w1 hp => ?_) rfl rfl
      obtain ⟨rfl, hw1⟩ := hp
      rw [hw1]
      refine ⟨⟨Nat.le_refl _, Or.inl rfl⟩, ?_⟩
      refine z_eqi (y := T (a + k)) (by unfold sgA; rw [if_pos hlt]) ?_
      refine z_bipush (pc := 117) (v := 97) rfl (by decide) ?_
      refine z_icmp_lt (pc := 119) (tgt := 188) rfl (by decide) (fun h119 => ?_) (fun h119 => ?_)
      · rw [rn_f (fun q => by have q2 := q.2; unfold isLt at q2; simp [h119] at q2)] at hP
        rw [show a + k - a = k by omega] at hP
        exact hP
      · refine z_aload_n (pc := 122) (i := 0) (j := 0) rfl rfl rfl ?_
        refine z_aload_n (pc := 123) (i := 0) (j := 0) rfl rfl rfl ?_
        refine z_getI (pc := 124) rfl fl_Mod_112 hk.1.1 rfl ?_
        refine z_eqi (y := nI (a + k)) rfl ?_
        refine z_cV (pc := 127) (mc1 := 0) (ms1 := 0) (mc2 := 0) (ms2 := 0) (as := [.int (nI (a + k))]) (rest := []) (o := 44) rfl rfl hk.1.1 ok_Mod_signAt rfl rfl cl_Mod_128 (by omega) (Nat.le_of_ble_eq_true rfl) (Nat.le_of_ble_eq_true rfl) (Nat.le_refl _) (Nat.le_refl _) (c_Mod_signAt (w := zsI (zsL w 44 7 (kM T a k)) 44 4 (nI (a + k))) (mK_I (mK_L hk _ _) (by decide) _) (j := a + k) (by omega) 0) (fun r1 w1 hp => ?_) rfl rfl
        obtain ⟨rfl, hw1⟩ := hp
        rw [hw1]
        refine ⟨⟨Nat.le_refl _, Or.inl rfl⟩, ?_⟩
        refine z_eqi (y := T (a + k)) (by unfold sgA; rw [if_pos hlt]) ?_
        refine z_bipush (pc := 130) (v := 122) rfl (by decide) ?_
        refine z_icmp_gt (pc := 132) (tgt := 188) rfl (by decide) (fun h132 => ?_) (fun h132 => ?_)
        · rw [rn_f (fun q => by have q2 := q.2; unfold isLt at q2; simp [h132] at q2)] at hP
          rw [show a + k - a = k by omega] at hP
          exact hP
        · refine z_aload_n (pc := 135) (i := 0) (j := 0) rfl rfl rfl ?_
          refine z_getI (pc := 136) rfl fl_Mod_112 hk.1.1 rfl ?_
          refine z_eqi (y := nI (a + k)) rfl ?_
          refine z_aload_n (pc := 139) (i := 0) (j := 0) rfl rfl rfl ?_
          refine z_getI (pc := 140) rfl fl_Mod_115 hk.1.1 rfl ?_
          refine z_eqi (y := nI a) hbeg ?_
          refine z_isub (pc := 143) rfl ?_
          refine z_eqi (y := nI k) (by rw [pk_sub (by omega), show a + k - a = k by omega]) ?_
          refine z_bipush (pc := 144) (v := 8) rfl (by decide) ?_
          refine z_icmp_ge (pc := 146) (tgt := 175) rfl (by decide) (fun h146 => ?_) (fun h146 => ?_)
          · refine z_aload_n (pc := 175) (i := 0) (j := 0) rfl rfl rfl ?_
            refine z_dup (pc := 176) rfl rfl ?_
            refine z_getI (pc := 177) rfl fl_Mod_112 hk.1.1 rfl ?_
            refine z_eqi (y := nI (a + k)) rfl ?_
            refine z_iconst (pc := 180) (v := 1) rfl (by decide) ?_
            refine z_iadd (pc := 181) rfl ?_
            refine z_putI (pc := 182) rfl fl_Mod_112 hk.1.1 rfl  ?_
            refine z_goto (pc := 185) (tgt := 109) rfl (by decide) ?_
            have hb : isLt (T (a + k)) = true := by unfold isLt; simp [h119, h132]
            rw [rn_t hlt hb] at hP
            have hk8 : 8 ≤ k := (nI_leI (a := 8) (by decide) (by omega)).mp h146
            have eK : kM T a (k + 1) = kM T a k := kM_8 hk8
            rw [nI_1]
            rw [zsI_over]
            rw [← eK]
            exact ih (k + 1) (by omega) (by omega) hP
          · refine z_aload_n (pc := 149) (i := 0) (j := 0) rfl rfl rfl ?_
            refine z_aload_n (pc := 150) (i := 0) (j := 0) rfl rfl rfl ?_
            refine z_getL (pc := 151) rfl fl_Mod_118 hk.1.1 rfl ?_
            refine z_eql (y := kM T a k) rfl ?_
            refine z_ldc2 (pc := 154) (v := 27) rfl kl_Mod_132 ?_
            refine z_lmul (pc := 157) rfl ?_
            refine z_aload_n (pc := 158) (i := 0) (j := 0) rfl rfl rfl ?_
            refine z_aload_n (pc := 159) (i := 0) (j := 0) rfl rfl rfl ?_
            refine z_getI (pc := 160) rfl fl_Mod_112 hk.1.1 rfl ?_
            refine z_eqi (y := nI (a + k)) rfl ?_
            refine z_cV (pc := 163) (mc1 := 0) (ms1 := 0) (mc2 := 0) (ms2 := 0) (as := [.int (nI (a + k))]) (rest := [.long ((kM T a k) * 27), .ref 44]) (o := 44) rfl rfl hk.1.1 ok_Mod_signAt rfl rfl cl_Mod_128 (by omega) (Nat.le_of_ble_eq_true rfl) (Nat.le_of_ble_eq_true rfl) (Nat.le_refl _) (Nat.le_refl _) (c_Mod_signAt (w := zsI (zsL w 44 7 (kM T a k)) 44 4 (nI (a + k))) (mK_I (mK_L hk _ _) (by decide) _) (j := a + k) (by omega) 0) (fun r1 w1 hp => ?_) rfl rfl
            obtain ⟨rfl, hw1⟩ := hp
            rw [hw1]
            refine ⟨⟨Nat.le_refl _, Or.inl rfl⟩, ?_⟩
            refine z_eqi (y := T (a + k)) (by unfold sgA; rw [if_pos hlt]) ?_
            refine z_i2l (pc := 166) rfl ?_
            refine z_ladd (pc := 167) rfl ?_
            refine z_ldc2 (pc := 168) (v := 96) rfl kl_Mod_134 ?_
            refine z_lsub (pc := 171) rfl ?_
            refine z_putL (pc := 172) rfl fl_Mod_118 hk.1.1 rfl  ?_
            refine z_aload_n (pc := 175) (i := 0) (j := 0) rfl rfl rfl ?_
            refine z_dup (pc := 176) rfl rfl ?_
            refine z_getI (pc := 177) rfl fl_Mod_112 hk.1.1 rfl ?_
            refine z_eqi (y := nI (a + k)) rfl ?_
            refine z_iconst (pc := 180) (v := 1) rfl (by decide) ?_
            refine z_iadd (pc := 181) rfl ?_
            refine z_putI (pc := 182) rfl fl_Mod_112 hk.1.1 rfl  ?_
            refine z_goto (pc := 185) (tgt := 109) rfl (by decide) ?_
            have hb : isLt (T (a + k)) = true := by unfold isLt; simp [h119, h132]
            rw [rn_t hlt hb] at hP
            have hk8 : k < 8 := zlt_of 8 (by omega) h146
            have eK := kM_s (T := T) (a := a) hk8
            rw [nI_1]
            rw [zsI_swL, ← eK]
            exact ih (k + 1) (by omega) (by omega) hP
    · skip
      refine z_aload_n (pc := 109) (i := 0) (j := 0) rfl rfl rfl ?_
      refine z_aload_n (pc := 110) (i := 0) (j := 0) rfl rfl rfl ?_
      refine z_getI (pc := 111) rfl fl_Mod_112 hk.1.1 rfl ?_
      refine z_eqi (y := nI (a + k)) rfl ?_
      refine z_cV (pc := 114) (mc1 := 0) (ms1 := 0) (mc2 := 0) (ms2 := 0) (as := [.int (nI (a + k))]) (rest := []) (o := 44) rfl rfl hk.1.1 ok_Mod_signAt rfl rfl cl_Mod_128 (by omega) (Nat.le_of_ble_eq_true rfl) (Nat.le_of_ble_eq_true rfl) (Nat.le_refl _) (Nat.le_refl _) (c_Mod_signAt (w := zsI (zsL w 44 7 (kM T a k)) 44 4 (nI (a + k))) (mK_I (mK_L hk _ _) (by decide) _) (j := a + k) (by omega) 0) (fun r1 w1 hp => ?_) rfl rfl
      obtain ⟨rfl, hw1⟩ := hp
      rw [hw1]
      refine ⟨⟨Nat.le_refl _, Or.inl rfl⟩, ?_⟩
      refine z_eqi (y := 0) (by unfold sgA; rw [if_neg hlt]) ?_
      refine z_bipush (pc := 117) (v := 97) rfl (by decide) ?_
      refine z_icmp_lt (pc := 119) (tgt := 188) rfl (by decide) (fun h119 => ?_) (fun h119 => ?_)
      · rw [rn_f (fun q => hlt q.1)] at hP
        rw [show a + k - a = k by omega] at hP
        exact hP
      · exact absurd (by decide) h119
set_option maxRecDepth 100000 in
set_option maxHeartbeats 4000000 in
theorem l_Mod_digits {w : zW} {n : Nat} {T : Nat → Int32} (hk : mK w n T) {P : Option Value → zW → Prop} {a : Nat} (hbeg : zI w 44 5 = nI a) (x : Int32) (d : Nat) (hd : 1 ≤ d) : ∀ m k, a + k ≤ n → n ≤ a + k + m → zS 0 0 d m_Mod_nextToken P 299 [(0, .ref 44), (1, .int x)] [] (zsI (zsI w 44 8 (nM T a (rn isDg T n (a + k) - a))) 44 4 (nI (a + (rn isDg T n (a + k) - a)))) → zS 0 0 d m_Mod_nextToken P 224 [(0, .ref 44), (1, .int x)] [] (zsI (zsI w 44 8 (nM T a k)) 44 4 (nI (a + k))) := by
  have hn1 := hk.2.2.1
  intro m
  induction m with
  | zero =>
    intro k hp hm hP
    by_cases hlt : a + k < n
    · omega
    · skip
      refine z_aload_n (pc := 224) (i := 0) (j := 0) rfl rfl rfl ?_
      refine z_aload_n (pc := 225) (i := 0) (j := 0) rfl rfl rfl ?_
      refine z_getI (pc := 226) rfl fl_Mod_112 hk.1.1 rfl ?_
      refine z_eqi (y := nI (a + k)) rfl ?_
      refine z_cV (pc := 229) (mc1 := 0) (ms1 := 0) (mc2 := 0) (ms2 := 0) (as := [.int (nI (a + k))]) (rest := []) (o := 44) rfl rfl hk.1.1 ok_Mod_signAt rfl rfl cl_Mod_128 (by omega) (Nat.le_of_ble_eq_true rfl) (Nat.le_of_ble_eq_true rfl) (Nat.le_refl _) (Nat.le_refl _) (c_Mod_signAt (w := zsI (zsI w 44 8 (nM T a k)) 44 4 (nI (a + k))) (mK_I (mK_I hk (by decide) _) (by decide) _) (j := a + k) (by omega) 0) (fun r1 w1 hp => ?_) rfl rfl
      obtain ⟨rfl, hw1⟩ := hp
      rw [hw1]
      refine ⟨⟨Nat.le_refl _, Or.inl rfl⟩, ?_⟩
      refine z_eqi (y := 0) (by unfold sgA; rw [if_neg hlt]) ?_
      refine z_bipush (pc := 232) (v := 48) rfl (by decide) ?_
      refine z_icmp_lt (pc := 234) (tgt := 299) rfl (by decide) (fun h234 => ?_) (fun h234 => ?_)
      · rw [rn_f (fun q => hlt q.1)] at hP
        rw [show a + k - a = k by omega] at hP
        exact hP
      · exact absurd (by decide) h234
  | succ m ih =>
    intro k hp hm hP
    by_cases hlt : a + k < n
    · skip
      refine z_aload_n (pc := 224) (i := 0) (j := 0) rfl rfl rfl ?_
      refine z_aload_n (pc := 225) (i := 0) (j := 0) rfl rfl rfl ?_
      refine z_getI (pc := 226) rfl fl_Mod_112 hk.1.1 rfl ?_
      refine z_eqi (y := nI (a + k)) rfl ?_
      refine z_cV (pc := 229) (mc1 := 0) (ms1 := 0) (mc2 := 0) (ms2 := 0) (as := [.int (nI (a + k))]) (rest := []) (o := 44) rfl rfl hk.1.1 ok_Mod_signAt rfl rfl cl_Mod_128 (by omega) (Nat.le_of_ble_eq_true rfl) (Nat.le_of_ble_eq_true rfl) (Nat.le_refl _) (Nat.le_refl _) (c_Mod_signAt (w := zsI (zsI w 44 8 (nM T a k)) 44 4 (nI (a + k))) (mK_I (mK_I hk (by decide) _) (by decide) _) (j := a + k) (by omega) 0) (fun r1 w1 hp => ?_) rfl rfl
      obtain ⟨rfl, hw1⟩ := hp
      rw [hw1]
      refine ⟨⟨Nat.le_refl _, Or.inl rfl⟩, ?_⟩
      refine z_eqi (y := T (a + k)) (by unfold sgA; rw [if_pos hlt]) ?_
      refine z_bipush (pc := 232) (v := 48) rfl (by decide) ?_
      refine z_icmp_lt (pc := 234) (tgt := 299) rfl (by decide) (fun h234 => ?_) (fun h234 => ?_)
      · rw [rn_f (fun q => by have q2 := q.2; unfold isDg at q2; simp [h234] at q2)] at hP
        rw [show a + k - a = k by omega] at hP
        exact hP
      · refine z_aload_n (pc := 237) (i := 0) (j := 0) rfl rfl rfl ?_
        refine z_aload_n (pc := 238) (i := 0) (j := 0) rfl rfl rfl ?_
        refine z_getI (pc := 239) rfl fl_Mod_112 hk.1.1 rfl ?_
        refine z_eqi (y := nI (a + k)) rfl ?_
        refine z_cV (pc := 242) (mc1 := 0) (ms1 := 0) (mc2 := 0) (ms2 := 0) (as := [.int (nI (a + k))]) (rest := []) (o := 44) rfl rfl hk.1.1 ok_Mod_signAt rfl rfl cl_Mod_128 (by omega) (Nat.le_of_ble_eq_true rfl) (Nat.le_of_ble_eq_true rfl) (Nat.le_refl _) (Nat.le_refl _) (c_Mod_signAt (w := zsI (zsI w 44 8 (nM T a k)) 44 4 (nI (a + k))) (mK_I (mK_I hk (by decide) _) (by decide) _) (j := a + k) (by omega) 0) (fun r1 w1 hp => ?_) rfl rfl
        obtain ⟨rfl, hw1⟩ := hp
        rw [hw1]
        refine ⟨⟨Nat.le_refl _, Or.inl rfl⟩, ?_⟩
        refine z_eqi (y := T (a + k)) (by unfold sgA; rw [if_pos hlt]) ?_
        refine z_bipush (pc := 245) (v := 57) rfl (by decide) ?_
        refine z_icmp_gt (pc := 247) (tgt := 299) rfl (by decide) (fun h247 => ?_) (fun h247 => ?_)
        · rw [rn_f (fun q => by have q2 := q.2; unfold isDg at q2; simp [h247] at q2)] at hP
          rw [show a + k - a = k by omega] at hP
          exact hP
        · refine z_aload_n (pc := 250) (i := 0) (j := 0) rfl rfl rfl ?_
          refine z_getI (pc := 251) rfl fl_Mod_112 hk.1.1 rfl ?_
          refine z_eqi (y := nI (a + k)) rfl ?_
          refine z_aload_n (pc := 254) (i := 0) (j := 0) rfl rfl rfl ?_
          refine z_getI (pc := 255) rfl fl_Mod_115 hk.1.1 rfl ?_
          refine z_eqi (y := nI a) hbeg ?_
          refine z_isub (pc := 258) rfl ?_
          refine z_eqi (y := nI k) (by rw [pk_sub (by omega), show a + k - a = k by omega]) ?_
          refine z_iconst (pc := 259) (v := 4) rfl (by decide) ?_
          refine z_icmp_ge (pc := 260) (tgt := 286) rfl (by decide) (fun h260 => ?_) (fun h260 => ?_)
          · refine z_aload_n (pc := 286) (i := 0) (j := 0) rfl rfl rfl ?_
            refine z_dup (pc := 287) rfl rfl ?_
            refine z_getI (pc := 288) rfl fl_Mod_112 hk.1.1 rfl ?_
            refine z_eqi (y := nI (a + k)) rfl ?_
            refine z_iconst (pc := 291) (v := 1) rfl (by decide) ?_
            refine z_iadd (pc := 292) rfl ?_
            refine z_putI (pc := 293) rfl fl_Mod_112 hk.1.1 rfl  ?_
            refine z_goto (pc := 296) (tgt := 224) rfl (by decide) ?_
            have hb : isDg (T (a + k)) = true := by unfold isDg; simp [h234, h247]
            rw [rn_t hlt hb] at hP
            have hk8 : 4 ≤ k := (nI_leI (a := 4) (by decide) (by omega)).mp h260
            have eK : nM T a (k + 1) = nM T a k := nM_4 hk8
            rw [nI_1]
            rw [zsI_over]
            rw [← eK]
            exact ih (k + 1) (by omega) (by omega) hP
          · refine z_aload_n (pc := 263) (i := 0) (j := 0) rfl rfl rfl ?_
            refine z_aload_n (pc := 264) (i := 0) (j := 0) rfl rfl rfl ?_
            refine z_getI (pc := 265) rfl fl_Mod_122 hk.1.1 rfl ?_
            refine z_eqi (y := nM T a k) rfl ?_
            refine z_bipush (pc := 268) (v := 10) rfl (by decide) ?_
            refine z_imul (pc := 270) rfl ?_
            refine z_aload_n (pc := 271) (i := 0) (j := 0) rfl rfl rfl ?_
            refine z_aload_n (pc := 272) (i := 0) (j := 0) rfl rfl rfl ?_
            refine z_getI (pc := 273) rfl fl_Mod_112 hk.1.1 rfl ?_
            refine z_eqi (y := nI (a + k)) rfl ?_
            refine z_cV (pc := 276) (mc1 := 0) (ms1 := 0) (mc2 := 0) (ms2 := 0) (as := [.int (nI (a + k))]) (rest := [.int ((nM T a k) * 10), .ref 44]) (o := 44) rfl rfl hk.1.1 ok_Mod_signAt rfl rfl cl_Mod_128 (by omega) (Nat.le_of_ble_eq_true rfl) (Nat.le_of_ble_eq_true rfl) (Nat.le_refl _) (Nat.le_refl _) (c_Mod_signAt (w := zsI (zsI w 44 8 (nM T a k)) 44 4 (nI (a + k))) (mK_I (mK_I hk (by decide) _) (by decide) _) (j := a + k) (by omega) 0) (fun r1 w1 hp => ?_) rfl rfl
            obtain ⟨rfl, hw1⟩ := hp
            rw [hw1]
            refine ⟨⟨Nat.le_refl _, Or.inl rfl⟩, ?_⟩
            refine z_eqi (y := T (a + k)) (by unfold sgA; rw [if_pos hlt]) ?_
            refine z_iadd (pc := 279) rfl ?_
            refine z_bipush (pc := 280) (v := 48) rfl (by decide) ?_
            refine z_isub (pc := 282) rfl ?_
            refine z_putI (pc := 283) rfl fl_Mod_122 hk.1.1 rfl  ?_
            refine z_aload_n (pc := 286) (i := 0) (j := 0) rfl rfl rfl ?_
            refine z_dup (pc := 287) rfl rfl ?_
            refine z_getI (pc := 288) rfl fl_Mod_112 hk.1.1 rfl ?_
            refine z_eqi (y := nI (a + k)) rfl ?_
            refine z_iconst (pc := 291) (v := 1) rfl (by decide) ?_
            refine z_iadd (pc := 292) rfl ?_
            refine z_putI (pc := 293) rfl fl_Mod_112 hk.1.1 rfl  ?_
            refine z_goto (pc := 296) (tgt := 224) rfl (by decide) ?_
            have hb : isDg (T (a + k)) = true := by unfold isDg; simp [h234, h247]
            rw [rn_t hlt hb] at hP
            have hk8 : k < 4 := zlt_of 4 (by omega) h260
            have eK := nM_s (T := T) (a := a) hk8
            rw [nI_1]
            rw [zsI_sw _ (by decide), ← eK]
            exact ih (k + 1) (by omega) (by omega) hP
    · skip
      refine z_aload_n (pc := 224) (i := 0) (j := 0) rfl rfl rfl ?_
      refine z_aload_n (pc := 225) (i := 0) (j := 0) rfl rfl rfl ?_
      refine z_getI (pc := 226) rfl fl_Mod_112 hk.1.1 rfl ?_
      refine z_eqi (y := nI (a + k)) rfl ?_
      refine z_cV (pc := 229) (mc1 := 0) (ms1 := 0) (mc2 := 0) (ms2 := 0) (as := [.int (nI (a + k))]) (rest := []) (o := 44) rfl rfl hk.1.1 ok_Mod_signAt rfl rfl cl_Mod_128 (by omega) (Nat.le_of_ble_eq_true rfl) (Nat.le_of_ble_eq_true rfl) (Nat.le_refl _) (Nat.le_refl _) (c_Mod_signAt (w := zsI (zsI w 44 8 (nM T a k)) 44 4 (nI (a + k))) (mK_I (mK_I hk (by decide) _) (by decide) _) (j := a + k) (by omega) 0) (fun r1 w1 hp => ?_) rfl rfl
      obtain ⟨rfl, hw1⟩ := hp
      rw [hw1]
      refine ⟨⟨Nat.le_refl _, Or.inl rfl⟩, ?_⟩
      refine z_eqi (y := 0) (by unfold sgA; rw [if_neg hlt]) ?_
      refine z_bipush (pc := 232) (v := 48) rfl (by decide) ?_
      refine z_icmp_lt (pc := 234) (tgt := 299) rfl (by decide) (fun h234 => ?_) (fun h234 => ?_)
      · rw [rn_f (fun q => hlt q.1)] at hP
        rw [show a + k - a = k by omega] at hP
        exact hP
      · exact absurd (by decide) h234
