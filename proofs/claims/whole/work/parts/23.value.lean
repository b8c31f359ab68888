/-! A LAW: steps over a small stack -/
def ljoin (s a b : Int32) : Int32 :=
  if s = -6 then (if a = 0 then 0 else if b = 0 then 0 else 1)
  else if s = -7 then (if a = 0 then (if b = 0 then 0 else 1) else 1)
  else if s = -8 then (if b ≤ a then 0 else 1)
  else if s = -9 then (if a = b then 1 else 0)
  else if s = -10 then a + b
  else if s = -11 then a - b
  else a * b
def lfact (s hour high way : Int32) : Int32 :=
  if s = -1 then hour - hour / 24 * 24 else if s = -2 then hour / 24 else if s = -3 then high else way
def lstep (hour high way : Int32) (s : Int32) (q : Nat × (Nat → Int32)) : Nat × (Nat → Int32) :=
  if s < -4 then
    (if s = -5 then (if 1 ≤ q.1 then (q.1, upd q.2 (q.1 - 1) (if q.2 (q.1 - 1) = 0 then 1 else 0)) else q)
     else if 2 ≤ q.1 then (q.1 - 1, upd q.2 (q.1 - 2) (ljoin s (q.2 (q.1 - 2)) (q.2 (q.1 - 1)))) else q)
  else if q.1 < 32 then (q.1 + 1, upd q.2 q.1 (if s < 0 then lfact s hour high way else s)) else q
def lrun (hour high way : Int32) (f : Nat → Int32) (q : Nat × (Nat → Int32)) : Nat → Nat × (Nat → Int32)
  | 0 => q
  | n + 1 => lstep hour high way (f n) (lrun hour high way f q n)
theorem lstep_le {hour high way s : Int32} {q : Nat × (Nat → Int32)} (h : q.1 ≤ 32) : (lstep hour high way s q).1 ≤ 32 := by
  unfold lstep
  (repeat' split) <;> first | exact h | (simp only []; omega)
theorem lrun_le {hour high way : Int32} {f : Nat → Int32} {q : Nat × (Nat → Int32)} (h : q.1 ≤ 32) : ∀ n, (lrun hour high way f q n).1 ≤ 32
  | 0 => h
  | n + 1 => lstep_le (lrun_le h n)
set_option maxRecDepth 100000 in
set_option maxHeartbeats 4000000 in
theorem c_Law_joined (s a b : Int32) (d : Nat) (w : zW) : zS 0 0 d m_Law_joined (fun rv w1 => rv = some (.int (ljoin s a b)) ∧ w1 = w) 0 [(0, .int s), (1, .int a), (2, .int b)] [] w := by
  refine z_iload_n (pc := 0) (i := 0) (j := 0) rfl rfl rfl ?_
  by_cases hc1_0 : s = (-11)
  · refine z_tabIn (pc := 1) (off := 93) (tgt := 94) rfl (by rw [hc1_0]; decide) (by rw [hc1_0]; decide) (by rw [hc1_0]; rfl) (by decide) ?_
    refine z_iload_n (pc := 94) (i := 1) (j := 1) rfl rfl rfl ?_
    refine z_iload_n (pc := 95) (i := 2) (j := 2) rfl rfl rfl ?_
    refine z_isub (pc := 96) rfl ?_
    exact z_iret (pc := 97) rfl rfl ⟨by simp_all [ljoin], rfl⟩
  by_cases hc1_1 : s = (-10)
  · refine z_tabIn (pc := 1) (off := 89) (tgt := 90) rfl (by rw [hc1_1]; decide) (by rw [hc1_1]; decide) (by rw [hc1_1]; rfl) (by decide) ?_
    refine z_iload_n (pc := 90) (i := 1) (j := 1) rfl rfl rfl ?_
    refine z_iload_n (pc := 91) (i := 2) (j := 2) rfl rfl rfl ?_
    refine z_iadd (pc := 92) rfl ?_
    exact z_iret (pc := 93) rfl rfl ⟨by simp_all [ljoin], rfl⟩
  by_cases hc1_2 : s = (-9)
  · refine z_tabIn (pc := 1) (off := 78) (tgt := 79) rfl (by rw [hc1_2]; decide) (by rw [hc1_2]; decide) (by rw [hc1_2]; rfl) (by decide) ?_
    refine z_iload_n (pc := 79) (i := 1) (j := 1) rfl rfl rfl ?_
    refine z_iload_n (pc := 80) (i := 2) (j := 2) rfl rfl rfl ?_
    refine z_icmp_ne (pc := 81) (tgt := 88) rfl (by decide) (fun h81 => ?_) (fun h81 => ?_)
    · refine z_iconst (pc := 88) (v := 0) rfl (by decide) ?_
      exact z_iret (pc := 89) rfl rfl ⟨by simp_all [ljoin], rfl⟩
    · refine z_iconst (pc := 84) (v := 1) rfl (by decide) ?_
      refine z_goto (pc := 85) (tgt := 89) rfl (by decide) ?_
      exact z_iret (pc := 89) rfl rfl ⟨by simp_all [ljoin], rfl⟩
  by_cases hc1_3 : s = (-8)
  · refine z_tabIn (pc := 1) (off := 67) (tgt := 68) rfl (by rw [hc1_3]; decide) (by rw [hc1_3]; decide) (by rw [hc1_3]; rfl) (by decide) ?_
    refine z_iload_n (pc := 68) (i := 1) (j := 1) rfl rfl rfl ?_
    refine z_iload_n (pc := 69) (i := 2) (j := 2) rfl rfl rfl ?_
    refine z_icmp_ge (pc := 70) (tgt := 77) rfl (by decide) (fun h70 => ?_) (fun h70 => ?_)
    · refine z_iconst (pc := 77) (v := 0) rfl (by decide) ?_
      exact z_iret (pc := 78) rfl rfl ⟨by simp_all [ljoin], rfl⟩
    · refine z_iconst (pc := 73) (v := 1) rfl (by decide) ?_
      refine z_goto (pc := 74) (tgt := 78) rfl (by decide) ?_
      exact z_iret (pc := 78) rfl rfl ⟨by simp_all [ljoin], rfl⟩
  by_cases hc1_4 : s = (-7)
  · refine z_tabIn (pc := 1) (off := 53) (tgt := 54) rfl (by rw [hc1_4]; decide) (by rw [hc1_4]; decide) (by rw [hc1_4]; rfl) (by decide) ?_
    refine z_iload_n (pc := 54) (i := 1) (j := 1) rfl rfl rfl ?_
    refine z_if_ne (pc := 55) (tgt := 62) rfl (by decide) (fun h55 => ?_) (fun h55 => ?_)
    · refine z_iconst (pc := 62) (v := 1) rfl (by decide) ?_
      refine z_goto (pc := 63) (tgt := 67) rfl (by decide) ?_
      exact z_iret (pc := 67) rfl rfl ⟨by simp_all [ljoin], rfl⟩
    · refine z_iload_n (pc := 58) (i := 2) (j := 2) rfl rfl rfl ?_
      refine z_if_eq (pc := 59) (tgt := 66) rfl (by decide) (fun h59 => ?_) (fun h59 => ?_)
      · refine z_iconst (pc := 66) (v := 0) rfl (by decide) ?_
        exact z_iret (pc := 67) rfl rfl ⟨by simp_all [ljoin], rfl⟩
      · refine z_iconst (pc := 62) (v := 1) rfl (by decide) ?_
        refine z_goto (pc := 63) (tgt := 67) rfl (by decide) ?_
        exact z_iret (pc := 67) rfl rfl ⟨by simp_all [ljoin], rfl⟩
  by_cases hc1_5 : s = (-6)
  · refine z_tabIn (pc := 1) (off := 39) (tgt := 40) rfl (by rw [hc1_5]; decide) (by rw [hc1_5]; decide) (by rw [hc1_5]; rfl) (by decide) ?_
    refine z_iload_n (pc := 40) (i := 1) (j := 1) rfl rfl rfl ?_
    refine z_if_eq (pc := 41) (tgt := 52) rfl (by decide) (fun h41 => ?_) (fun h41 => ?_)
    · refine z_iconst (pc := 52) (v := 0) rfl (by decide) ?_
      exact z_iret (pc := 53) rfl rfl ⟨by simp_all [ljoin], rfl⟩
    · refine z_iload_n (pc := 44) (i := 2) (j := 2) rfl rfl rfl ?_
      refine z_if_eq (pc := 45) (tgt := 52) rfl (by decide) (fun h45 => ?_) (fun h45 => ?_)
      · refine z_iconst (pc := 52) (v := 0) rfl (by decide) ?_
        exact z_iret (pc := 53) rfl rfl ⟨by simp_all [ljoin], rfl⟩
      · refine z_iconst (pc := 48) (v := 1) rfl (by decide) ?_
        refine z_goto (pc := 49) (tgt := 53) rfl (by decide) ?_
        exact z_iret (pc := 53) rfl rfl ⟨by simp_all [ljoin], rfl⟩
  have hn1_0 := lv_neT (a := -11) hc1_0 rfl
  have hn1_1 := lv_neT (a := -10) hc1_1 rfl
  have hn1_2 := lv_neT (a := -9) hc1_2 rfl
  have hn1_3 := lv_neT (a := -8) hc1_3 rfl
  have hn1_4 := lv_neT (a := -7) hc1_4 rfl
  have hn1_5 := lv_neT (a := -6) hc1_5 rfl
  refine z_tabOut (pc := 1) (tgt := 98) rfl (by omega) (by decide) ?_
  refine z_iload_n (pc := 98) (i := 1) (j := 1) rfl rfl rfl ?_
  refine z_iload_n (pc := 99) (i := 2) (j := 2) rfl rfl rfl ?_
  refine z_imul (pc := 100) rfl ?_
  exact z_iret (pc := 101) rfl rfl ⟨by simp_all [ljoin], rfl⟩
set_option maxRecDepth 100000 in
set_option maxHeartbeats 4000000 in
theorem c_Law_fact (s a b c : Int32) (d : Nat) (w : zW) : zS 0 0 d m_Law_fact (fun rv w1 => rv = some (.int (lfact s a b c)) ∧ w1 = w) 0 [(0, .int s), (1, .int a), (2, .int b), (3, .int c)] [] w := by
  refine z_iload_n (pc := 0) (i := 0) (j := 0) rfl rfl rfl ?_
  refine z_iconst (pc := 1) (v := (-1)) rfl (by decide) ?_
  refine z_icmp_ne (pc := 2) (tgt := 10) rfl (by decide) (fun h2 => ?_) (fun h2 => ?_)
  · refine z_iload_n (pc := 10) (i := 0) (j := 0) rfl rfl rfl ?_
    refine z_bipush (pc := 11) (v := (-2)) rfl (by decide) ?_
    refine z_icmp_ne (pc := 13) (tgt := 21) rfl (by decide) (fun h13 => ?_) (fun h13 => ?_)
    · refine z_iload_n (pc := 21) (i := 0) (j := 0) rfl rfl rfl ?_
      refine z_bipush (pc := 22) (v := (-3)) rfl (by decide) ?_
      refine z_icmp_ne (pc := 24) (tgt := 31) rfl (by decide) (fun h24 => ?_) (fun h24 => ?_)
      · refine z_iload_n (pc := 31) (i := 3) (j := 3) rfl rfl rfl ?_
        exact z_iret (pc := 32) rfl rfl ⟨by simp_all [lfact], rfl⟩
      · refine z_iload_n (pc := 27) (i := 2) (j := 2) rfl rfl rfl ?_
        refine z_goto (pc := 28) (tgt := 32) rfl (by decide) ?_
        exact z_iret (pc := 32) rfl rfl ⟨by simp_all [lfact], rfl⟩
    · refine z_iload_n (pc := 16) (i := 1) (j := 1) rfl rfl rfl ?_
      refine z_bipush (pc := 17) (v := 24) rfl (by decide) ?_
      refine z_idiv (pc := 19) rfl (by decide) ?_
      exact z_iret (pc := 20) rfl rfl ⟨by simp_all [lfact], rfl⟩
  · refine z_iload_n (pc := 5) (i := 1) (j := 1) rfl rfl rfl ?_
    refine z_bipush (pc := 6) (v := 24) rfl (by decide) ?_
    refine z_irem (pc := 8) rfl (by decide) ?_
    exact z_iret (pc := 9) rfl rfl ⟨by simp_all [lfact], rfl⟩
set_option maxRecDepth 100000 in
set_option maxHeartbeats 4000000 in
theorem l_Law_value {w : zW} {o a b n : Nat} (h1 : w.1[o]? = some (0, 3)) (h2 : zR w o 0 = some a) (h3 : w.1[a]? = some (10, 1000)) (h4 : zR w o 1 = some b) (h5 : w.1[b]? = some (10, 32)) (hob : o ≠ b) (hab : a ≠ b) (hn : zI w o 2 = nI n) (hn1 : n ≤ 1000) (x y z : Int32) (d : Nat) (hd : 1 ≤ d) : ∀ (m i : Nat), i ≤ n → n ≤ i + m → zS 0 0 d m_Law_value (fun rv w1 => rv = some (.int ((lrun x y z (zI w a) (0, zI w b) n).2 0)) ∧ w1 = zrI w b (lrun x y z (zI w a) (0, zI w b) n).2) 6 [(0, .ref o), (1, .int x), (2, .int y), (3, .int z), (4, .int (nI (lrun x y z (zI w a) (0, zI w b) i).1)), (5, .int (nI i))] [] (zrI w b (lrun x y z (zI w a) (0, zI w b) i).2) := by
  intro m
  induction m with
  | zero =>
    intro i hi hm
    obtain rfl : i = n := by omega
    refine z_iload (pc := 6) (i := 5) (j := 5) rfl rfl ?_
    refine z_aload_n (pc := 8) (i := 0) (j := 0) rfl rfl rfl ?_
    refine z_getI (pc := 9) rfl fl_Law_18 h1 rfl ?_
    refine z_eqi (y := nI i) ((congrFun (zI_ro _ hob) 2).trans hn) ?_
    refine z_icmp_ge (pc := 12) (tgt := 159) rfl (by decide) (fun h12 => ?_) (fun h12 => absurd (Int32.le_refl _) h12)
    refine z_aload_n (pc := 159) (i := 0) (j := 0) rfl rfl rfl ?_
    refine z_getR (pc := 160) (x := b) rfl fl_Law_15 h1 rfl h4 ?_
    refine z_iconst (pc := 163) (v := 0) rfl (by decide) ?_
    refine z_iald (pc := 164) rfl h5 (vp_in_nI (n := 0) (by decide) (by decide)) ?_
    exact z_iret (pc := 165) rfl rfl ⟨congrArg (fun v => some (Value.int v)) (congrFun (zI_rh _ _ _) 0), rfl⟩
  | succ m ih =>
    intro i hi hm
    by_cases hlt : i < n
    · have kk := ih (i + 1) (by omega) (by omega)
      have hqs : lrun x y z (zI w a) (0, zI w b) (i + 1) = lstep x y z (zI w a i) (lrun x y z (zI w a) (0, zI w b) i) := rfl
      rw [hqs] at kk
      have hqle : (lrun x y z (zI w a) (0, zI w b) i).1 ≤ 32 := lrun_le (by simp) i
      generalize lrun x y z (zI w a) (0, zI w b) i = q at kk hqle ⊢
      refine z_iload (pc := 6) (i := 5) (j := 5) rfl rfl ?_
      refine z_aload_n (pc := 8) (i := 0) (j := 0) rfl rfl rfl ?_
      refine z_getI (pc := 9) rfl fl_Law_18 h1 rfl ?_
      refine z_eqi (y := nI n) ((congrFun (zI_ro q.2 hob) 2).trans hn) ?_
      refine z_icmp_ge (pc := 12) (tgt := 159) rfl (by decide) (fun h12 => ?_) (fun h12 => ?_)
      · exact absurd h12 (nI_ge hlt (by omega))
      · refine z_aload_n (pc := 15) (i := 0) (j := 0) rfl rfl rfl ?_
        refine z_getR (pc := 16) (x := a) rfl fl_Law_9 h1 rfl h2 ?_
        refine z_iload (pc := 19) (i := 5) (j := 5) rfl rfl ?_
        refine z_iald (pc := 21) rfl h3 (vp_in_nI (by omega) (by omega)) ?_
        refine z_eqi (y := zI w a i) (by rw [nI_clamp (by omega)]; exact congrFun (zI_ro q.2 hab) i) ?_
        refine z_topi (fun s h_s => ?_)
        refine z_istore (pc := 22) (i := 6) (ls' := [(0, .ref o), (1, .int x), (2, .int y), (3, .int z), (4, .int (nI q.1)), (5, .int (nI i)), (6, .int s)]) rfl (by decide) rfl ?_
        rw [← h_s] at kk
        refine z_iload (pc := 24) (i := 6) (j := 6) rfl rfl ?_
        refine z_bipush (pc := 26) (v := (-4)) rfl (by decide) ?_
        refine z_icmp_lt (pc := 28) (tgt := 72) rfl (by decide) (fun h28 => ?_) (fun h28 => ?_)
        · refine z_iload (pc := 72) (i := 6) (j := 6) rfl rfl ?_
          refine z_bipush (pc := 74) (v := (-5)) rfl (by decide) ?_
          refine z_icmp_ne (pc := 76) (tgt := 114) rfl (by decide) (fun h76 => ?_) (fun h76 => ?_)
          · refine z_iload (pc := 114) (i := 4) (j := 4) rfl rfl ?_
            refine z_iconst (pc := 116) (v := 2) rfl (by decide) ?_
            refine z_icmp_lt (pc := 117) (tgt := 153) rfl (by decide) (fun h117 => ?_) (fun h117 => ?_)
            · refine z_iinc (pc := 153) (i := 5) (j := 5) (v := nI (i + 1)) (ls' := [(0, .ref o), (1, .int x), (2, .int y), (3, .int z), (4, .int (nI q.1)), (5, .int (nI (i + 1))), (6, .int s)]) rfl rfl (nI_1 _) (by decide) rfl ?_
              refine z_goto (pc := 156) (tgt := 6) rfl (by decide) ?_
              have hq : lstep x y z s q = q := by unfold lstep; rw [if_pos h28, if_neg h76, if_neg (fun z => nI_nlt (b := 2) z (by omega) h117)]
              rw [hq] at kk
              refine z_drop (ls' := [(0, .ref o), (1, .int x), (2, .int y), (3, .int z), (4, .int (nI q.1)), (5, .int (nI (i + 1)))]) (by simp) kk
            · have hq2 : 2 ≤ q.1 := zle_of 2 (by omega) h117
              have e2 : nI (q.1 - 1) - 1 = nI (q.1 - 2) := (pk_sub (a := q.1 - 1) (b := 1) (by omega)).trans (by congr 1)
              have hin2 : vp_in (nI (q.1 - 1) - 1) 32 := by rw [e2]; exact vp_in_nI (by omega) (by omega)
              have hin3 : vp_in (nI (q.1 - 1)) 32 := vp_in_nI (by omega) (by omega)
              refine z_iinc (pc := 120) (i := 4) (j := 4) (v := nI (q.1 - 1)) (ls' := [(0, .ref o), (1, .int x), (2, .int y), (3, .int z), (4, .int (nI (q.1 - 1))), (5, .int (nI i)), (6, .int s)]) rfl rfl (sb_m1 (by omega)) (by decide) rfl ?_
              refine z_aload_n (pc := 123) (i := 0) (j := 0) rfl rfl rfl ?_
              refine z_getR (pc := 124) (x := b) rfl fl_Law_15 h1 rfl h4 ?_
              refine z_iload (pc := 127) (i := 4) (j := 4) rfl rfl ?_
              refine z_iconst (pc := 129) (v := 1) rfl (by decide) ?_
              refine z_isub (pc := 130) rfl ?_
              refine z_iload (pc := 131) (i := 6) (j := 6) rfl rfl ?_
              refine z_aload_n (pc := 133) (i := 0) (j := 0) rfl rfl rfl ?_
              refine z_getR (pc := 134) (x := b) rfl fl_Law_15 h1 rfl h4 ?_
              refine z_iload (pc := 137) (i := 4) (j := 4) rfl rfl ?_
              refine z_iconst (pc := 139) (v := 1) rfl (by decide) ?_
              refine z_isub (pc := 140) rfl ?_
              refine z_iald (pc := 141) rfl h5 hin2 ?_
              refine z_eqi (y := q.2 (q.1 - 2)) (by rw [e2, nI_clamp (by omega)]; exact congrFun (zI_rh _ _ _) _) ?_
              refine z_aload_n (pc := 142) (i := 0) (j := 0) rfl rfl rfl ?_
              refine z_getR (pc := 143) (x := b) rfl fl_Law_15 h1 rfl h4 ?_
              refine z_iload (pc := 146) (i := 4) (j := 4) rfl rfl ?_
              refine z_iald (pc := 148) rfl h5 hin3 ?_
              refine z_eqi (y := q.2 (q.1 - 1)) (by rw [nI_clamp (by omega)]; exact congrFun (zI_rh _ _ _) _) ?_
              refine z_cS (pc := 149) (mc1 := 0) (ms1 := 0) (mc2 := 0) (ms2 := 0) (as := [.int s, .int (q.2 (q.1 - 2)), .int (q.2 (q.1 - 1))]) (rest := [.int ((nI (q.1 - 1)) - 1), .ref b]) ok_Law_joined rfl rfl cl_Law_36 (by omega) (Nat.le_of_ble_eq_true rfl) (Nat.le_of_ble_eq_true rfl) (Nat.le_refl _) (Nat.le_refl _) (c_Law_joined s _ _ 0 _) (fun r1 w1 hp => ?_) rfl rfl
              obtain ⟨rfl, hw1⟩ := hp
              rw [hw1]
              refine ⟨⟨Nat.le_refl _, Or.inl rfl⟩, ?_⟩
              refine z_iast (pc := 152) rfl h5 hin2 ?_
              refine z_iinc (pc := 153) (i := 5) (j := 5) (v := nI (i + 1)) (ls' := [(0, .ref o), (1, .int x), (2, .int y), (3, .int z), (4, .int (nI (q.1 - 1))), (5, .int (nI (i + 1))), (6, .int s)]) rfl rfl (nI_1 _) (by decide) rfl ?_
              refine z_goto (pc := 156) (tgt := 6) rfl (by decide) ?_
              have hq : lstep x y z s q = (q.1 - 1, upd q.2 (q.1 - 2) (ljoin s (q.2 (q.1 - 2)) (q.2 (q.1 - 1)))) := by unfold lstep; rw [if_pos h28, if_neg h76, if_pos hq2]
              refine z_drop (ls' := [(0, .ref o), (1, .int x), (2, .int y), (3, .int z), (4, .int (nI (lstep x y z s q).1)), (5, .int (nI (i + 1)))]) ?_ ?_
              · rw [hq]; simp
              · refine z_eqw (w2 := zrI w b (lstep x y z s q).2) ?_ ?_
                · rw [hq, e2, nI_clamp (by omega)]; exact zrI_put w b _ _ _
                · exact kk
          · refine z_iload (pc := 79) (i := 4) (j := 4) rfl rfl ?_
            refine z_iconst (pc := 81) (v := 1) rfl (by decide) ?_
            refine z_icmp_lt (pc := 82) (tgt := 153) rfl (by decide) (fun h82 => ?_) (fun h82 => ?_)
            · refine z_iinc (pc := 153) (i := 5) (j := 5) (v := nI (i + 1)) (ls' := [(0, .ref o), (1, .int x), (2, .int y), (3, .int z), (4, .int (nI q.1)), (5, .int (nI (i + 1))), (6, .int s)]) rfl rfl (nI_1 _) (by decide) rfl ?_
              refine z_goto (pc := 156) (tgt := 6) rfl (by decide) ?_
              have hq : lstep x y z s q = q := by unfold lstep; rw [if_pos h28, if_pos h76, if_neg (fun z => nI_nlt (b := 1) z (by omega) h82)]
              rw [hq] at kk
              refine z_drop (ls' := [(0, .ref o), (1, .int x), (2, .int y), (3, .int z), (4, .int (nI q.1)), (5, .int (nI (i + 1)))]) (by simp) kk
            · have hq1 : 1 ≤ q.1 := zle_of 1 (by omega) h82
              have e1 : nI q.1 - 1 = nI (q.1 - 1) := pk_sub (b := 1) hq1
              have hin1 : vp_in (nI q.1 - 1) 32 := by rw [e1]; exact vp_in_nI (by omega) (by omega)
              refine z_aload_n (pc := 85) (i := 0) (j := 0) rfl rfl rfl ?_
              refine z_getR (pc := 86) (x := b) rfl fl_Law_15 h1 rfl h4 ?_
              refine z_iload (pc := 89) (i := 4) (j := 4) rfl rfl ?_
              refine z_iconst (pc := 91) (v := 1) rfl (by decide) ?_
              refine z_isub (pc := 92) rfl ?_
              refine z_aload_n (pc := 93) (i := 0) (j := 0) rfl rfl rfl ?_
              refine z_getR (pc := 94) (x := b) rfl fl_Law_15 h1 rfl h4 ?_
              refine z_iload (pc := 97) (i := 4) (j := 4) rfl rfl ?_
              refine z_iconst (pc := 99) (v := 1) rfl (by decide) ?_
              refine z_isub (pc := 100) rfl ?_
              refine z_iald (pc := 101) rfl h5 hin1 ?_
              refine z_eqi (y := q.2 (q.1 - 1)) (by rw [e1, nI_clamp (by omega)]; exact congrFun (zI_rh _ _ _) _) ?_
              have j110 : ∀ v : Int32, (v = (if q.2 (q.1 - 1) = 0 then 1 else 0)) → zS 0 0 d m_Law_value (fun rv w1 => rv = some (.int ((lrun x y z (zI w a) (0, zI w b) n).2 0)) ∧ w1 = zrI w b (lrun x y z (zI w a) (0, zI w b) n).2) 110 [(0, .ref o), (1, .int x), (2, .int y), (3, .int z), (4, .int (nI q.1)), (5, .int (nI i)), (6, .int s)] [.int v, .int ((nI q.1) - 1), .ref b] (zrI w b q.2) := by
                intro v h_j110
                refine z_iast (pc := 110) rfl h5 hin1 ?_
                refine z_goto (pc := 111) (tgt := 153) rfl (by decide) ?_
                refine z_iinc (pc := 153) (i := 5) (j := 5) (v := nI (i + 1)) (ls' := [(0, .ref o), (1, .int x), (2, .int y), (3, .int z), (4, .int (nI q.1)), (5, .int (nI (i + 1))), (6, .int s)]) rfl rfl (nI_1 _) (by decide) rfl ?_
                refine z_goto (pc := 156) (tgt := 6) rfl (by decide) ?_
                have hq : lstep x y z s q = (q.1, upd q.2 (q.1 - 1) (if q.2 (q.1 - 1) = 0 then 1 else 0)) := by unfold lstep; rw [if_pos h28, if_pos h76, if_pos hq1]
                refine z_drop (ls' := [(0, .ref o), (1, .int x), (2, .int y), (3, .int z), (4, .int (nI (lstep x y z s q).1)), (5, .int (nI (i + 1)))]) ?_ ?_
                · rw [hq]; simp
                · refine z_eqw (w2 := zrI w b (lstep x y z s q).2) ?_ ?_
                  · rw [hq, e1, nI_clamp (by omega), h_j110]; exact zrI_put w b _ _ _
                  · exact kk
              refine z_if_ne (pc := 102) (tgt := 109) rfl (by decide) (fun h102 => ?_) (fun h102 => ?_)
              · refine z_iconst (pc := 109) (v := 0) rfl (by decide) ?_
                exact j110 _ (by rw [if_neg h102])
              · refine z_iconst (pc := 105) (v := 1) rfl (by decide) ?_
                refine z_goto (pc := 106) (tgt := 110) rfl (by decide) ?_
                exact j110 _ (by rw [if_pos h102])
        · refine z_iload (pc := 31) (i := 4) (j := 4) rfl rfl ?_
          refine z_aload_n (pc := 33) (i := 0) (j := 0) rfl rfl rfl ?_
          refine z_getR (pc := 34) (x := b) rfl fl_Law_15 h1 rfl h4 ?_
          refine z_alen (pc := 37) (v := 32) rfl h5 (by decide) (by decide) ?_
          refine z_icmp_ge (pc := 38) (tgt := 153) rfl (by decide) (fun h38 => ?_) (fun h38 => ?_)
          · refine z_iinc (pc := 153) (i := 5) (j := 5) (v := nI (i + 1)) (ls' := [(0, .ref o), (1, .int x), (2, .int y), (3, .int z), (4, .int (nI q.1)), (5, .int (nI (i + 1))), (6, .int s)]) rfl rfl (nI_1 _) (by decide) rfl ?_
            refine z_goto (pc := 156) (tgt := 6) rfl (by decide) ?_
            have hq : lstep x y z s q = q := by unfold lstep; rw [if_neg h28, if_neg (fun z => nI_ge (b := 32) z (by omega) h38)]
            rw [hq] at kk
            refine z_drop (ls' := [(0, .ref o), (1, .int x), (2, .int y), (3, .int z), (4, .int (nI q.1)), (5, .int (nI (i + 1)))]) (by simp) kk
          · have hq32 : q.1 < 32 := zlt_of 32 (by omega) h38
            refine z_aload_n (pc := 41) (i := 0) (j := 0) rfl rfl rfl ?_
            refine z_getR (pc := 42) (x := b) rfl fl_Law_15 h1 rfl h4 ?_
            refine z_iload (pc := 45) (i := 4) (j := 4) rfl rfl ?_
            refine z_iload (pc := 47) (i := 6) (j := 6) rfl rfl ?_
            have j65 : ∀ v : Int32, (v = (if s < 0 then lfact s x y z else s)) → zS 0 0 d m_Law_value (fun rv w1 => rv = some (.int ((lrun x y z (zI w a) (0, zI w b) n).2 0)) ∧ w1 = zrI w b (lrun x y z (zI w a) (0, zI w b) n).2) 65 [(0, .ref o), (1, .int x), (2, .int y), (3, .int z), (4, .int (nI q.1)), (5, .int (nI i)), (6, .int s)] [.int v, .int (nI q.1), .ref b] (zrI w b q.2) := by
              intro v h_j65
              refine z_iast (pc := 65) rfl h5 (vp_in_nI hq32 (by omega)) ?_
              refine z_iinc (pc := 66) (i := 4) (j := 4) (v := nI (q.1 + 1)) (ls' := [(0, .ref o), (1, .int x), (2, .int y), (3, .int z), (4, .int (nI (q.1 + 1))), (5, .int (nI i)), (6, .int s)]) rfl rfl (nI_1 _) (by decide) rfl ?_
              refine z_goto (pc := 69) (tgt := 153) rfl (by decide) ?_
              refine z_iinc (pc := 153) (i := 5) (j := 5) (v := nI (i + 1)) (ls' := [(0, .ref o), (1, .int x), (2, .int y), (3, .int z), (4, .int (nI (q.1 + 1))), (5, .int (nI (i + 1))), (6, .int s)]) rfl rfl (nI_1 _) (by decide) rfl ?_
              refine z_goto (pc := 156) (tgt := 6) rfl (by decide) ?_
              have hq : lstep x y z s q = (q.1 + 1, upd q.2 q.1 (if s < 0 then lfact s x y z else s)) := by unfold lstep; rw [if_neg h28, if_pos hq32]
              refine z_drop (ls' := [(0, .ref o), (1, .int x), (2, .int y), (3, .int z), (4, .int (nI (lstep x y z s q).1)), (5, .int (nI (i + 1)))]) ?_ ?_
              · rw [hq]; simp
              · refine z_eqw (w2 := zrI w b (lstep x y z s q).2) ?_ ?_
                · rw [hq, nI_clamp (by omega), h_j65]; exact zrI_put w b _ _ _
                · exact kk
            refine z_if_lt (pc := 49) (tgt := 57) rfl (by decide) (fun h49 => ?_) (fun h49 => ?_)
            · refine z_iload (pc := 57) (i := 6) (j := 6) rfl rfl ?_
              refine z_iload_n (pc := 59) (i := 1) (j := 1) rfl rfl rfl ?_
              refine z_iload_n (pc := 60) (i := 2) (j := 2) rfl rfl rfl ?_
              refine z_iload_n (pc := 61) (i := 3) (j := 3) rfl rfl rfl ?_
              refine z_cS (pc := 62) (mc1 := 0) (ms1 := 0) (mc2 := 0) (ms2 := 0) (as := [.int s, .int x, .int y, .int z]) (rest := [.int (nI q.1), .ref b]) ok_Law_fact rfl rfl cl_Law_32 (by omega) (Nat.le_of_ble_eq_true rfl) (Nat.le_of_ble_eq_true rfl) (Nat.le_refl _) (Nat.le_refl _) (c_Law_fact s x y z 0 _) (fun r1 w1 hp => ?_) rfl rfl
              obtain ⟨rfl, hw1⟩ := hp
              rw [hw1]
              refine ⟨⟨Nat.le_refl _, Or.inl rfl⟩, ?_⟩
              exact j65 _ (by rw [if_pos h49])
            · refine z_iload (pc := 52) (i := 6) (j := 6) rfl rfl ?_
              refine z_goto (pc := 54) (tgt := 65) rfl (by decide) ?_
              exact j65 _ (by rw [if_neg h49])
    · obtain rfl : i = n := by omega
      refine z_iload (pc := 6) (i := 5) (j := 5) rfl rfl ?_
      refine z_aload_n (pc := 8) (i := 0) (j := 0) rfl rfl rfl ?_
      refine z_getI (pc := 9) rfl fl_Law_18 h1 rfl ?_
      refine z_eqi (y := nI i) ((congrFun (zI_ro _ hob) 2).trans hn) ?_
      refine z_icmp_ge (pc := 12) (tgt := 159) rfl (by decide) (fun h12 => ?_) (fun h12 => absurd (Int32.le_refl _) h12)
      refine z_aload_n (pc := 159) (i := 0) (j := 0) rfl rfl rfl ?_
      refine z_getR (pc := 160) (x := b) rfl fl_Law_15 h1 rfl h4 ?_
      refine z_iconst (pc := 163) (v := 0) rfl (by decide) ?_
      refine z_iald (pc := 164) rfl h5 (vp_in_nI (n := 0) (by decide) (by decide)) ?_
      exact z_iret (pc := 165) rfl rfl ⟨congrArg (fun v => some (Value.int v)) (congrFun (zI_rh _ _ _) 0), rfl⟩
set_option maxRecDepth 100000 in
set_option maxHeartbeats 4000000 in
theorem c_Law_value {w : zW} {o a b n : Nat} (h1 : w.1[o]? = some (0, 3)) (h2 : zR w o 0 = some a) (h3 : w.1[a]? = some (10, 1000)) (h4 : zR w o 1 = some b) (h5 : w.1[b]? = some (10, 32)) (hob : o ≠ b) (hab : a ≠ b) (hn : zI w o 2 = nI n) (hn1 : n ≤ 1000) (x y z : Int32) (d : Nat) (hd : 1 ≤ d) : zS 0 0 d m_Law_value (fun rv w1 => rv = some (.int ((lrun x y z (zI w a) (0, zI w b) n).2 0)) ∧ w1 = zrI w b (lrun x y z (zI w a) (0, zI w b) n).2) 0 [(0, .ref o), (1, .int x), (2, .int y), (3, .int z)] [] w := by
  refine z_iconst (pc := 0) (v := nI 0) rfl rfl ?_
  refine z_istore (pc := 1) (i := 4) (ls' := [(0, .ref o), (1, .int x), (2, .int y), (3, .int z), (4, .int (nI 0))]) rfl (by decide) rfl ?_
  refine z_iconst (pc := 3) (v := nI 0) rfl rfl ?_
  refine z_istore (pc := 4) (i := 5) (ls' := [(0, .ref o), (1, .int x), (2, .int y), (3, .int z), (4, .int (nI 0)), (5, .int (nI 0))]) rfl (by decide) rfl ?_
  refine z_eqw (w2 := zrI w b (lrun x y z (zI w a) (0, zI w b) 0).2) (zrI_self w b).symm ?_
  exact l_Law_value h1 h2 h3 h4 h5 hob hab hn hn1 x y z d hd n 0 (by omega) (by omega)
