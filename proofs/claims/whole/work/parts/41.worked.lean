/-! THE MODEL'S WORKING OUT OF A LINE, over the ints and the depth -/
abbrev wkQ : Type := (Nat → Nat → Int32) × Nat
def nots (f : Nat → Nat → Int32) : Nat → Int32 → Nat × Int32
  | 0, v => (0, v)
  | d + 1, v => if f 65 (d + 1) = 1 then nots f d (if v = 0 then 1 else 0) else (d + 1, v)
theorem nots_le (f : Nat → Nat → Int32) : ∀ (d : Nat) (v : Int32), (nots f d v).1 ≤ d
  | 0, _ => Nat.le_refl 0
  | d + 1, v => by
    unfold nots
    split
    · exact Nat.le_trans (nots_le f d _) (Nat.le_succ d)
    · exact Nat.le_refl _
def termF (f : Nat → Nat → Int32) (q : Nat × Int32) : Nat → Nat → Int32 := z2 f 63 q.1 (if f 64 q.1 = 0 then q.2 else f 63 q.1 * q.2)
def wkV (c : Int32) (f : Nat → Nat → Int32) : Int32 := if c < 100 then (if 20 ≤ c then 0 else f 66 c.toNatClampNeg) else c - 100
def wkStep (c : Int32) (q : wkQ) : wkQ :=
  if c = 28 then (opensF (z2 q.1 65 (q.2 + 1) 0) (q.2 + 1), q.2 + 1)
  else if c = 30 then (opensF (z2 q.1 65 (q.2 + 1) 1) (q.2 + 1), q.2 + 1)
  else if c = 20 ∨ c = 21 then (z2 (sumsF q.1 q.2) 62 q.2 c, q.2)
  else if c = 22 then (z2 q.1 64 q.2 c, q.2)
  else if c = 24 ∨ c = 25 then (z2 (z2 (z2 (z2 (sumsF q.1 q.2) 59 q.2 (sumsF q.1 q.2 61 q.2)) 60 q.2 c) 61 q.2 0) 62 q.2 20, q.2)
  else if c = 26 ∨ c = 27 then (z2 (testsF q.1 q.2) 58 q.2 c, q.2)
  else if c = 29 then (termF (testsF q.1 q.2) (nots (testsF q.1 q.2) (q.2 - 1) (testsF q.1 q.2 57 q.2)), (nots (testsF q.1 q.2) (q.2 - 1) (testsF q.1 q.2 57 q.2)).1)
  else (termF q.1 (nots q.1 q.2 (wkV c q.1)), (nots q.1 q.2 (wkV c q.1)).1)
def wkRun (cd : Nat → Int32) : Nat → Nat → wkQ → wkQ
  | _, 0, q => q
  | k, m + 1, q => wkRun cd (k + 1) m (wkStep (cd k) q)
def wkGood (c : Int32) (d : Nat) : Prop := ((c = 28 ∨ c = 30) → d + 1 < 7) ∧ (c = 29 → 1 ≤ d) ∧ (c < 20 → 0 ≤ c)
def wkOK (cd : Nat → Int32) : Nat → Nat → wkQ → Prop
  | _, 0, _ => True
  | k, m + 1, q => wkGood (cd k) q.2 ∧ wkOK cd (k + 1) m (wkStep (cd k) q)
theorem opensF_o (f : Nat → Nat → Int32) (i : Nat) {o : Nat} (h : o < 57 ∨ 65 < o) : opensF f i o = f o := by
  funext k
  unfold opensF
  rw [z2_o _ _ _ _ (by omega), z2_o _ _ _ _ (by omega), z2_o _ _ _ _ (by omega), z2_o _ _ _ _ (by omega), z2_o _ _ _ _ (by omega)]
theorem sumsF_o (f : Nat → Nat → Int32) (i : Nat) {o : Nat} (h : o < 57 ∨ 65 < o) : sumsF f i o = f o := by
  funext k
  unfold sumsF
  rw [z2_o _ _ _ _ (by omega), z2_o _ _ _ _ (by omega)]
theorem testsF_o (f : Nat → Nat → Int32) (i : Nat) {o : Nat} (h : o < 57 ∨ 65 < o) : testsF f i o = f o := by
  funext k
  unfold testsF
  rw [z2_o _ _ _ _ (by omega), z2_o _ _ _ _ (by omega), z2_o _ _ _ _ (by omega), z2_o _ _ _ _ (by omega), sumsF_o _ _ h]
theorem z2_ro (f : Nat → Nat → Int32) {o a : Nat} (k : Nat) (x : Int32) (h : a ≠ o) : z2 f o k x a = f a := by funext b; exact z2_o _ _ _ _ h
theorem wkStep_o (c : Int32) (q : wkQ) {o : Nat} (h : o < 57 ∨ 65 < o) : (wkStep c q).1 o = q.1 o := by
  unfold wkStep termF
  (repeat' split) <;> simp only [] <;> (repeat rw [z2_ro _ _ _ (by omega)]) <;> first | rfl | rw [opensF_o _ _ h, z2_ro _ _ _ (by omega)] | rw [sumsF_o _ _ h] | rw [testsF_o _ _ h]
theorem wkStep_d {c : Int32} {q : wkQ} (h : wkGood c q.2) (hd : q.2 < 7) : (wkStep c q).2 < 7 := by
  unfold wkStep
  by_cases h1 : c = 28
  · rw [if_pos h1]; exact h.1 (Or.inl h1)
  · rw [if_neg h1]
    by_cases h2 : c = 30
    · rw [if_pos h2]; exact h.1 (Or.inr h2)
    · rw [if_neg h2]
      (repeat' split) <;> first | exact hd | exact Nat.lt_of_le_of_lt (nots_le _ _ _) (by omega)
set_option maxRecDepth 100000 in
set_option maxHeartbeats 4000000 in
theorem l_nots {w : zW} (hm : zMo w) {P : Option Value → zW → Prop} (f : Nat → Nat → Int32) (li k : Nat) (c : Int32) (d : Nat) : ∀ (dd : Nat) (v : Int32), dd < 7 → zS 0 0 d m_Mod_worked P 300 [(0, .ref 44), (1, .int (nI li)), (2, .int (nI (nots f dd v).1)), (3, .int (nI k)), (4, .int c), (5, .int ((nots f dd v).2))] [] (zuI w f) → zS 0 0 d m_Mod_worked P 268 [(0, .ref 44), (1, .int (nI li)), (2, .int (nI dd)), (3, .int (nI k)), (4, .int c), (5, .int v)] [] (zuI w f) := by
  intro dd
  induction dd with
  | zero =>
    intro v hb kk
    refine z_iload_n (pc := 268) (i := 2) (j := 2) rfl rfl rfl ?_
    refine z_if_le (pc := 269) (tgt := 300) rfl (by decide) (fun h269 => kk) (fun h269 => absurd (by decide) h269)
  | succ dd ih =>
    intro v hb kk
    refine z_iload_n (pc := 268) (i := 2) (j := 2) rfl rfl rfl ?_
    refine z_if_le (pc := 269) (tgt := 300) rfl (by decide) (fun h269 => ?_) (fun h269 => ?_)
    · exact absurd h269 (nI_nle (by omega) (by omega))
    · refine z_aload_n (pc := 272) (i := 0) (j := 0) rfl rfl rfl ?_
      refine z_getR (pc := 273) (x := 65) rfl fl_Mod_72 hm.1 rfl (mr_65 hm) ?_
      refine z_iload_n (pc := 276) (i := 2) (j := 2) rfl rfl rfl ?_
      refine z_iald (pc := 277) rfl (mk_65 hm) (vp_in_nI hb (by decide)) ?_
      refine z_eqi (y := f 65 (dd + 1)) (by rw [nI_clamp (by omega)]; rfl) ?_
      refine z_iconst (pc := 278) (v := 1) rfl (by decide) ?_
      refine z_icmp_ne (pc := 279) (tgt := 300) rfl (by decide) (fun h279 => ?_) (fun h279 => ?_)
      · have e : nots f (dd + 1) v = (dd + 1, v) := by show (if _ then _ else _) = _; rw [if_neg h279]
        rw [e] at kk
        exact kk
      · refine z_iload (pc := 282) (i := 5) (j := 5) rfl rfl ?_
        have j292 : ∀ u : Int32, (u = (if v = 0 then 1 else 0)) → zS 0 0 d m_Mod_worked P 292 [(0, .ref 44), (1, .int (nI li)), (2, .int (nI (dd + 1))), (3, .int (nI k)), (4, .int c), (5, .int v)] [.int u] (zuI w f) := by
          intro u h_j292
          refine z_istore (pc := 292) (i := 5) (ls' := [(0, .ref 44), (1, .int (nI li)), (2, .int (nI (dd + 1))), (3, .int (nI k)), (4, .int c), (5, .int u)]) rfl (by decide) rfl ?_
          refine z_iinc (pc := 294) (i := 2) (j := 2) (v := nI dd) (ls' := [(0, .ref 44), (1, .int (nI li)), (2, .int (nI dd)), (3, .int (nI k)), (4, .int c), (5, .int u)]) rfl rfl (pk_m1 dd) (by decide) rfl ?_
          refine z_goto (pc := 297) (tgt := 268) rfl (by decide) ?_
          have e : nots f (dd + 1) v = nots f dd u := by show (if _ then _ else _) = _; rw [if_pos h279, h_j292]
          rw [e] at kk
          exact ih u (by omega) kk
        refine z_if_ne (pc := 284) (tgt := 291) rfl (by decide) (fun h284 => ?_) (fun h284 => ?_)
        · refine z_iconst (pc := 291) (v := 0) rfl (by decide) ?_
          exact j292 _ (by rw [if_neg h284] <;> rfl)
        · refine z_iconst (pc := 287) (v := 1) rfl (by decide) ?_
          refine z_goto (pc := 288) (tgt := 292) rfl (by decide) ?_
          exact j292 _ (by rw [if_pos h284] <;> rfl)
set_option maxRecDepth 100000 in
set_option maxHeartbeats 4000000 in
theorem l_term {w : zW} (hm : zMo w) {P : Option Value → zW → Prop} (f : Nat → Nat → Int32) (li k : Nat) (c : Int32) (q : Nat × Int32) (hq : q.1 < 7) (d : Nat) (kk : zS 0 0 d m_Mod_worked P 14 [(0, .ref 44), (1, .int (nI li)), (2, .int (nI q.1)), (3, .int (nI (k + 1)))] [] (zuI w (termF f q))) : zS 0 0 d m_Mod_worked P 300 [(0, .ref 44), (1, .int (nI li)), (2, .int (nI q.1)), (3, .int (nI k)), (4, .int c), (5, .int q.2)] [] (zuI w f) := by
  refine z_aload_n (pc := 300) (i := 0) (j := 0) rfl rfl rfl ?_
  refine z_getR (pc := 301) (x := 63) rfl fl_Mod_66 hm.1 rfl (mr_63 hm) ?_
  refine z_iload_n (pc := 304) (i := 2) (j := 2) rfl rfl rfl ?_
  refine z_aload_n (pc := 305) (i := 0) (j := 0) rfl rfl rfl ?_
  refine z_getR (pc := 306) (x := 64) rfl fl_Mod_69 hm.1 rfl (mr_64 hm) ?_
  refine z_iload_n (pc := 309) (i := 2) (j := 2) rfl rfl rfl ?_
  refine z_iald (pc := 310) rfl (mk_64 hm) (vp_in_nI hq (by decide)) ?_
  refine z_eqi (y := f 64 q.1) (by rw [nI_clamp (by omega)]; rfl) ?_
  have j328 : ∀ u : Int32, (u = (if f 64 q.1 = 0 then q.2 else f 63 q.1 * q.2)) → zS 0 0 d m_Mod_worked P 328 [(0, .ref 44), (1, .int (nI li)), (2, .int (nI q.1)), (3, .int (nI k)), (4, .int c), (5, .int q.2)] [.int u, .int (nI q.1), .ref 63] (zuI w f) := by
    intro u h_j328
    refine z_iast (pc := 328) rfl (mk_63 hm) (vp_in_nI hq (by decide)) ?_
    refine z_iinc (pc := 329) (i := 3) (j := 3) (v := nI (k + 1)) (ls' := [(0, .ref 44), (1, .int (nI li)), (2, .int (nI q.1)), (3, .int (nI (k + 1))), (4, .int c), (5, .int q.2)]) rfl rfl (nI_1 k) (by decide) rfl ?_
    refine z_goto (pc := 332) (tgt := 14) rfl (by decide) ?_
    rw [nI_clamp (by omega), h_j328]
    refine z_drop ?_ kk
    simp
  refine z_if_ne (pc := 311) (tgt := 319) rfl (by decide) (fun h311 => ?_) (fun h311 => ?_)
  · refine z_aload_n (pc := 319) (i := 0) (j := 0) rfl rfl rfl ?_
    refine z_getR (pc := 320) (x := 63) rfl fl_Mod_66 hm.1 rfl (mr_63 hm) ?_
    refine z_iload_n (pc := 323) (i := 2) (j := 2) rfl rfl rfl ?_
    refine z_iald (pc := 324) rfl (mk_63 hm) (vp_in_nI hq (by decide)) ?_
    refine z_eqi (y := f 63 q.1) (by rw [nI_clamp (by omega)]; rfl) ?_
    refine z_iload (pc := 325) (i := 5) (j := 5) rfl rfl ?_
    refine z_imul (pc := 327) rfl ?_
    exact j328 _ (by rw [if_neg h311] <;> rfl)
  · refine z_iload (pc := 314) (i := 5) (j := 5) rfl rfl ?_
    refine z_goto (pc := 316) (tgt := 328) rfl (by decide) ?_
    exact j328 _ (by rw [if_pos h311] <;> rfl)
set_option maxRecDepth 100000 in
set_option maxHeartbeats 4000000 in
theorem l_Mod_worked1 {w : zW} (hm : zMo w) {P : Option Value → zW → Prop} (q : wkQ) (hd7 : q.2 < 7) (li k : Nat) (hk : k < 6000) (hg : wkGood (q.1 54 k) q.2) (d : Nat) (hd : 2 ≤ d) (kk : zS 0 0 d m_Mod_worked P 14 [(0, .ref 44), (1, .int (nI li)), (2, .int (nI (wkStep (q.1 54 k) q).2)), (3, .int (nI (k + 1)))] [] (zuI w (wkStep (q.1 54 k) q).1)) : zS 0 0 d m_Mod_worked P 24 [(0, .ref 44), (1, .int (nI li)), (2, .int (nI q.2)), (3, .int (nI k))] [] (zuI w q.1) := by
  refine z_aload_n (pc := 24) (i := 0) (j := 0) rfl rfl rfl ?_
  refine z_getR (pc := 25) (x := 54) rfl fl_Mod_38 hm.1 rfl (mr_54 hm) ?_
  refine z_iload_n (pc := 28) (i := 3) (j := 3) rfl rfl rfl ?_
  refine z_iald (pc := 29) rfl (mk_54 hm) (vp_in_nI hk (by decide)) ?_
  refine z_eqi (y := q.1 54 k) (by rw [nI_clamp (by omega)]; rfl) ?_
  refine z_topi (fun c h_c => ?_)
  refine z_istore (pc := 30) (i := 4) (ls' := [(0, .ref 44), (1, .int (nI li)), (2, .int (nI q.2)), (3, .int (nI k)), (4, .int c)]) rfl (by decide) rfl ?_
  rw [← h_c] at hg kk
  refine z_iload (pc := 32) (i := 4) (j := 4) rfl rfl ?_
  refine z_bipush (pc := 34) (v := 28) rfl (by decide) ?_
  refine z_icmp_eq (pc := 36) (tgt := 46) rfl (by decide) (fun h36 => ?_) (fun h36 => ?_)
  · have hd1 : q.2 + 1 < 7 := hg.1 (by first | exact Or.inl h36 | exact Or.inr h43)
    refine z_iinc (pc := 46) (i := 2) (j := 2) (v := nI (q.2 + 1)) (ls' := [(0, .ref 44), (1, .int (nI li)), (2, .int (nI (q.2 + 1))), (3, .int (nI k)), (4, .int c)]) rfl rfl (nI_1 _) (by decide) rfl ?_
    refine z_aload_n (pc := 49) (i := 0) (j := 0) rfl rfl rfl ?_
    refine z_getR (pc := 50) (x := 65) rfl fl_Mod_72 hm.1 rfl (mr_65 hm) ?_
    refine z_iload_n (pc := 53) (i := 2) (j := 2) rfl rfl rfl ?_
    have j66 : ∀ u : Int32, (u = (if c = 30 then 1 else 0)) → zS 0 0 d m_Mod_worked P 66 [(0, .ref 44), (1, .int (nI li)), (2, .int (nI (q.2 + 1))), (3, .int (nI k)), (4, .int c)] [.int u, .int (nI (q.2 + 1)), .ref 65] (zuI w q.1) := by
      intro u h_j66
      refine z_iast (pc := 66) rfl (mk_65 hm) (vp_in_nI hd1 (by decide)) ?_
      refine z_aload_n (pc := 67) (i := 0) (j := 0) rfl rfl rfl ?_
      refine z_iload_n (pc := 68) (i := 2) (j := 2) rfl rfl rfl ?_
      refine z_cV (pc := 69) (mc1 := 0) (ms1 := 0) (mc2 := 0) (ms2 := 0) (as := [.int (nI (q.2 + 1))]) (rest := []) (o := 44) rfl rfl hm.1 ok_Mod_opens rfl rfl cl_Mod_184 (by omega) (Nat.le_of_ble_eq_true rfl) (Nat.le_of_ble_eq_true rfl) (Nat.le_refl _) (Nat.le_refl _) (c_Mod_opens (w := zuI w (z2 q.1 65 (nI (q.2 + 1)).toNatClampNeg u)) hm hd1 0) (fun r1 w1 hp => ?_) rfl rfl
      obtain ⟨rfl, hw1⟩ := hp
      rw [hw1]
      refine ⟨⟨Nat.le_refl _, Or.inl rfl⟩, ?_⟩
      refine z_goto (pc := 72) (tgt := 329) rfl (by decide) ?_
      refine z_iinc (pc := 329) (i := 3) (j := 3) (v := nI (k + 1)) (ls' := [(0, .ref 44), (1, .int (nI li)), (2, .int (nI (q.2 + 1))), (3, .int (nI (k + 1))), (4, .int c)]) rfl rfl (nI_1 _) (by decide) rfl ?_
      refine z_goto (pc := 332) (tgt := 14) rfl (by decide) ?_
      have hq : wkStep c q = (opensF (z2 q.1 65 (q.2 + 1) 0) (q.2 + 1), q.2 + 1) := by unfold wkStep; rw [if_pos h36]
      have hu : u = 0 := by rw [h_j66, if_neg (by rw [h36]; decide)]
      rw [hu]
      rw [hq] at kk
      rw [nI_clamp (by omega)]
      refine z_drop ?_ kk
      simp
    refine z_iload (pc := 54) (i := 4) (j := 4) rfl rfl ?_
    refine z_bipush (pc := 56) (v := 30) rfl (by decide) ?_
    refine z_icmp_ne (pc := 58) (tgt := 65) rfl (by decide) (fun h58 => ?_) (fun h58 => ?_)
    · refine z_iconst (pc := 65) (v := 0) rfl (by decide) ?_
      exact j66 _ (by rw [if_neg h58] <;> rfl)
    · refine z_iconst (pc := 61) (v := 1) rfl (by decide) ?_
      refine z_goto (pc := 62) (tgt := 66) rfl (by decide) ?_
      exact j66 _ (by rw [if_pos h58] <;> rfl)
  · refine z_iload (pc := 39) (i := 4) (j := 4) rfl rfl ?_
    refine z_bipush (pc := 41) (v := 30) rfl (by decide) ?_
    refine z_icmp_ne (pc := 43) (tgt := 75) rfl (by decide) (fun h43 => ?_) (fun h43 => ?_)
    · refine z_iload (pc := 75) (i := 4) (j := 4) rfl rfl ?_
      refine z_bipush (pc := 77) (v := 20) rfl (by decide) ?_
      refine z_icmp_eq (pc := 79) (tgt := 89) rfl (by decide) (fun h79 => ?_) (fun h79 => ?_)
      · refine z_aload_n (pc := 89) (i := 0) (j := 0) rfl rfl rfl ?_
        refine z_iload_n (pc := 90) (i := 2) (j := 2) rfl rfl rfl ?_
        refine z_cV (pc := 91) (mc1 := 0) (ms1 := 0) (mc2 := 0) (ms2 := 0) (as := [.int (nI q.2)]) (rest := []) (o := 44) rfl rfl hm.1 ok_Mod_sums rfl rfl cl_Mod_181 (by omega) (Nat.le_of_ble_eq_true rfl) (Nat.le_of_ble_eq_true rfl) (Nat.le_refl _) (Nat.le_refl _) (c_Mod_sums (w := zuI w q.1) hm hd7 0) (fun r1 w1 hp => ?_) rfl rfl
        obtain ⟨rfl, hw1⟩ := hp
        rw [hw1]
        refine ⟨⟨Nat.le_refl _, Or.inl rfl⟩, ?_⟩
        refine z_aload_n (pc := 94) (i := 0) (j := 0) rfl rfl rfl ?_
        refine z_getR (pc := 95) (x := 62) rfl fl_Mod_63 hm.1 rfl (mr_62 hm) ?_
        refine z_iload_n (pc := 98) (i := 2) (j := 2) rfl rfl rfl ?_
        refine z_iload (pc := 99) (i := 4) (j := 4) rfl rfl ?_
        refine z_iast (pc := 101) rfl (mk_62 hm) (vp_in_nI hd7 (by decide)) ?_
        refine z_goto (pc := 102) (tgt := 329) rfl (by decide) ?_
        refine z_iinc (pc := 329) (i := 3) (j := 3) (v := nI (k + 1)) (ls' := [(0, .ref 44), (1, .int (nI li)), (2, .int (nI q.2)), (3, .int (nI (k + 1))), (4, .int c)]) rfl rfl (nI_1 _) (by decide) rfl ?_
        refine z_goto (pc := 332) (tgt := 14) rfl (by decide) ?_
        have hq : wkStep c q = (z2 (sumsF q.1 q.2) 62 q.2 c, q.2) := by unfold wkStep; rw [if_neg h36, if_neg h43, if_pos (Or.inl h79)]
        rw [hq] at kk
        rw [nI_clamp (by omega)]
        refine z_drop ?_ kk
        simp
      · refine z_iload (pc := 82) (i := 4) (j := 4) rfl rfl ?_
        refine z_bipush (pc := 84) (v := 21) rfl (by decide) ?_
        refine z_icmp_ne (pc := 86) (tgt := 105) rfl (by decide) (fun h86 => ?_) (fun h86 => ?_)
        · refine z_iload (pc := 105) (i := 4) (j := 4) rfl rfl ?_
          refine z_bipush (pc := 107) (v := 22) rfl (by decide) ?_
          refine z_icmp_ne (pc := 109) (tgt := 123) rfl (by decide) (fun h109 => ?_) (fun h109 => ?_)
          · refine z_iload (pc := 123) (i := 4) (j := 4) rfl rfl ?_
            refine z_bipush (pc := 125) (v := 24) rfl (by decide) ?_
            refine z_icmp_eq (pc := 127) (tgt := 137) rfl (by decide) (fun h127 => ?_) (fun h127 => ?_)
            · refine z_aload_n (pc := 137) (i := 0) (j := 0) rfl rfl rfl ?_
              refine z_iload_n (pc := 138) (i := 2) (j := 2) rfl rfl rfl ?_
              refine z_cV (pc := 139) (mc1 := 0) (ms1 := 0) (mc2 := 0) (ms2 := 0) (as := [.int (nI q.2)]) (rest := []) (o := 44) rfl rfl hm.1 ok_Mod_sums rfl rfl cl_Mod_181 (by omega) (Nat.le_of_ble_eq_true rfl) (Nat.le_of_ble_eq_true rfl) (Nat.le_refl _) (Nat.le_refl _) (c_Mod_sums (w := zuI w q.1) hm hd7 0) (fun r1 w1 hp => ?_) rfl rfl
              obtain ⟨rfl, hw1⟩ := hp
              rw [hw1]
              refine ⟨⟨Nat.le_refl _, Or.inl rfl⟩, ?_⟩
              refine z_aload_n (pc := 142) (i := 0) (j := 0) rfl rfl rfl ?_
              refine z_getR (pc := 143) (x := 59) rfl fl_Mod_54 hm.1 rfl (mr_59 hm) ?_
              refine z_iload_n (pc := 146) (i := 2) (j := 2) rfl rfl rfl ?_
              refine z_aload_n (pc := 147) (i := 0) (j := 0) rfl rfl rfl ?_
              refine z_getR (pc := 148) (x := 61) rfl fl_Mod_60 hm.1 rfl (mr_61 hm) ?_
              refine z_iload_n (pc := 151) (i := 2) (j := 2) rfl rfl rfl ?_
              refine z_iald (pc := 152) rfl (mk_61 hm) (vp_in_nI hd7 (by decide)) ?_
              refine z_eqi (y := sumsF q.1 q.2 61 q.2) (by rw [nI_clamp (by omega)]; rfl) ?_
              refine z_iast (pc := 153) rfl (mk_59 hm) (vp_in_nI hd7 (by decide)) ?_
              refine z_aload_n (pc := 154) (i := 0) (j := 0) rfl rfl rfl ?_
              refine z_getR (pc := 155) (x := 60) rfl fl_Mod_57 hm.1 rfl (mr_60 hm) ?_
              refine z_iload_n (pc := 158) (i := 2) (j := 2) rfl rfl rfl ?_
              refine z_iload (pc := 159) (i := 4) (j := 4) rfl rfl ?_
              refine z_iast (pc := 161) rfl (mk_60 hm) (vp_in_nI hd7 (by decide)) ?_
              refine z_aload_n (pc := 162) (i := 0) (j := 0) rfl rfl rfl ?_
              refine z_getR (pc := 163) (x := 61) rfl fl_Mod_60 hm.1 rfl (mr_61 hm) ?_
              refine z_iload_n (pc := 166) (i := 2) (j := 2) rfl rfl rfl ?_
              refine z_iconst (pc := 167) (v := 0) rfl (by decide) ?_
              refine z_iast (pc := 168) rfl (mk_61 hm) (vp_in_nI hd7 (by decide)) ?_
              refine z_aload_n (pc := 169) (i := 0) (j := 0) rfl rfl rfl ?_
              refine z_getR (pc := 170) (x := 62) rfl fl_Mod_63 hm.1 rfl (mr_62 hm) ?_
              refine z_iload_n (pc := 173) (i := 2) (j := 2) rfl rfl rfl ?_
              refine z_bipush (pc := 174) (v := 20) rfl (by decide) ?_
              refine z_iast (pc := 176) rfl (mk_62 hm) (vp_in_nI hd7 (by decide)) ?_
              refine z_goto (pc := 177) (tgt := 329) rfl (by decide) ?_
              refine z_iinc (pc := 329) (i := 3) (j := 3) (v := nI (k + 1)) (ls' := [(0, .ref 44), (1, .int (nI li)), (2, .int (nI q.2)), (3, .int (nI (k + 1))), (4, .int c)]) rfl rfl (nI_1 _) (by decide) rfl ?_
              refine z_goto (pc := 332) (tgt := 14) rfl (by decide) ?_
              have hq : wkStep c q = (z2 (z2 (z2 (z2 (sumsF q.1 q.2) 59 q.2 (sumsF q.1 q.2 61 q.2)) 60 q.2 c) 61 q.2 0) 62 q.2 20, q.2) := by unfold wkStep; rw [if_neg h36, if_neg h43, if_neg (not_or.mpr ⟨h79, h86⟩), if_neg h109, if_pos (Or.inl h127)]
              rw [hq] at kk
              rw [nI_clamp (by omega)]
              refine z_drop ?_ kk
              simp
            · refine z_iload (pc := 130) (i := 4) (j := 4) rfl rfl ?_
              refine z_bipush (pc := 132) (v := 25) rfl (by decide) ?_
              refine z_icmp_ne (pc := 134) (tgt := 180) rfl (by decide) (fun h134 => ?_) (fun h134 => ?_)
              · refine z_iload (pc := 180) (i := 4) (j := 4) rfl rfl ?_
                refine z_bipush (pc := 182) (v := 26) rfl (by decide) ?_
                refine z_icmp_eq (pc := 184) (tgt := 194) rfl (by decide) (fun h184 => ?_) (fun h184 => ?_)
                · refine z_aload_n (pc := 194) (i := 0) (j := 0) rfl rfl rfl ?_
                  refine z_iload_n (pc := 195) (i := 2) (j := 2) rfl rfl rfl ?_
                  refine z_cV (pc := 196) (mc1 := 0) (ms1 := 0) (mc2 := 0) (ms2 := 0) (as := [.int (nI q.2)]) (rest := []) (o := 44) rfl rfl hm.1 ok_Mod_tests rfl rfl cl_Mod_187 (by omega) (Nat.le_of_ble_eq_true rfl) (Nat.le_of_ble_eq_true rfl) (Nat.le_refl _) (Nat.le_refl _) (c_Mod_tests (w := zuI w q.1) hm hd7 1 (by decide)) (fun r1 w1 hp => ?_) rfl rfl
                  obtain ⟨rfl, hw1⟩ := hp
                  rw [hw1]
                  refine ⟨⟨Nat.le_refl _, Or.inl rfl⟩, ?_⟩
                  refine z_aload_n (pc := 199) (i := 0) (j := 0) rfl rfl rfl ?_
                  refine z_getR (pc := 200) (x := 58) rfl fl_Mod_51 hm.1 rfl (mr_58 hm) ?_
                  refine z_iload_n (pc := 203) (i := 2) (j := 2) rfl rfl rfl ?_
                  refine z_iload (pc := 204) (i := 4) (j := 4) rfl rfl ?_
                  refine z_iast (pc := 206) rfl (mk_58 hm) (vp_in_nI hd7 (by decide)) ?_
                  refine z_goto (pc := 207) (tgt := 329) rfl (by decide) ?_
                  refine z_iinc (pc := 329) (i := 3) (j := 3) (v := nI (k + 1)) (ls' := [(0, .ref 44), (1, .int (nI li)), (2, .int (nI q.2)), (3, .int (nI (k + 1))), (4, .int c)]) rfl rfl (nI_1 _) (by decide) rfl ?_
                  refine z_goto (pc := 332) (tgt := 14) rfl (by decide) ?_
                  have hq : wkStep c q = (z2 (testsF q.1 q.2) 58 q.2 c, q.2) := by unfold wkStep; rw [if_neg h36, if_neg h43, if_neg (not_or.mpr ⟨h79, h86⟩), if_neg h109, if_neg (not_or.mpr ⟨h127, h134⟩), if_pos (Or.inl h184)]
                  rw [hq] at kk
                  rw [nI_clamp (by omega)]
                  refine z_drop ?_ kk
                  simp
                · refine z_iload (pc := 187) (i := 4) (j := 4) rfl rfl ?_
                  refine z_bipush (pc := 189) (v := 27) rfl (by decide) ?_
                  refine z_icmp_ne (pc := 191) (tgt := 210) rfl (by decide) (fun h191 => ?_) (fun h191 => ?_)
                  · have j243 : ∀ v : Int32, (v = wkV c q.1) → zS 0 0 d m_Mod_worked P 243 [(0, .ref 44), (1, .int (nI li)), (2, .int (nI q.2)), (3, .int (nI k)), (4, .int c)] [.int v] (zuI w q.1) := by
                      intro v h_j243
                      refine z_istore (pc := 243) (i := 5) (ls' := [(0, .ref 44), (1, .int (nI li)), (2, .int (nI q.2)), (3, .int (nI k)), (4, .int c), (5, .int v)]) rfl (by decide) rfl ?_
                      refine z_iload (pc := 245) (i := 4) (j := 4) rfl rfl ?_
                      refine z_bipush (pc := 247) (v := 29) rfl (by decide) ?_
                      refine z_icmp_ne (pc := 249) (tgt := 268) rfl (by decide) (fun h249 => ?_) (fun h249 => ?_)
                      · have hq : wkStep c q = (termF q.1 (nots q.1 q.2 v), (nots q.1 q.2 v).1) := by
                          unfold wkStep
                          rw [if_neg h36, if_neg h43, if_neg (not_or.mpr ⟨h79, h86⟩), if_neg h109, if_neg (not_or.mpr ⟨h127, h134⟩), if_neg (not_or.mpr ⟨h184, h191⟩), if_neg h249, h_j243]
                        rw [hq] at kk
                        exact l_nots hm q.1 li k c d q.2 v hd7 (l_term hm q.1 li k c (nots q.1 q.2 v) (Nat.lt_of_le_of_lt (nots_le _ _ _) hd7) d kk)
                      · have h249n : c = 29 := h249
                        refine z_aload_n (pc := 252) (i := 0) (j := 0) rfl rfl rfl ?_
                        refine z_iload_n (pc := 253) (i := 2) (j := 2) rfl rfl rfl ?_
                        refine z_cV (pc := 254) (mc1 := 0) (ms1 := 0) (mc2 := 0) (ms2 := 0) (as := [.int (nI q.2)]) (rest := []) (o := 44) rfl rfl hm.1 ok_Mod_tests rfl rfl cl_Mod_187 (by omega) (Nat.le_of_ble_eq_true rfl) (Nat.le_of_ble_eq_true rfl) (Nat.le_refl _) (Nat.le_refl _) (c_Mod_tests (w := zuI w q.1) hm hd7 1 (by decide)) (fun r1 w1 hp => ?_) rfl rfl
                        obtain ⟨rfl, hw1⟩ := hp
                        rw [hw1]
                        refine ⟨⟨Nat.le_refl _, Or.inl rfl⟩, ?_⟩
                        refine z_aload_n (pc := 257) (i := 0) (j := 0) rfl rfl rfl ?_
                        refine z_getR (pc := 258) (x := 57) rfl fl_Mod_48 hm.1 rfl (mr_57 hm) ?_
                        refine z_iload_n (pc := 261) (i := 2) (j := 2) rfl rfl rfl ?_
                        refine z_iald (pc := 262) rfl (mk_57 hm) (vp_in_nI hd7 (by decide)) ?_
                        refine z_eqi (y := testsF q.1 q.2 57 q.2) (by rw [nI_clamp (by omega)]; rfl) ?_
                        refine z_istore (pc := 263) (i := 5) (ls' := [(0, .ref 44), (1, .int (nI li)), (2, .int (nI q.2)), (3, .int (nI k)), (4, .int c), (5, .int (testsF q.1 q.2 57 q.2))]) rfl (by decide) rfl ?_
                        refine z_iinc (pc := 265) (i := 2) (j := 2) (v := nI (q.2 - 1)) (ls' := [(0, .ref 44), (1, .int (nI li)), (2, .int (nI (q.2 - 1))), (3, .int (nI k)), (4, .int c), (5, .int (testsF q.1 q.2 57 q.2))]) rfl rfl (sb_m1 (hg.2.1 h249n)) (by decide) rfl ?_
                        have hq : wkStep c q = (termF (testsF q.1 q.2) (nots (testsF q.1 q.2) (q.2 - 1) (testsF q.1 q.2 57 q.2)), (nots (testsF q.1 q.2) (q.2 - 1) (testsF q.1 q.2 57 q.2)).1) := by
                          unfold wkStep
                          rw [if_neg h36, if_neg h43, if_neg (not_or.mpr ⟨h79, h86⟩), if_neg h109, if_neg (not_or.mpr ⟨h127, h134⟩), if_neg (not_or.mpr ⟨h184, h191⟩), if_pos h249]
                        rw [hq] at kk
                        exact l_nots hm (testsF q.1 q.2) li k c d (q.2 - 1) (testsF q.1 q.2 57 q.2) (by omega) (l_term hm (testsF q.1 q.2) li k c (nots (testsF q.1 q.2) (q.2 - 1) (testsF q.1 q.2 57 q.2)) (Nat.lt_of_le_of_lt (nots_le _ _ _) (by omega)) d kk)
                    refine z_iload (pc := 210) (i := 4) (j := 4) rfl rfl ?_
                    refine z_bipush (pc := 212) (v := 100) rfl (by decide) ?_
                    refine z_icmp_lt (pc := 214) (tgt := 225) rfl (by decide) (fun h214 => ?_) (fun h214 => ?_)
                    · refine z_iload (pc := 225) (i := 4) (j := 4) rfl rfl ?_
                      refine z_bipush (pc := 227) (v := 20) rfl (by decide) ?_
                      refine z_icmp_ge (pc := 229) (tgt := 242) rfl (by decide) (fun h229 => ?_) (fun h229 => ?_)
                      · refine z_iconst (pc := 242) (v := 0) rfl (by decide) ?_
                        exact j243 _ (by unfold wkV; rw [if_pos h214, if_pos h229])
                      · refine z_aload_n (pc := 232) (i := 0) (j := 0) rfl rfl rfl ?_
                        refine z_getR (pc := 233) (x := 66) rfl fl_Mod_75 hm.1 rfl (mr_66 hm) ?_
                        refine z_iload (pc := 236) (i := 4) (j := 4) rfl rfl ?_
                        refine z_iald (pc := 238) rfl (mk_66 hm) (vp_in_iff.mpr ⟨by have := hg.2.2 (Int32.not_le.mp h229); have h0 : (0 : Int32).toInt = 0 := rfl; have := (fa_le 0 c).mp this; omega, by have := (fa_lt c 20).mp (Int32.not_le.mp h229); have h20 : (20 : Int32).toInt = 20 := rfl; omega⟩) ?_
                        refine z_goto (pc := 239) (tgt := 243) rfl (by decide) ?_
                        exact j243 _ (by unfold wkV; rw [if_pos h214, if_neg h229]; rfl)
                    · refine z_iload (pc := 217) (i := 4) (j := 4) rfl rfl ?_
                      refine z_bipush (pc := 219) (v := 100) rfl (by decide) ?_
                      refine z_isub (pc := 221) rfl ?_
                      refine z_goto (pc := 222) (tgt := 243) rfl (by decide) ?_
                      exact j243 _ (by unfold wkV; rw [if_neg h214])
                  · refine z_aload_n (pc := 194) (i := 0) (j := 0) rfl rfl rfl ?_
                    refine z_iload_n (pc := 195) (i := 2) (j := 2) rfl rfl rfl ?_
                    refine z_cV (pc := 196) (mc1 := 0) (ms1 := 0) (mc2 := 0) (ms2 := 0) (as := [.int (nI q.2)]) (rest := []) (o := 44) rfl rfl hm.1 ok_Mod_tests rfl rfl cl_Mod_187 (by omega) (Nat.le_of_ble_eq_true rfl) (Nat.le_of_ble_eq_true rfl) (Nat.le_refl _) (Nat.le_refl _) (c_Mod_tests (w := zuI w q.1) hm hd7 1 (by decide)) (fun r1 w1 hp => ?_) rfl rfl
                    obtain ⟨rfl, hw1⟩ := hp
                    rw [hw1]
                    refine ⟨⟨Nat.le_refl _, Or.inl rfl⟩, ?_⟩
                    refine z_aload_n (pc := 199) (i := 0) (j := 0) rfl rfl rfl ?_
                    refine z_getR (pc := 200) (x := 58) rfl fl_Mod_51 hm.1 rfl (mr_58 hm) ?_
                    refine z_iload_n (pc := 203) (i := 2) (j := 2) rfl rfl rfl ?_
                    refine z_iload (pc := 204) (i := 4) (j := 4) rfl rfl ?_
                    refine z_iast (pc := 206) rfl (mk_58 hm) (vp_in_nI hd7 (by decide)) ?_
                    refine z_goto (pc := 207) (tgt := 329) rfl (by decide) ?_
                    refine z_iinc (pc := 329) (i := 3) (j := 3) (v := nI (k + 1)) (ls' := [(0, .ref 44), (1, .int (nI li)), (2, .int (nI q.2)), (3, .int (nI (k + 1))), (4, .int c)]) rfl rfl (nI_1 _) (by decide) rfl ?_
                    refine z_goto (pc := 332) (tgt := 14) rfl (by decide) ?_
                    have hq : wkStep c q = (z2 (testsF q.1 q.2) 58 q.2 c, q.2) := by unfold wkStep; rw [if_neg h36, if_neg h43, if_neg (not_or.mpr ⟨h79, h86⟩), if_neg h109, if_neg (not_or.mpr ⟨h127, h134⟩), if_pos (Or.inr h191)]
                    rw [hq] at kk
                    rw [nI_clamp (by omega)]
                    refine z_drop ?_ kk
                    simp
              · refine z_aload_n (pc := 137) (i := 0) (j := 0) rfl rfl rfl ?_
                refine z_iload_n (pc := 138) (i := 2) (j := 2) rfl rfl rfl ?_
                refine z_cV (pc := 139) (mc1 := 0) (ms1 := 0) (mc2 := 0) (ms2 := 0) (as := [.int (nI q.2)]) (rest := []) (o := 44) rfl rfl hm.1 ok_Mod_sums rfl rfl cl_Mod_181 (by omega) (Nat.le_of_ble_eq_true rfl) (Nat.le_of_ble_eq_true rfl) (Nat.le_refl _) (Nat.le_refl _) (c_Mod_sums (w := zuI w q.1) hm hd7 0) (fun r1 w1 hp => ?_) rfl rfl
                obtain ⟨rfl, hw1⟩ := hp
                rw [hw1]
                refine ⟨⟨Nat.le_refl _, Or.inl rfl⟩, ?_⟩
                refine z_aload_n (pc := 142) (i := 0) (j := 0) rfl rfl rfl ?_
                refine z_getR (pc := 143) (x := 59) rfl fl_Mod_54 hm.1 rfl (mr_59 hm) ?_
                refine z_iload_n (pc := 146) (i := 2) (j := 2) rfl rfl rfl ?_
                refine z_aload_n (pc := 147) (i := 0) (j := 0) rfl rfl rfl ?_
                refine z_getR (pc := 148) (x := 61) rfl fl_Mod_60 hm.1 rfl (mr_61 hm) ?_
                refine z_iload_n (pc := 151) (i := 2) (j := 2) rfl rfl rfl ?_
                refine z_iald (pc := 152) rfl (mk_61 hm) (vp_in_nI hd7 (by decide)) ?_
                refine z_eqi (y := sumsF q.1 q.2 61 q.2) (by rw [nI_clamp (by omega)]; rfl) ?_
                refine z_iast (pc := 153) rfl (mk_59 hm) (vp_in_nI hd7 (by decide)) ?_
                refine z_aload_n (pc := 154) (i := 0) (j := 0) rfl rfl rfl ?_
                refine z_getR (pc := 155) (x := 60) rfl fl_Mod_57 hm.1 rfl (mr_60 hm) ?_
                refine z_iload_n (pc := 158) (i := 2) (j := 2) rfl rfl rfl ?_
                refine z_iload (pc := 159) (i := 4) (j := 4) rfl rfl ?_
                refine z_iast (pc := 161) rfl (mk_60 hm) (vp_in_nI hd7 (by decide)) ?_
                refine z_aload_n (pc := 162) (i := 0) (j := 0) rfl rfl rfl ?_
                refine z_getR (pc := 163) (x := 61) rfl fl_Mod_60 hm.1 rfl (mr_61 hm) ?_
                refine z_iload_n (pc := 166) (i := 2) (j := 2) rfl rfl rfl ?_
                refine z_iconst (pc := 167) (v := 0) rfl (by decide) ?_
                refine z_iast (pc := 168) rfl (mk_61 hm) (vp_in_nI hd7 (by decide)) ?_
                refine z_aload_n (pc := 169) (i := 0) (j := 0) rfl rfl rfl ?_
                refine z_getR (pc := 170) (x := 62) rfl fl_Mod_63 hm.1 rfl (mr_62 hm) ?_
                refine z_iload_n (pc := 173) (i := 2) (j := 2) rfl rfl rfl ?_
                refine z_bipush (pc := 174) (v := 20) rfl (by decide) ?_
                refine z_iast (pc := 176) rfl (mk_62 hm) (vp_in_nI hd7 (by decide)) ?_
                refine z_goto (pc := 177) (tgt := 329) rfl (by decide) ?_
                refine z_iinc (pc := 329) (i := 3) (j := 3) (v := nI (k + 1)) (ls' := [(0, .ref 44), (1, .int (nI li)), (2, .int (nI q.2)), (3, .int (nI (k + 1))), (4, .int c)]) rfl rfl (nI_1 _) (by decide) rfl ?_
                refine z_goto (pc := 332) (tgt := 14) rfl (by decide) ?_
                have hq : wkStep c q = (z2 (z2 (z2 (z2 (sumsF q.1 q.2) 59 q.2 (sumsF q.1 q.2 61 q.2)) 60 q.2 c) 61 q.2 0) 62 q.2 20, q.2) := by unfold wkStep; rw [if_neg h36, if_neg h43, if_neg (not_or.mpr ⟨h79, h86⟩), if_neg h109, if_pos (Or.inr h134)]
                rw [hq] at kk
                rw [nI_clamp (by omega)]
                refine z_drop ?_ kk
                simp
          · refine z_aload_n (pc := 112) (i := 0) (j := 0) rfl rfl rfl ?_
            refine z_getR (pc := 113) (x := 64) rfl fl_Mod_69 hm.1 rfl (mr_64 hm) ?_
            refine z_iload_n (pc := 116) (i := 2) (j := 2) rfl rfl rfl ?_
            refine z_iload (pc := 117) (i := 4) (j := 4) rfl rfl ?_
            refine z_iast (pc := 119) rfl (mk_64 hm) (vp_in_nI hd7 (by decide)) ?_
            refine z_goto (pc := 120) (tgt := 329) rfl (by decide) ?_
            refine z_iinc (pc := 329) (i := 3) (j := 3) (v := nI (k + 1)) (ls' := [(0, .ref 44), (1, .int (nI li)), (2, .int (nI q.2)), (3, .int (nI (k + 1))), (4, .int c)]) rfl rfl (nI_1 _) (by decide) rfl ?_
            refine z_goto (pc := 332) (tgt := 14) rfl (by decide) ?_
            have hq : wkStep c q = (z2 q.1 64 q.2 c, q.2) := by unfold wkStep; rw [if_neg h36, if_neg h43, if_neg (not_or.mpr ⟨h79, h86⟩), if_pos h109]
            rw [hq] at kk
            rw [nI_clamp (by omega)]
            refine z_drop ?_ kk
            simp
        · refine z_aload_n (pc := 89) (i := 0) (j := 0) rfl rfl rfl ?_
          refine z_iload_n (pc := 90) (i := 2) (j := 2) rfl rfl rfl ?_
          refine z_cV (pc := 91) (mc1 := 0) (ms1 := 0) (mc2 := 0) (ms2 := 0) (as := [.int (nI q.2)]) (rest := []) (o := 44) rfl rfl hm.1 ok_Mod_sums rfl rfl cl_Mod_181 (by omega) (Nat.le_of_ble_eq_true rfl) (Nat.le_of_ble_eq_true rfl) (Nat.le_refl _) (Nat.le_refl _) (c_Mod_sums (w := zuI w q.1) hm hd7 0) (fun r1 w1 hp => ?_) rfl rfl
          obtain ⟨rfl, hw1⟩ := hp
          rw [hw1]
          refine ⟨⟨Nat.le_refl _, Or.inl rfl⟩, ?_⟩
          refine z_aload_n (pc := 94) (i := 0) (j := 0) rfl rfl rfl ?_
          refine z_getR (pc := 95) (x := 62) rfl fl_Mod_63 hm.1 rfl (mr_62 hm) ?_
          refine z_iload_n (pc := 98) (i := 2) (j := 2) rfl rfl rfl ?_
          refine z_iload (pc := 99) (i := 4) (j := 4) rfl rfl ?_
          refine z_iast (pc := 101) rfl (mk_62 hm) (vp_in_nI hd7 (by decide)) ?_
          refine z_goto (pc := 102) (tgt := 329) rfl (by decide) ?_
          refine z_iinc (pc := 329) (i := 3) (j := 3) (v := nI (k + 1)) (ls' := [(0, .ref 44), (1, .int (nI li)), (2, .int (nI q.2)), (3, .int (nI (k + 1))), (4, .int c)]) rfl rfl (nI_1 _) (by decide) rfl ?_
          refine z_goto (pc := 332) (tgt := 14) rfl (by decide) ?_
          have hq : wkStep c q = (z2 (sumsF q.1 q.2) 62 q.2 c, q.2) := by unfold wkStep; rw [if_neg h36, if_neg h43, if_pos (Or.inr h86)]
          rw [hq] at kk
          rw [nI_clamp (by omega)]
          refine z_drop ?_ kk
          simp
    · have hd1 : q.2 + 1 < 7 := hg.1 (by first | exact Or.inl h36 | exact Or.inr h43)
      refine z_iinc (pc := 46) (i := 2) (j := 2) (v := nI (q.2 + 1)) (ls' := [(0, .ref 44), (1, .int (nI li)), (2, .int (nI (q.2 + 1))), (3, .int (nI k)), (4, .int c)]) rfl rfl (nI_1 _) (by decide) rfl ?_
      refine z_aload_n (pc := 49) (i := 0) (j := 0) rfl rfl rfl ?_
      refine z_getR (pc := 50) (x := 65) rfl fl_Mod_72 hm.1 rfl (mr_65 hm) ?_
      refine z_iload_n (pc := 53) (i := 2) (j := 2) rfl rfl rfl ?_
      have j66 : ∀ u : Int32, (u = (if c = 30 then 1 else 0)) → zS 0 0 d m_Mod_worked P 66 [(0, .ref 44), (1, .int (nI li)), (2, .int (nI (q.2 + 1))), (3, .int (nI k)), (4, .int c)] [.int u, .int (nI (q.2 + 1)), .ref 65] (zuI w q.1) := by
        intro u h_j66
        refine z_iast (pc := 66) rfl (mk_65 hm) (vp_in_nI hd1 (by decide)) ?_
        refine z_aload_n (pc := 67) (i := 0) (j := 0) rfl rfl rfl ?_
        refine z_iload_n (pc := 68) (i := 2) (j := 2) rfl rfl rfl ?_
        refine z_cV (pc := 69) (mc1 := 0) (ms1 := 0) (mc2 := 0) (ms2 := 0) (as := [.int (nI (q.2 + 1))]) (rest := []) (o := 44) rfl rfl hm.1 ok_Mod_opens rfl rfl cl_Mod_184 (by omega) (Nat.le_of_ble_eq_true rfl) (Nat.le_of_ble_eq_true rfl) (Nat.le_refl _) (Nat.le_refl _) (c_Mod_opens (w := zuI w (z2 q.1 65 (nI (q.2 + 1)).toNatClampNeg u)) hm hd1 0) (fun r1 w1 hp => ?_) rfl rfl
        obtain ⟨rfl, hw1⟩ := hp
        rw [hw1]
        refine ⟨⟨Nat.le_refl _, Or.inl rfl⟩, ?_⟩
        refine z_goto (pc := 72) (tgt := 329) rfl (by decide) ?_
        refine z_iinc (pc := 329) (i := 3) (j := 3) (v := nI (k + 1)) (ls' := [(0, .ref 44), (1, .int (nI li)), (2, .int (nI (q.2 + 1))), (3, .int (nI (k + 1))), (4, .int c)]) rfl rfl (nI_1 _) (by decide) rfl ?_
        refine z_goto (pc := 332) (tgt := 14) rfl (by decide) ?_
        have hq : wkStep c q = (opensF (z2 q.1 65 (q.2 + 1) 1) (q.2 + 1), q.2 + 1) := by unfold wkStep; rw [if_neg h36, if_pos h43]
        have hu : u = 1 := by rw [h_j66, if_pos h43]
        rw [hu]
        rw [hq] at kk
        rw [nI_clamp (by omega)]
        refine z_drop ?_ kk
        simp
      refine z_iload (pc := 54) (i := 4) (j := 4) rfl rfl ?_
      refine z_bipush (pc := 56) (v := 30) rfl (by decide) ?_
      refine z_icmp_ne (pc := 58) (tgt := 65) rfl (by decide) (fun h58 => ?_) (fun h58 => ?_)
      · refine z_iconst (pc := 65) (v := 0) rfl (by decide) ?_
        exact j66 _ (by rw [if_neg h58] <;> rfl)
      · refine z_iconst (pc := 61) (v := 1) rfl (by decide) ?_
        refine z_goto (pc := 62) (tgt := 66) rfl (by decide) ?_
        exact j66 _ (by rw [if_pos h58] <;> rfl)
