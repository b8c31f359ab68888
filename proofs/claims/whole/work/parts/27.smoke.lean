/-! SMOKE: the air a has its rows met, laid, cells, whose at a + 1 .. a + 4 -/
def zAir (w : zW) (a : Nat) : Prop := w.1[a]? = some (4, 4) ∧ w.1[a + 1]? = some (10, 8) ∧ w.1[a + 2]? = some (10, 8) ∧ w.1[a + 3]? = some (10, 104) ∧ w.1[a + 4]? = some (10, 144) ∧ zR w a 0 = some (a + 1) ∧ zR w a 1 = some (a + 2) ∧ zR w a 2 = some (a + 3) ∧ zR w a 3 = some (a + 4)
def bitI (h : Nat) : Int32 := 1 <<< (nI h &&& 31)
/-- the place of a column and a row in a field of C by R -/
def cellP (C R : Nat) (x y : Int32) : Option Nat := if 0 ≤ x.toInt ∧ x.toInt < C ∧ 0 ≤ y.toInt ∧ y.toInt < R then some (12 * y.toInt.toNat + x.toInt.toNat) else none
theorem cell_in {C R : Nat} (hC : C ≤ 12) (hR : R ≤ 12) {x y : Int32} {p : Nat} (h : cellP C R x y = some p) : p < 144 ∧ y * 12 + x = nI p ∧ (∃ c r, c < C ∧ r < R ∧ x = nI c ∧ y = nI r ∧ p = 12 * r + c) := by
  unfold cellP at h
  split at h
  · rename_i h1
    obtain ⟨a1, a2, a3, a4⟩ := h1
    have hp : p = 12 * y.toInt.toNat + x.toInt.toNat := (Option.some.inj h).symm
    have ex : x = nI x.toInt.toNat := by
      apply Int32.toInt_inj.mp
      rw [nI_toInt (by omega)]
      omega
    have ey : y = nI y.toInt.toNat := by
      apply Int32.toInt_inj.mp
      rw [nI_toInt (by omega)]
      omega
    refine ⟨by omega, ?_, x.toInt.toNat, y.toInt.toNat, by omega, by omega, ex, ey, hp⟩
    rw [hp]
    calc y * 12 + x = nI y.toInt.toNat * nI 12 + nI x.toInt.toNat := by rw [← ex, ← ey]; rfl
      _ = nI (12 * y.toInt.toNat + x.toInt.toNat) := by rw [pk_mul, nI_add, Nat.mul_comm]
  · cases h
theorem cell_has {C R : Nat} (hC : C ≤ 12) (hR : R ≤ 12) (x y : Int32) : (if x < 0 then (0 : Int32) else if nI C ≤ x then 0 else if y < 0 then 0 else if nI R ≤ y then 0 else 1) = if (cellP C R x y).isSome then 1 else 0 := by
  have eC := nI_toInt (n := C) (by omega)
  have eR := nI_toInt (n := R) (by omega)
  have z0 : (0 : Int32).toInt = 0 := rfl
  unfold cellP
  simp only [fa_lt, fa_le, eC, eR, z0]
  by_cases h1 : x.toInt < 0
  · rw [if_pos h1, if_neg (show ¬ (0 ≤ x.toInt ∧ x.toInt < C ∧ 0 ≤ y.toInt ∧ y.toInt < R) by omega)]; rfl
  · rw [if_neg h1]
    by_cases h2 : (C : Int) ≤ x.toInt
    · rw [if_pos h2, if_neg (show ¬ (0 ≤ x.toInt ∧ x.toInt < C ∧ 0 ≤ y.toInt ∧ y.toInt < R) by omega)]; rfl
    · rw [if_neg h2]
      by_cases h3 : y.toInt < 0
      · rw [if_pos h3, if_neg (show ¬ (0 ≤ x.toInt ∧ x.toInt < C ∧ 0 ≤ y.toInt ∧ y.toInt < R) by omega)]; rfl
      · rw [if_neg h3]
        by_cases h4 : (R : Int) ≤ y.toInt
        · rw [if_pos h4, if_neg (show ¬ (0 ≤ x.toInt ∧ x.toInt < C ∧ 0 ≤ y.toInt ∧ y.toInt < R) by omega)]; rfl
        · rw [if_neg h4, if_pos (show 0 ≤ x.toInt ∧ x.toInt < C ∧ 0 ≤ y.toInt ∧ y.toInt < R by omega)]; rfl
/-- the state of a plume that is laid: column, row, crossed, whose, how many cells, the cells -/
abbrev layQ : Type := Int32 × Int32 × Int32 × (Nat → Int32) × Nat × (Nat → Int32)
def layS (C R h : Nat) (dx dy : Int32) (q : layQ) : layQ := match cellP C R q.1 q.2.1 with
  | none => (q.1 + dx, q.2.1 + dy, q.2.2)
  | some p => (q.1 + dx, q.2.1 + dy, q.2.2.1 ||| q.2.2.2.1 p, upd q.2.2.2.1 p (q.2.2.2.1 p ||| bitI h), q.2.2.2.2.1 + 1, upd q.2.2.2.2.2 (13 * h + q.2.2.2.2.1) (nI p))
def layN (C R h : Nat) (dx dy : Int32) (q : layQ) : Nat → layQ
  | 0 => q
  | n + 1 => layS C R h dx dy (layN C R h dx dy q n)
theorem layS_n {C R h : Nat} {dx dy : Int32} {q : layQ} : (layS C R h dx dy q).2.2.2.2.1 ≤ q.2.2.2.2.1 + 1 := by
  unfold layS
  split <;> simp
theorem layN_n {C R h : Nat} {dx dy : Int32} {q : layQ} : ∀ n, (layN C R h dx dy q n).2.2.2.2.1 ≤ q.2.2.2.2.1 + n
  | 0 => Nat.le_refl _
  | n + 1 => Nat.le_trans layS_n (Nat.succ_le_succ (layN_n n))
def metR (m : Nat → Int32) (x : Int32) (h i : Nat) : Nat → Int32 := fun k => if k < i then (if (x >>> (nI k &&& 31)) &&& 1 = 0 then m k else m k ||| bitI h) else if k = h then x else m k
theorem metR_s (m : Nat → Int32) (x : Int32) {h i : Nat} (hi : i < h) : (if (x >>> (nI i &&& 31)) &&& 1 = 0 then metR m x h i else upd (metR m x h i) i (metR m x h i i ||| bitI h)) = metR m x h (i + 1) := by
  funext k
  by_cases hk : k = i
  · subst hk
    by_cases hb : (x >>> (nI k &&& 31)) &&& 1 = 0
    · rw [if_pos hb]; unfold metR; simp [hb, Nat.ne_of_lt hi]
    · rw [if_neg hb]; unfold metR upd; simp [hb, Nat.ne_of_lt hi]
  · by_cases hb : (x >>> (nI i &&& 31)) &&& 1 = 0
    · rw [if_pos hb]; unfold metR
      by_cases h2 : k < i
      · have : k < i + 1 := by omega
        simp [h2, this]
      · have : ¬ k < i + 1 := by omega
        simp [h2, this]
    · rw [if_neg hb]; unfold metR upd
      by_cases h2 : k < i
      · have : k < i + 1 := by omega
        simp [hk, h2, this]
      · have : ¬ k < i + 1 := by omega
        simp [hk, h2, this]
/-- the ints behind a plume's cells were laid -/
def layF (f : Nat → Nat → Int32) (a h : Nat) (q : layQ) : Nat → Nat → Int32 := zr (zr (zr f (a + 2) (upd (f (a + 2)) h (nI q.2.2.2.2.1))) (a + 3) q.2.2.2.2.2) (a + 4) q.2.2.2.1
theorem layF_1 (f : Nat → Nat → Int32) (a h : Nat) (q : layQ) {o : Nat} (h2 : o ≠ a + 2) (h3 : o ≠ a + 3) (h4 : o ≠ a + 4) : layF f a h q o = f o := by
  unfold layF; rw [zr_o _ _ h4, zr_o _ _ h3, zr_o _ _ h2]
theorem layF_4 (f : Nat → Nat → Int32) (a h : Nat) (q : layQ) : layF f a h q (a + 4) = q.2.2.2.1 := zr_h _ _ _
theorem layF_3 (f : Nat → Nat → Int32) (a h : Nat) (q : layQ) : layF f a h q (a + 3) = q.2.2.2.2.2 := by unfold layF; rw [zr_o _ _ (by omega), zr_h]
theorem layF_2 (f : Nat → Nat → Int32) (a h : Nat) (q : layQ) : layF f a h q (a + 2) = upd (f (a + 2)) h (nI q.2.2.2.2.1) := by unfold layF; rw [zr_o _ _ (by omega), zr_o _ _ (by omega), zr_h]
theorem layF_2h (f : Nat → Nat → Int32) (a h : Nat) (q : layQ) : layF f a h q (a + 2) h = nI q.2.2.2.2.1 := by rw [layF_2]; simp [upd]
theorem layF_put (f : Nat → Nat → Int32) (a h p : Nat) (q : layQ) (u v : Int32) (c r : Int32) : z2 (z2 (z2 (layF f a h q) (a + 4) p u) (a + 3) (13 * h + q.2.2.2.2.1) v) (a + 2) h (nI (q.2.2.2.2.1 + 1)) = layF f a h (c, r, q.2.2.1, upd q.2.2.2.1 p u, q.2.2.2.2.1 + 1, upd q.2.2.2.2.2 (13 * h + q.2.2.2.2.1) v) := by
  funext x y
  unfold layF z2 zr upd
  by_cases h4 : x = a + 4
  · subst h4; simp
  · by_cases h3 : x = a + 3
    · subst h3; simp
    · by_cases h2 : x = a + 2
      · subst h2
        by_cases hy : y = h <;> simp [hy]
      · simp [h4, h3, h2]
theorem layF_eq (f : Nat → Nat → Int32) (a h : Nat) {q q2 : layQ} (e : q.2.2.2 = q2.2.2.2) : layF f a h q = layF f a h q2 := by unfold layF; rw [e]
set_option maxRecDepth 100000 in
set_option maxHeartbeats 4000000 in
theorem l2_Smoke_lay {w : zW} {a s : Nat} (ha : zAir w a) {hh : Nat} (h8 : hh < 8) (x : Int32) (d : Nat) (hd : 1 ≤ d) (l3 l4 l5 l6 : Int32) : ∀ (m i : Nat), i ≤ hh → hh ≤ i + m → zS 0 0 d m_Smoke_lay (fun rv w1 => rv = none ∧ w1 = zuI w (zr (zI w) (a + 1) (metR (zI w (a + 1)) x hh hh))) 146 [(0, .ref a), (1, .ref s), (2, .int (nI hh)), (3, .int l3), (4, .int l4), (5, .int l5), (6, .int l6), (7, .int x), (8, .int (nI i))] [] (zuI w (zr (zI w) (a + 1) (metR (zI w (a + 1)) x hh i))) := by
  have hex : zS 0 0 d m_Smoke_lay (fun rv w1 => rv = none ∧ w1 = zuI w (zr (zI w) (a + 1) (metR (zI w (a + 1)) x hh hh))) 146 [(0, .ref a), (1, .ref s), (2, .int (nI hh)), (3, .int l3), (4, .int l4), (5, .int l5), (6, .int l6), (7, .int x), (8, .int (nI hh))] [] (zuI w (zr (zI w) (a + 1) (metR (zI w (a + 1)) x hh hh))) := by
    refine z_iload (pc := 146) (i := 8) (j := 8) rfl rfl ?_
    refine z_iload_n (pc := 148) (i := 2) (j := 2) rfl rfl rfl ?_
    refine z_icmp_ge (pc := 149) (tgt := 181) rfl (by decide) (fun h149 => ?_) (fun h149 => ?_)
    · exact z_vret (pc := 181) rfl rfl ⟨rfl, rfl⟩
    · exact absurd (Int32.le_refl _) h149
  intro m
  induction m with
  | zero =>
    intro i hi hm
    obtain rfl : i = hh := by omega
    exact hex
  | succ m ih =>
    intro i hi hm
    by_cases hlt : i < hh
    · have kk := ih (i + 1) (by omega) (by omega)
      refine z_iload (pc := 146) (i := 8) (j := 8) rfl rfl ?_
      refine z_iload_n (pc := 148) (i := 2) (j := 2) rfl rfl rfl ?_
      refine z_icmp_ge (pc := 149) (tgt := 181) rfl (by decide) (fun h149 => ?_) (fun h149 => ?_)
      · exact absurd h149 (nI_ge (b := hh) hlt (by omega))
      · refine z_iload (pc := 152) (i := 7) (j := 7) rfl rfl ?_
        refine z_iload (pc := 154) (i := 8) (j := 8) rfl rfl ?_
        refine z_cSN (pc := 156) (mc1 := 0) (ms1 := 0) (mc2 := 0) (ms2 := 0) (as := [.int x, .int (nI i)]) (rest := []) ok_SW_hasBit rfl rfl cl_Smoke_36 (by omega) (Nat.le_of_ble_eq_true rfl) (Nat.le_of_ble_eq_true rfl) (Nat.le_refl _) (Nat.le_refl _) (c_SW_hasBit x (nI i) 0 _) (fun r1 w1 hp => ?_) rfl rfl
        obtain ⟨rfl, hw1⟩ := hp
        rw [hw1]
        refine ⟨⟨Nat.le_refl _, Or.inl rfl⟩, ?_⟩
        refine z_if_eq (pc := 159) (tgt := 175) rfl (by decide) (fun h159 => ?_) (fun h159 => ?_)
        · refine z_iinc (pc := 175) (i := 8) (j := 8) (v := nI (i + 1)) (ls' := [(0, .ref a), (1, .ref s), (2, .int (nI hh)), (3, .int l3), (4, .int l4), (5, .int l5), (6, .int l6), (7, .int x), (8, .int (nI (i + 1)))]) rfl rfl (nI_1 i) (by decide) rfl ?_
          refine z_goto (pc := 178) (tgt := 146) rfl (by decide) ?_
          have hb : (x >>> (nI i &&& 31)) &&& 1 = 0 := by
            by_cases hb : (x >>> (nI i &&& 31)) &&& 1 = 0
            · exact hb
            · rw [if_neg hb] at h159; exact absurd h159 (by decide)
          rw [← metR_s _ _ hlt, if_pos hb] at kk
          exact kk
        · refine z_aload_n (pc := 162) (i := 0) (j := 0) rfl rfl rfl ?_
          refine z_getR (pc := 163) (x := a + 1) rfl fl_Smoke_9 ha.1 rfl ha.2.2.2.2.2.1 ?_
          refine z_iload (pc := 166) (i := 8) (j := 8) rfl rfl ?_
          refine z_dup2 (pc := 168) rfl rfl rfl ?_
          refine z_iald (pc := 169) rfl ha.2.1 (vp_in_nI (by omega) (by decide)) ?_
          refine z_eqi (y := metR (zI w (a + 1)) x hh i i) (by rw [nI_clamp (by omega)]; exact congrFun (zr_h _ _ _) i) ?_
          refine z_iconst (pc := 170) (v := 1) rfl (by decide) ?_
          refine z_iload_n (pc := 171) (i := 2) (j := 2) rfl rfl rfl ?_
          refine z_ishl (pc := 172) rfl ?_
          refine z_ior (pc := 173) rfl ?_
          refine z_iast (pc := 174) rfl ha.2.1 (vp_in_nI (by omega) (by decide)) ?_
          refine z_iinc (pc := 175) (i := 8) (j := 8) (v := nI (i + 1)) (ls' := [(0, .ref a), (1, .ref s), (2, .int (nI hh)), (3, .int l3), (4, .int l4), (5, .int l5), (6, .int l6), (7, .int x), (8, .int (nI (i + 1)))]) rfl rfl (nI_1 i) (by decide) rfl ?_
          refine z_goto (pc := 178) (tgt := 146) rfl (by decide) ?_
          have hb : ¬ (x >>> (nI i &&& 31)) &&& 1 = 0 := fun hb => h159 (if_pos hb)
          rw [← metR_s _ _ hlt, if_neg hb] at kk
          rw [nI_clamp (by omega)]
          exact z_eqw (congrArg (zuI w) (zr_put _ _ _ _ _)) kk
    · obtain rfl : i = hh := by omega
      exact hex
set_option maxRecDepth 100000 in
set_option maxHeartbeats 4000000 in
theorem c2_Smoke_lay {w : zW} {a s : Nat} (ha : zAir w a) {hh : Nat} (h8 : hh < 8) (x : Int32) (d : Nat) (hd : 1 ≤ d) (l3 l4 l5 l6 l8 : Int32) : zS 0 0 d m_Smoke_lay (fun rv w1 => rv = none ∧ w1 = zuI w (zr (zI w) (a + 1) (metR (zI w (a + 1)) x hh hh))) 135 [(0, .ref a), (1, .ref s), (2, .int (nI hh)), (3, .int l3), (4, .int l4), (5, .int l5), (6, .int l6), (7, .int x), (8, .int l8)] [] w := by
  refine z_aload_n (pc := 135) (i := 0) (j := 0) rfl rfl rfl ?_
  refine z_getR (pc := 136) (x := a + 1) rfl fl_Smoke_9 ha.1 rfl ha.2.2.2.2.2.1 ?_
  refine z_iload_n (pc := 139) (i := 2) (j := 2) rfl rfl rfl ?_
  refine z_iload (pc := 140) (i := 7) (j := 7) rfl rfl ?_
  refine z_iast (pc := 142) rfl ha.2.1 (vp_in_nI (by omega) (by decide)) ?_
  refine z_iconst (pc := 143) (v := 0) rfl (by decide) ?_
  refine z_istore (pc := 144) (i := 8) (ls' := [(0, .ref a), (1, .ref s), (2, .int (nI hh)), (3, .int l3), (4, .int l4), (5, .int l5), (6, .int l6), (7, .int x), (8, .int 0)]) rfl (by decide) rfl ?_
  refine z_eqw (w2 := zuI w (zr (zI w) (a + 1) (metR (zI w (a + 1)) x hh 0))) ?_ (l2_Smoke_lay (s := s) ha h8 x d hd l3 l4 l5 l6 hh 0 (by omega) (by omega))
  rw [nI_clamp (by omega)]
  refine congrArg (zuI w) ((z2_zr _ _ _ _).trans (congrArg (zr _ _) ?_))
  funext k
  simp [metR, upd]
set_option maxRecDepth 100000 in
set_option maxHeartbeats 4000000 in
theorem l_Smoke_lay {w : zW} {a s C R : Nat} (ha : zAir w a) (h : zSt w s) (hC : zI w s 7 = nI C) (hR : zI w s 8 = nI R) (hC12 : C ≤ 12) (hR12 : R ≤ 12) (hsa : s + 12 ≤ a ∨ a + 5 ≤ s) {hh : Nat} (h8 : hh < 8) {yv : Nat} (hy : yv < 8) (len : Nat) (hlen : len ≤ 1000) (q0 : layQ) (hq0 : q0.2.2.2.2.1 = 0) (d : Nat) (hd : 2 ≤ d) (n : Nat) (hn : (n = len ∧ len ≤ 13) ∨ (n = 13 ∧ 13 < len)) : ∀ (m i : Nat), i ≤ n → n ≤ i + m → zS 0 0 d m_Smoke_lay (fun rv w1 => rv = none ∧ w1 = zuI w (zr (layF (zI w) a hh (layN C R hh (zkE.getD yv 0) (zkS.getD yv 0) q0 n)) (a + 1) (metR (zI w (a + 1)) (layN C R hh (zkE.getD yv 0) (zkS.getD yv 0) q0 n).2.2.1 hh hh))) 21 [(0, .ref a), (1, .ref s), (2, .int (nI hh)), (3, .int (nI len)), (4, .int (nI yv)), (5, .int ((layN C R hh (zkE.getD yv 0) (zkS.getD yv 0) q0 i).1)), (6, .int ((layN C R hh (zkE.getD yv 0) (zkS.getD yv 0) q0 i).2.1)), (7, .int ((layN C R hh (zkE.getD yv 0) (zkS.getD yv 0) q0 i).2.2.1)), (8, .int (nI i))] [] (zuI w (layF (zI w) a hh (layN C R hh (zkE.getD yv 0) (zkS.getD yv 0) q0 i))) := by
  have hex : zS 0 0 d m_Smoke_lay (fun rv w1 => rv = none ∧ w1 = zuI w (zr (layF (zI w) a hh (layN C R hh (zkE.getD yv 0) (zkS.getD yv 0) q0 n)) (a + 1) (metR (zI w (a + 1)) (layN C R hh (zkE.getD yv 0) (zkS.getD yv 0) q0 n).2.2.1 hh hh))) 21 [(0, .ref a), (1, .ref s), (2, .int (nI hh)), (3, .int (nI len)), (4, .int (nI yv)), (5, .int ((layN C R hh (zkE.getD yv 0) (zkS.getD yv 0) q0 n).1)), (6, .int ((layN C R hh (zkE.getD yv 0) (zkS.getD yv 0) q0 n).2.1)), (7, .int ((layN C R hh (zkE.getD yv 0) (zkS.getD yv 0) q0 n).2.2.1)), (8, .int (nI n))] [] (zuI w (layF (zI w) a hh (layN C R hh (zkE.getD yv 0) (zkS.getD yv 0) q0 n))) := by
    rcases hn with ⟨rfl, hn⟩ | ⟨rfl, hn⟩
    · skip
      refine z_iload (pc := 21) (i := 8) (j := 8) rfl rfl ?_
      refine z_iload_n (pc := 23) (i := 3) (j := 3) rfl rfl rfl ?_
      refine z_icmp_ge (pc := 24) (tgt := 135) rfl (by decide) (fun h24 => ?_) (fun h24 => ?_)
      · refine z_mono ?_ (c2_Smoke_lay (w := zuI w (layF (zI w) a hh (layN C R hh (zkE.getD yv 0) (zkS.getD yv 0) q0 n))) (s := s) ha h8 (layN C R hh (zkE.getD yv 0) (zkS.getD yv 0) q0 n).2.2.1 d (by omega) _ _ _ _ _)
        rintro r w1 ⟨rfl, rfl⟩
        refine ⟨rfl, congrArg (zuI w) ?_⟩
        show zr _ _ _ = zr _ _ _
        rw [show zI (zuI w (layF (zI w) a hh (layN C R hh (zkE.getD yv 0) (zkS.getD yv 0) q0 n))) (a + 1) = zI w (a + 1) from layF_1 _ _ _ _ (by omega) (by omega) (by omega)]
        rfl
      · exact absurd (Int32.le_refl _) h24
    · skip
      refine z_iload (pc := 21) (i := 8) (j := 8) rfl rfl ?_
      refine z_iload_n (pc := 23) (i := 3) (j := 3) rfl rfl rfl ?_
      refine z_icmp_ge (pc := 24) (tgt := 135) rfl (by decide) (fun h24 => ?_) (fun h24 => ?_)
      · exact absurd h24 (nI_ge (a := 13) (by omega) (by omega))
      · refine z_iload (pc := 27) (i := 8) (j := 8) rfl rfl ?_
        refine z_bipush (pc := 29) (v := 13) rfl (by decide) ?_
        refine z_icmp_ge (pc := 31) (tgt := 135) rfl (by decide) (fun h31 => ?_) (fun h31 => ?_)
        · refine z_mono ?_ (c2_Smoke_lay (w := zuI w (layF (zI w) a hh (layN C R hh (zkE.getD yv 0) (zkS.getD yv 0) q0 13))) (s := s) ha h8 (layN C R hh (zkE.getD yv 0) (zkS.getD yv 0) q0 13).2.2.1 d (by omega) _ _ _ _ _)
          rintro r w1 ⟨rfl, rfl⟩
          refine ⟨rfl, congrArg (zuI w) ?_⟩
          show zr _ _ _ = zr _ _ _
          rw [show zI (zuI w (layF (zI w) a hh (layN C R hh (zkE.getD yv 0) (zkS.getD yv 0) q0 13))) (a + 1) = zI w (a + 1) from layF_1 _ _ _ _ (by omega) (by omega) (by omega)]
          rfl
        · exact absurd (by decide) h31
  intro m
  induction m with
  | zero =>
    intro i hi hm
    obtain rfl : i = n := by omega
    exact hex
  | succ m ih =>
    intro i hi hm
    by_cases hlt : i < n
    · have kk := ih (i + 1) (by omega) (by omega)
      have hqs : layN C R hh (zkE.getD yv 0) (zkS.getD yv 0) q0 (i + 1) = layS C R hh (zkE.getD yv 0) (zkS.getD yv 0) (layN C R hh (zkE.getD yv 0) (zkS.getD yv 0) q0 i) := rfl
      rw [hqs] at kk
      have hqn : (layN C R hh (zkE.getD yv 0) (zkS.getD yv 0) q0 i).2.2.2.2.1 ≤ i := by
        have := layN_n (C := C) (R := R) (h := hh) (dx := zkE.getD yv 0) (dy := zkS.getD yv 0) (q := q0) i
        omega
      generalize layN C R hh (zkE.getD yv 0) (zkS.getD yv 0) q0 i = q at kk hqn ⊢
      refine z_iload (pc := 21) (i := 8) (j := 8) rfl rfl ?_
      refine z_iload_n (pc := 23) (i := 3) (j := 3) rfl rfl rfl ?_
      refine z_icmp_ge (pc := 24) (tgt := 135) rfl (by decide) (fun h24 => ?_) (fun h24 => ?_)
      · exact absurd h24 (nI_ge (b := len) (by omega) (by omega))
      · refine z_iload (pc := 27) (i := 8) (j := 8) rfl rfl ?_
        refine z_bipush (pc := 29) (v := 13) rfl (by decide) ?_
        refine z_icmp_ge (pc := 31) (tgt := 135) rfl (by decide) (fun h31 => ?_) (fun h31 => ?_)
        · exact absurd h31 (nI_ge (b := 13) (by omega) (by decide))
        · refine z_aload_n (pc := 34) (i := 1) (j := 1) rfl rfl rfl ?_
          refine z_iload (pc := 35) (i := 5) (j := 5) rfl rfl ?_
          refine z_iload (pc := 37) (i := 6) (j := 6) rfl rfl ?_
          refine z_cV (pc := 39) (mc1 := 0) (ms1 := 0) (mc2 := 0) (ms2 := 0) (as := [.int q.1, .int q.2.1]) (rest := []) (o := s) rfl rfl h.1 ok_Street_hasCell rfl rfl cl_Smoke_55 (by omega) (Nat.le_of_ble_eq_true rfl) (Nat.le_of_ble_eq_true rfl) (Nat.le_refl _) (Nat.le_refl _) (c_Street_hasCell (w := zuI w (layF (zI w) a hh q)) h q.1 q.2.1 0) (fun r1 w1 hp => ?_) rfl rfl
          obtain ⟨rfl, hw1⟩ := hp
          rw [hw1]
          refine ⟨⟨Nat.le_refl _, Or.inl rfl⟩, ?_⟩
          have e7 : zI (zuI w (layF (zI w) a hh q)) s 7 = nI C := (congrFun (layF_1 _ _ _ _ (by omega) (by omega) (by omega)) 7).trans hC
          have e8 : zI (zuI w (layF (zI w) a hh q)) s 8 = nI R := (congrFun (layF_1 _ _ _ _ (by omega) (by omega) (by omega)) 8).trans hR
          rw [e7, e8, cell_has hC12 hR12]
          refine z_if_eq (pc := 42) (tgt := 107) rfl (by decide) (fun h42 => ?_) (fun h42 => ?_)
          · refine z_iload (pc := 107) (i := 5) (j := 5) rfl rfl ?_
            refine z_getsN (pc := 109) (C0 := "SmokeWeds") (n1 := "EASTWARD") (d1 := "[I") (h1 := "SmokeWeds") (v := .ref 1000019) rfl (by decide +kernel) (by decide +kernel) ?_
            refine z_iload (pc := 112) (i := 4) (j := 4) rfl rfl ?_
            refine z_tE (pc := 114) rfl (vp_in_nI hy (by decide)) ?_
            refine z_eqi (y := zkE.getD yv 0) (by rw [nI_clamp (by omega)]) ?_
            refine z_iadd (pc := 115) rfl ?_
            refine z_istore (pc := 116) (i := 5) (ls' := [(0, .ref a), (1, .ref s), (2, .int (nI hh)), (3, .int (nI len)), (4, .int (nI yv)), (5, .int (q.1 + (zkE.getD yv 0))), (6, .int q.2.1), (7, .int q.2.2.1), (8, .int (nI i))]) rfl (by decide) rfl ?_
            refine z_iload (pc := 118) (i := 6) (j := 6) rfl rfl ?_
            refine z_getsN (pc := 120) (C0 := "SmokeWeds") (n1 := "SOUTHWARD") (d1 := "[I") (h1 := "SmokeWeds") (v := .ref 1000020) rfl (by decide +kernel) (by decide +kernel) ?_
            refine z_iload (pc := 123) (i := 4) (j := 4) rfl rfl ?_
            refine z_tS (pc := 125) rfl (vp_in_nI hy (by decide)) ?_
            refine z_eqi (y := zkS.getD yv 0) (by rw [nI_clamp (by omega)]) ?_
            refine z_iadd (pc := 126) rfl ?_
            refine z_istore (pc := 127) (i := 6) (ls' := [(0, .ref a), (1, .ref s), (2, .int (nI hh)), (3, .int (nI len)), (4, .int (nI yv)), (5, .int (q.1 + (zkE.getD yv 0))), (6, .int (q.2.1 + (zkS.getD yv 0))), (7, .int q.2.2.1), (8, .int (nI i))]) rfl (by decide) rfl ?_
            refine z_iinc (pc := 129) (i := 8) (j := 8) (v := nI (i + 1)) (ls' := [(0, .ref a), (1, .ref s), (2, .int (nI hh)), (3, .int (nI len)), (4, .int (nI yv)), (5, .int (q.1 + (zkE.getD yv 0))), (6, .int (q.2.1 + (zkS.getD yv 0))), (7, .int q.2.2.1), (8, .int (nI (i + 1)))]) rfl rfl (nI_1 i) (by decide) rfl ?_
            refine z_goto (pc := 132) (tgt := 21) rfl (by decide) ?_
            have hp0 : cellP C R q.1 q.2.1 = none := by
              cases hp : cellP C R q.1 q.2.1 with
              | none => rfl
              | some p => rw [hp] at h42; exact absurd h42 (by simp)
            have hq : layS C R hh (zkE.getD yv 0) (zkS.getD yv 0) q = (q.1 + zkE.getD yv 0, q.2.1 + zkS.getD yv 0, q.2.2) := by unfold layS; rw [hp0]
            rw [hq] at kk
            exact kk
          · obtain ⟨p, hp0⟩ : ∃ p, cellP C R q.1 q.2.1 = some p := by
              cases hp : cellP C R q.1 q.2.1 with
              | none => rw [hp] at h42; exact absurd rfl h42
              | some p => exact ⟨p, rfl⟩
            obtain ⟨hp144, hpe, -⟩ := cell_in hC12 hR12 hp0
            refine z_iload (pc := 45) (i := 5) (j := 5) rfl rfl ?_
            refine z_iload (pc := 47) (i := 6) (j := 6) rfl rfl ?_
            refine z_cSN (pc := 49) (mc1 := 0) (ms1 := 0) (mc2 := 0) (ms2 := 0) (as := [.int q.1, .int q.2.1]) (rest := []) ok_SW_cellPlace rfl rfl cl_Smoke_58 (by omega) (Nat.le_of_ble_eq_true rfl) (Nat.le_of_ble_eq_true rfl) (Nat.le_refl _) (Nat.le_refl _) (c_SW_cellPlace q.1 q.2.1 0 _) (fun r1 w1 hp => ?_) rfl rfl
            obtain ⟨rfl, hw1⟩ := hp
            rw [hw1]
            refine ⟨⟨Nat.le_refl _, Or.inl rfl⟩, ?_⟩
            rw [hpe]
            refine z_istore (pc := 52) (i := 9) (ls' := [(0, .ref a), (1, .ref s), (2, .int (nI hh)), (3, .int (nI len)), (4, .int (nI yv)), (5, .int q.1), (6, .int q.2.1), (7, .int q.2.2.1), (8, .int (nI i)), (9, .int (nI p))]) rfl (by decide) rfl ?_
            refine z_iload (pc := 54) (i := 7) (j := 7) rfl rfl ?_
            refine z_aload_n (pc := 56) (i := 0) (j := 0) rfl rfl rfl ?_
            refine z_getR (pc := 57) (x := a + 4) rfl fl_Smoke_21 ha.1 rfl ha.2.2.2.2.2.2.2.2 ?_
            refine z_iload (pc := 60) (i := 9) (j := 9) rfl rfl ?_
            refine z_iald (pc := 62) rfl ha.2.2.2.2.1 (vp_in_nI hp144 (by decide)) ?_
            refine z_eqi (y := q.2.2.2.1 p) (by rw [nI_clamp (by omega)]; exact congrFun (layF_4 _ _ _ _) p) ?_
            refine z_ior (pc := 63) rfl ?_
            refine z_istore (pc := 64) (i := 7) (ls' := [(0, .ref a), (1, .ref s), (2, .int (nI hh)), (3, .int (nI len)), (4, .int (nI yv)), (5, .int q.1), (6, .int q.2.1), (7, .int (q.2.2.1 ||| (q.2.2.2.1 p))), (8, .int (nI i)), (9, .int (nI p))]) rfl (by decide) rfl ?_
            refine z_aload_n (pc := 66) (i := 0) (j := 0) rfl rfl rfl ?_
            refine z_getR (pc := 67) (x := a + 4) rfl fl_Smoke_21 ha.1 rfl ha.2.2.2.2.2.2.2.2 ?_
            refine z_iload (pc := 70) (i := 9) (j := 9) rfl rfl ?_
            refine z_dup2 (pc := 72) rfl rfl rfl ?_
            refine z_iald (pc := 73) rfl ha.2.2.2.2.1 (vp_in_nI hp144 (by decide)) ?_
            refine z_eqi (y := q.2.2.2.1 p) (by rw [nI_clamp (by omega)]; exact congrFun (layF_4 _ _ _ _) p) ?_
            refine z_iconst (pc := 74) (v := 1) rfl (by decide) ?_
            refine z_iload_n (pc := 75) (i := 2) (j := 2) rfl rfl rfl ?_
            refine z_ishl (pc := 76) rfl ?_
            refine z_ior (pc := 77) rfl ?_
            refine z_iast (pc := 78) rfl ha.2.2.2.2.1 (vp_in_nI hp144 (by decide)) ?_
            refine z_aload_n (pc := 79) (i := 0) (j := 0) rfl rfl rfl ?_
            refine z_getR (pc := 80) (x := a + 3) rfl fl_Smoke_18 ha.1 rfl ha.2.2.2.2.2.2.2.1 ?_
            refine z_iload_n (pc := 83) (i := 2) (j := 2) rfl rfl rfl ?_
            refine z_bipush (pc := 84) (v := 13) rfl (by decide) ?_
            refine z_imul (pc := 86) rfl ?_
            refine z_aload_n (pc := 87) (i := 0) (j := 0) rfl rfl rfl ?_
            refine z_getR (pc := 88) (x := a + 2) rfl fl_Smoke_15 ha.1 rfl ha.2.2.2.2.2.2.1 ?_
            refine z_iload_n (pc := 91) (i := 2) (j := 2) rfl rfl rfl ?_
            refine z_iald (pc := 92) rfl ha.2.2.1 (vp_in_nI h8 (by decide)) ?_
            refine z_eqi (y := nI q.2.2.2.2.1) (by rw [nI_clamp (n := hh) (by omega)]; refine (z2_o _ _ _ _ (by omega)).trans ?_; exact layF_2h _ _ _ _) ?_
            refine z_iadd (pc := 93) rfl ?_
            refine z_eqi (y := nI (13 * hh + q.2.2.2.2.1)) (by rw [show nI hh * 13 = nI (hh * 13) from pk_mul hh 13, nI_add, Nat.mul_comm]) ?_
            refine z_iload (pc := 94) (i := 9) (j := 9) rfl rfl ?_
            refine z_iast (pc := 96) rfl ha.2.2.2.1 (vp_in_nI (by omega) (by decide)) ?_
            refine z_aload_n (pc := 97) (i := 0) (j := 0) rfl rfl rfl ?_
            refine z_getR (pc := 98) (x := a + 2) rfl fl_Smoke_15 ha.1 rfl ha.2.2.2.2.2.2.1 ?_
            refine z_iload_n (pc := 101) (i := 2) (j := 2) rfl rfl rfl ?_
            refine z_dup2 (pc := 102) rfl rfl rfl ?_
            refine z_iald (pc := 103) rfl ha.2.2.1 (vp_in_nI h8 (by decide)) ?_
            refine z_eqi (y := nI q.2.2.2.2.1) (by rw [nI_clamp (n := hh) (by omega)]; refine (z2_o _ _ _ _ (by omega)).trans ((z2_o _ _ _ _ (by omega)).trans ?_); exact layF_2h _ _ _ _) ?_
            refine z_iconst (pc := 104) (v := 1) rfl (by decide) ?_
            refine z_iadd (pc := 105) rfl ?_
            refine z_eqi (y := nI (q.2.2.2.2.1 + 1)) (nI_1 _) ?_
            refine z_iast (pc := 106) rfl ha.2.2.1 (vp_in_nI h8 (by decide)) ?_
            refine z_iload (pc := 107) (i := 5) (j := 5) rfl rfl ?_
            refine z_getsN (pc := 109) (C0 := "SmokeWeds") (n1 := "EASTWARD") (d1 := "[I") (h1 := "SmokeWeds") (v := .ref 1000019) rfl (by decide +kernel) (by decide +kernel) ?_
            refine z_iload (pc := 112) (i := 4) (j := 4) rfl rfl ?_
            refine z_tE (pc := 114) rfl (vp_in_nI hy (by decide)) ?_
            refine z_eqi (y := zkE.getD yv 0) (by rw [nI_clamp (by omega)]) ?_
            refine z_iadd (pc := 115) rfl ?_
            refine z_istore (pc := 116) (i := 5) (ls' := [(0, .ref a), (1, .ref s), (2, .int (nI hh)), (3, .int (nI len)), (4, .int (nI yv)), (5, .int (q.1 + (zkE.getD yv 0))), (6, .int q.2.1), (7, .int (q.2.2.1 ||| (q.2.2.2.1 p))), (8, .int (nI i)), (9, .int (nI p))]) rfl (by decide) rfl ?_
            refine z_iload (pc := 118) (i := 6) (j := 6) rfl rfl ?_
            refine z_getsN (pc := 120) (C0 := "SmokeWeds") (n1 := "SOUTHWARD") (d1 := "[I") (h1 := "SmokeWeds") (v := .ref 1000020) rfl (by decide +kernel) (by decide +kernel) ?_
            refine z_iload (pc := 123) (i := 4) (j := 4) rfl rfl ?_
            refine z_tS (pc := 125) rfl (vp_in_nI hy (by decide)) ?_
            refine z_eqi (y := zkS.getD yv 0) (by rw [nI_clamp (by omega)]) ?_
            refine z_iadd (pc := 126) rfl ?_
            refine z_istore (pc := 127) (i := 6) (ls' := [(0, .ref a), (1, .ref s), (2, .int (nI hh)), (3, .int (nI len)), (4, .int (nI yv)), (5, .int (q.1 + (zkE.getD yv 0))), (6, .int (q.2.1 + (zkS.getD yv 0))), (7, .int (q.2.2.1 ||| (q.2.2.2.1 p))), (8, .int (nI i)), (9, .int (nI p))]) rfl (by decide) rfl ?_
            refine z_iinc (pc := 129) (i := 8) (j := 8) (v := nI (i + 1)) (ls' := [(0, .ref a), (1, .ref s), (2, .int (nI hh)), (3, .int (nI len)), (4, .int (nI yv)), (5, .int (q.1 + (zkE.getD yv 0))), (6, .int (q.2.1 + (zkS.getD yv 0))), (7, .int (q.2.2.1 ||| (q.2.2.2.1 p))), (8, .int (nI (i + 1))), (9, .int (nI p))]) rfl rfl (nI_1 i) (by decide) rfl ?_
            refine z_goto (pc := 132) (tgt := 21) rfl (by decide) ?_
            have hq : layS C R hh (zkE.getD yv 0) (zkS.getD yv 0) q = (q.1 + zkE.getD yv 0, q.2.1 + zkS.getD yv 0, q.2.2.1 ||| q.2.2.2.1 p, upd q.2.2.2.1 p (q.2.2.2.1 p ||| bitI hh), q.2.2.2.2.1 + 1, upd q.2.2.2.2.2 (13 * hh + q.2.2.2.2.1) (nI p)) := by unfold layS; rw [hp0]
            rw [hq] at kk
            rw [nI_clamp (by omega), nI_clamp (by omega), nI_clamp (by omega)]
            refine z_drop (ls' := [(0, .ref a), (1, .ref s), (2, .int (nI hh)), (3, .int (nI len)), (4, .int (nI yv)), (5, .int (q.1 + zkE.getD yv 0)), (6, .int (q.2.1 + zkS.getD yv 0)), (7, .int (q.2.2.1 ||| q.2.2.2.1 p)), (8, .int (nI (i + 1)))]) (by simp) ?_
            refine z_eqw ?_ kk
            exact congrArg (zuI w) ((layF_put _ _ _ _ q _ _ 0 0).trans (layF_eq _ _ _ rfl))
    · obtain rfl : i = n := by omega
      exact hex
/-- what a plume of a house begins with -/
def lay0 (f : Nat → Nat → Int32) (a s h : Nat) : layQ := (if f (s + 4) h = 3 then f (s + 1) h + 1 else f (s + 1) h, f (s + 2) h, 0, f (a + 4), 0, f (a + 3))
def layE (f : Nat → Nat → Int32) (a s C R h yv len : Nat) : layQ := layN C R h (zkE.getD yv 0) (zkS.getD yv 0) (lay0 f a s h) (if len ≤ 13 then len else 13)
def layFin (f : Nat → Nat → Int32) (a s C R h yv len : Nat) : Nat → Nat → Int32 := zr (layF f a h (layE f a s C R h yv len)) (a + 1) (metR (f (a + 1)) (layE f a s C R h yv len).2.2.1 h h)
set_option maxRecDepth 100000 in
set_option maxHeartbeats 4000000 in
theorem c_Smoke_lay {w : zW} {a s C R : Nat} (ha : zAir w a) (h : zSt w s) (hC : zI w s 7 = nI C) (hR : zI w s 8 = nI R) (hC12 : C ≤ 12) (hR12 : R ≤ 12) (hsa : s + 12 ≤ a ∨ a + 5 ≤ s) {hh : Nat} (h8 : hh < 8) (hl0 : zI w (a + 2) hh = 0) {yv : Nat} (hy : yv < 8) (len : Nat) (hlen : len ≤ 1000) (d : Nat) (hd : 2 ≤ d) : zS 0 0 d m_Smoke_lay (fun rv w1 => rv = none ∧ w1 = zuI w (layFin (zI w) a s C R hh yv len)) 0 [(0, .ref a), (1, .ref s), (2, .int (nI hh)), (3, .int (nI len)), (4, .int (nI yv))] [] w := by
  refine z_aload_n (pc := 0) (i := 1) (j := 1) rfl rfl rfl ?_
  refine z_iload_n (pc := 1) (i := 2) (j := 2) rfl rfl rfl ?_
  refine z_cV (pc := 2) (mc1 := 0) (ms1 := 0) (mc2 := 0) (ms2 := 0) (as := [.int (nI hh)]) (rest := []) (o := s) rfl rfl h.1 ok_Street_firstColumn rfl rfl cl_Smoke_48 (by omega) (Nat.le_of_ble_eq_true rfl) (Nat.le_of_ble_eq_true rfl) (Nat.le_refl _) (Nat.le_refl _) (c_Street_firstColumn h h8 0) (fun r1 w1 hp => ?_) rfl rfl
  obtain ⟨rfl, hw1⟩ := hp
  rw [hw1]
  refine ⟨⟨Nat.le_refl _, Or.inl rfl⟩, ?_⟩
  rw [nI_clamp (by omega)]
  refine z_eqs (ls2 := [(0, .ref a), (1, .ref s), (2, .int (nI hh)), (3, .int (nI len)), (4, .int (nI yv))]) (st2 := [.int (lay0 (zI w) a s hh).1]) rfl rfl ?_
  refine z_istore (pc := 5) (i := 5) (ls' := [(0, .ref a), (1, .ref s), (2, .int (nI hh)), (3, .int (nI len)), (4, .int (nI yv)), (5, .int ((lay0 (zI w) a s hh).1))]) rfl (by decide) rfl ?_
  refine z_aload_n (pc := 7) (i := 1) (j := 1) rfl rfl rfl ?_
  refine z_getR (pc := 8) (x := s + 2) rfl fl_Smoke_52 h.1 rfl h.2.2.2.2.2.2.2.1 ?_
  refine z_iload_n (pc := 11) (i := 2) (j := 2) rfl rfl rfl ?_
  refine z_iald (pc := 12) rfl h.2.2.1 (vp_in_nI h8 (by decide)) ?_
  refine z_eqi (y := (lay0 (zI w) a s hh).2.1) (by rw [nI_clamp (by omega)]; rfl) ?_
  refine z_istore (pc := 13) (i := 6) (ls' := [(0, .ref a), (1, .ref s), (2, .int (nI hh)), (3, .int (nI len)), (4, .int (nI yv)), (5, .int ((lay0 (zI w) a s hh).1)), (6, .int ((lay0 (zI w) a s hh).2.1))]) rfl (by decide) rfl ?_
  refine z_iconst (pc := 15) (v := 0) rfl (by decide) ?_
  refine z_istore (pc := 16) (i := 7) (ls' := [(0, .ref a), (1, .ref s), (2, .int (nI hh)), (3, .int (nI len)), (4, .int (nI yv)), (5, .int ((lay0 (zI w) a s hh).1)), (6, .int ((lay0 (zI w) a s hh).2.1)), (7, .int 0)]) rfl (by decide) rfl ?_
  refine z_iconst (pc := 18) (v := 0) rfl (by decide) ?_
  refine z_istore (pc := 19) (i := 8) (ls' := [(0, .ref a), (1, .ref s), (2, .int (nI hh)), (3, .int (nI len)), (4, .int (nI yv)), (5, .int ((lay0 (zI w) a s hh).1)), (6, .int ((lay0 (zI w) a s hh).2.1)), (7, .int 0), (8, .int 0)]) rfl (by decide) rfl ?_
  have hl := l_Smoke_lay ha h hC hR hC12 hR12 hsa h8 hy len hlen (lay0 (zI w) a s hh) rfl d hd (if len ≤ 13 then len else 13) (by split <;> omega) (if len ≤ 13 then len else 13) 0 (Nat.zero_le _) (by omega)
  refine z_eqw (w2 := zuI w (layF (zI w) a hh (lay0 (zI w) a s hh))) ?_ hl
  show zuI w (zI w) = _
  refine congrArg (zuI w) ?_
  unfold layF lay0
  show zI w = zr (zr (zr (zI w) (a + 2) (upd (zI w (a + 2)) hh (nI 0))) (a + 3) (zI w (a + 3))) (a + 4) (zI w (a + 4))
  have e2 : upd (zI w (a + 2)) hh (nI 0) = zI w (a + 2) := fa_upd_same hl0
  rw [e2, zr_self, zr_self, zr_self]
