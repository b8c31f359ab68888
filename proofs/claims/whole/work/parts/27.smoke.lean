/-! SMOKE: the air a has its rows met, laid, cells, whose at a + 1 .. a + 4 -/
def zAir (w : zW) (a : Nat) : Prop := w.1[a]? = some (4, 4) ∧ w.1[a + 1]? = some (10, 8) ∧ w.1[a + 2]? = some (10, 8) ∧ w.1[a + 3]? = some (10, 104) ∧ w.1[a + 4]? = some (10, 144) ∧ zR w a 0 = some (a + 1) ∧ zR w a 1 = some (a + 2) ∧ zR w a 2 = some (a + 3) ∧ zR w a 3 = some (a + 4)
def bitI (h : Nat) : Int32 := 1 <<< (nI h &&& 31)
/-- the place of a column and a row in a field of C by R -/
def cellP (C R : Nat) (x y : Int32) : Option Nat := if 0 ≤ x.toInt ∧ x.toInt < C ∧ 0 ≤ y.toInt ∧ y.toInt < R then some (12 * y.toInt.toNat + x.toInt.toNat) else none
theorem cell_in {C R : Nat} (hC : C ≤ 12) (hR : R ≤ 12) {x y : Int32} {p : Nat} (h : cellP C R x y = some p) : p < 144 ∧ y * 12 + x = nI p ∧ (∃ c r, c < C ∧ r < R ∧ x = nI c ∧ y = nI r ∧ p = 12 * r + c) := by
  unfold cellP at h
  split at h
  · rename_i h1
    obtain ⟨a1, a2, a3, a4⟩ := h1
    have hp : p = 12 * y.toInt.toNat + x.toInt.toNat := (Option.some.inj h).symm
    have ex : x = nI x.toInt.toNat := by
      apply Int32.toInt_inj.mp
      rw [nI_toInt (by omega)]
      omega
    have ey : y = nI y.toInt.toNat := by
      apply Int32.toInt_inj.mp
      rw [nI_toInt (by omega)]
      omega
    refine ⟨by omega, ?_, x.toInt.toNat, y.toInt.toNat, by omega, by omega, ex, ey, hp⟩
    rw [hp]
    calc y * 12 + x = nI y.toInt.toNat * nI 12 + nI x.toInt.toNat := by rw [← ex, ← ey]; rfl
      _ = nI (12 * y.toInt.toNat + x.toInt.toNat) := by rw [pk_mul, nI_add, Nat.mul_comm]
  · cases h
theorem cell_has {C R : Nat} (hC : C ≤ 12) (hR : R ≤ 12) (x y : Int32) : (if x < 0 then (0 : Int32) else if nI C ≤ x then 0 else if y < 0 then 0 else if nI R ≤ y then 0 else 1) = if (cellP C R x y).isSome then 1 else 0 := by
  have eC := nI_toInt (n := C) (by omega)
  have eR := nI_toInt (n := R) (by omega)
  have z0 : (0 : Int32).toInt = 0 := rfl
  unfold cellP
  simp only [fa_lt, fa_le, eC, eR, z0]
  by_cases h1 : x.toInt < 0
  · rw [if_pos h1, if_neg (show ¬ (0 ≤ x.toInt ∧ x.toInt < C ∧ 0 ≤ y.toInt ∧ y.toInt < R) by omega)]; rfl
  · rw [if_neg h1]
    by_cases h2 : (C : Int) ≤ x.toInt
    · rw [if_pos h2, if_neg (show ¬ (0 ≤ x.toInt ∧ x.toInt < C ∧ 0 ≤ y.toInt ∧ y.toInt < R) by omega)]; rfl
    · rw [if_neg h2]
      by_cases h3 : y.toInt < 0
      · rw [if_pos h3, if_neg (show ¬ (0 ≤ x.toInt ∧ x.toInt < C ∧ 0 ≤ y.toInt ∧ y.toInt < R) by omega)]; rfl
      · rw [if_neg h3]
        by_cases h4 : (R : Int) ≤ y.toInt
        · rw [if_pos h4, if_neg (show ¬ (0 ≤ x.toInt ∧ x.toInt < C ∧ 0 ≤ y.toInt ∧ y.toInt < R) by omega)]; rfl
        · rw [if_neg h4, if_pos (show 0 ≤ x.toInt ∧ x.toInt < C ∧ 0 ≤ y.toInt ∧ y.toInt < R by omega)]; rfl
/-- the state of a plume that is laid: column, row, crossed, whose, how many cells, the cells -/
abbrev layQ : Type := Int32 × Int32 × Int32 × (Nat → Int32) × Nat × (Nat → Int32)
def layS (C R h : Nat) (dx dy : Int32) (q : layQ) : layQ := match cellP C R q.1 q.2.1 with
  | none => (q.1 + dx, q.2.1 + dy, q.2.2)
  | some p => (q.1 + dx, q.2.1 + dy, q.2.2.1 ||| q.2.2.2.1 p, upd q.2.2.2.1 p (q.2.2.2.1 p ||| bitI h), q.2.2.2.2.1 + 1, upd q.2.2.2.2.2 (13 * h + q.2.2.2.2.1) (nI p))
def layN (C R h : Nat) (dx dy : Int32) (q : layQ) : Nat → layQ
  | 0 => q
  | n + 1 => layS C R h dx dy (layN C R h dx dy q n)
theorem layS_n {C R h : Nat} {dx dy : Int32} {q : layQ} : (layS C R h dx dy q).2.2.2.2.1 ≤ q.2.2.2.2.1 + 1 := by
  unfold layS
  split <;> simp
theorem layN_n {C R h : Nat} {dx dy : Int32} {q : layQ} : ∀ n, (layN C R h dx dy q n).2.2.2.2.1 ≤ q.2.2.2.2.1 + n
  | 0 => Nat.le_refl _
  | n + 1 => Nat.le_trans layS_n (Nat.succ_le_succ (layN_n n))
def metR (m : Nat → Int32) (x : Int32) (h i : Nat) : Nat → Int32 := fun k => if k < i then (if (x >>> (nI k &&& 31)) &&& 1 = 0 then m k else m k ||| bitI h) else if k = h then x else m k
theorem metR_s (m : Nat → Int32) (x : Int32) {h i : Nat} (hi : i < h) : (if (x >>> (nI i &&& 31)) &&& 1 = 0 then metR m x h i else upd (metR m x h i) i (metR m x h i i ||| bitI h)) = metR m x h (i + 1) := by
  funext k
  by_cases hk : k = i
  · subst hk
    by_cases hb : (x >>> (nI k &&& 31)) &&& 1 = 0
    · rw [if_pos hb]; unfold metR; simp [hb, Nat.ne_of_lt hi]
    · rw [if_neg hb]; unfold metR upd; simp [hb, Nat.ne_of_lt hi]
  · by_cases hb : (x >>> (nI i &&& 31)) &&& 1 = 0
    · rw [if_pos hb]; unfold metR
      by_cases h2 : k < i
      · have : k < i + 1 := by omega
        simp [h2, this]
      · have : ¬ k < i + 1 := by omega
        simp [h2, this]
    · rw [if_neg hb]; unfold metR upd
      by_cases h2 : k < i
      · have : k < i + 1 := by omega
        simp [hk, h2, this]
      · have : ¬ k < i + 1 := by omega
        simp [hk, h2, this]
/-- the ints behind a plume's cells were laid -/
def layF (f : Nat → Nat → Int32) (a h : Nat) (q : layQ) : Nat → Nat → Int32 := zr (zr (zr f (a + 2) (upd (f (a + 2)) h (nI q.2.2.2.2.1))) (a + 3) q.2.2.2.2.2) (a + 4) q.2.2.2.1
theorem layF_1 (f : Nat → Nat → Int32) (a h : Nat) (q : layQ) {o : Nat} (h2 : o ≠ a + 2) (h3 : o ≠ a + 3) (h4 : o ≠ a + 4) : layF f a h q o = f o := by
  unfold layF; rw [zr_o _ _ h4, zr_o _ _ h3, zr_o _ _ h2]
theorem layF_4 (f : Nat → Nat → Int32) (a h : Nat) (q : layQ) : layF f a h q (a + 4) = q.2.2.2.1 := zr_h _ _ _
theorem layF_3 (f : Nat → Nat → Int32) (a h : Nat) (q : layQ) : layF f a h q (a + 3) = q.2.2.2.2.2 := by unfold layF; rw [zr_o _ _ (by omega), zr_h]
theorem layF_2 (f : Nat → Nat → Int32) (a h : Nat) (q : layQ) : layF f a h q (a + 2) = upd (f (a + 2)) h (nI q.2.2.2.2.1) := by unfold layF; rw [zr_o _ _ (by omega), zr_o _ _ (by omega), zr_h]
theorem layF_put (f : Nat → Nat → Int32) (a h p : Nat) (q : layQ) (u v : Int32) (c r : Int32) : z2 (z2 (z2 (layF f a h q) (a + 4) p u) (a + 3) (13 * h + q.2.2.2.2.1) v) (a + 2) h (nI (q.2.2.2.2.1 + 1)) = layF f a h (c, r, q.2.2.1, upd q.2.2.2.1 p u, q.2.2.2.2.1 + 1, upd q.2.2.2.2.2 (13 * h + q.2.2.2.2.1) v) := by
  funext x y
  unfold layF z2 zr upd
  by_cases h4 : x = a + 4
  · subst h4; simp
  · by_cases h3 : x = a + 3
    · subst h3; simp
    · by_cases h2 : x = a + 2
      · subst h2
        by_cases hy : y = h <;> simp [hy]
      · simp [h4, h3, h2]
theorem layF_eq (f : Nat → Nat → Int32) (a h : Nat) {q q2 : layQ} (e : q.2.2.2 = q2.2.2.2) : layF f a h q = layF f a h q2 := by unfold layF; rw [e]
set_option maxRecDepth 100000 in
set_option maxHeartbeats 4000000 in
theorem l2_Smoke_lay {w : zW} {a s : Nat} (ha : zAir w a) {hh : Nat} (h8 : hh < 8) (x : Int32) (d : Nat) (hd : 1 ≤ d) (l3 l4 l5 l6 : Int32) : ∀ (m i : Nat), i ≤ hh → hh ≤ i + m → zS 0 0 d m_Smoke_lay (fun rv w1 => rv = none ∧ w1 = zuI w (zr (zI w) (a + 1) (metR (zI w (a + 1)) x hh hh))) 146 [(0, .ref a), (1, .ref s), (2, .int (nI hh)), (3, .int l3), (4, .int l4), (5, .int l5), (6, .int l6), (7, .int x), (8, .int (nI i))] [] (zuI w (zr (zI w) (a + 1) (metR (zI w (a + 1)) x hh i))) := by
  have hex : zS 0 0 d m_Smoke_lay (fun rv w1 => rv = none ∧ w1 = zuI w (zr (zI w) (a + 1) (metR (zI w (a + 1)) x hh hh))) 146 [(0, .ref a), (1, .ref s), (2, .int (nI hh)), (3, .int l3), (4, .int l4), (5, .int l5), (6, .int l6), (7, .int x), (8, .int (nI hh))] [] (zuI w (zr (zI w) (a + 1) (metR (zI w (a + 1)) x hh hh))) := by
    refine z_iload (pc := 146) (i := 8) (j := 8) rfl rfl ?_
    refine z_iload_n (pc := 148) (i := 2) (j := 2) rfl rfl rfl ?_
    refine z_icmp_ge (pc := 149) (tgt := 181) rfl (by decide) (fun h149 => ?_) (fun h149 => ?_)
    · exact z_vret (pc := 181) rfl rfl ⟨rfl, rfl⟩
    · exact absurd (Int32.le_refl _) h149
  intro m
  induction m with
  | zero =>
    intro i hi hm
    obtain rfl : i = hh := by omega
    exact hex
  | succ m ih =>
    intro i hi hm
    by_cases hlt : i < hh
    · have kk := ih (i + 1) (by omega) (by omega)
      refine z_iload (pc := 146) (i := 8) (j := 8) rfl rfl ?_
      refine z_iload_n (pc := 148) (i := 2) (j := 2) rfl rfl rfl ?_
      refine z_icmp_ge (pc := 149) (tgt := 181) rfl (by decide) (fun h149 => ?_) (fun h149 => ?_)
      · exact absurd h149 (nI_ge (b := hh) hlt (by omega))
      · refine z_iload (pc := 152) (i := 7) (j := 7) rfl rfl ?_
        refine z_iload (pc := 154) (i := 8) (j := 8) rfl rfl ?_
        refine z_cSN (pc := 156) (mc1 := 0) (ms1 := 0) (mc2 := 0) (ms2 := 0) (as := [.int x, .int (nI i)]) (rest := []) ok_SW_hasBit rfl rfl cl_Smoke_36 (by omega) (Nat.le_of_ble_eq_true rfl) (Nat.le_of_ble_eq_true rfl) (Nat.le_refl _) (Nat.le_refl _) (c_SW_hasBit x (nI i) 0 _) (fun r1 w1 hp => ?_) rfl rfl
        obtain ⟨rfl, hw1⟩ := hp
        rw [hw1]
        refine ⟨⟨Nat.le_refl _, Or.inl rfl⟩, ?_⟩
        refine z_if_eq (pc := 159) (tgt := 175) rfl (by decide) (fun h159 => ?_) (fun h159 => ?_)
        · refine z_iinc (pc := 175) (i := 8) (j := 8) (v := nI (i + 1)) (ls' := [(0, .ref a), (1, .ref s), (2, .int (nI hh)), (3, .int l3), (4, .int l4), (5, .int l5), (6, .int l6), (7, .int x), (8, .int (nI (i + 1)))]) rfl rfl (nI_1 i) (by decide) rfl ?_
          refine z_goto (pc := 178) (tgt := 146) rfl (by decide) ?_
          have hb : (x >>> (nI i &&& 31)) &&& 1 = 0 := by
            by_cases hb : (x >>> (nI i &&& 31)) &&& 1 = 0
            · exact hb
            · rw [if_neg hb] at h159; exact absurd h159 (by decide)
          rw [← metR_s _ _ hlt, if_pos hb] at kk
          exact kk
        · refine z_aload_n (pc := 162) (i := 0) (j := 0) rfl rfl rfl ?_
          refine z_getR (pc := 163) (x := a + 1) rfl fl_Smoke_9 ha.1 rfl ha.2.2.2.2.2.1 ?_
          refine z_iload (pc := 166) (i := 8) (j := 8) rfl rfl ?_
          refine z_dup2 (pc := 168) rfl rfl rfl ?_
          refine z_iald (pc := 169) rfl ha.2.1 (vp_in_nI (by omega) (by decide)) ?_
          refine z_iconst (pc := 170) (v := 1) rfl (by decide) ?_
          refine z_iload_n (pc := 171) (i := 2) (j := 2) rfl rfl rfl ?_
          refine z_ishl (pc := 172) rfl ?_
          refine z_ior (pc := 173) rfl ?_
          refine z_iast (pc := 174) rfl ha.2.1 (vp_in_nI (by omega) (by decide)) ?_
          refine z_iinc (pc := 175) (i := 8) (j := 8) (v := nI (i + 1)) (ls' := [(0, .ref a), (1, .ref s), (2, .int (nI hh)), (3, .int l3), (4, .int l4), (5, .int l5), (6, .int l6), (7, .int x), (8, .int (nI (i + 1)))]) rfl rfl (nI_1 i) (by decide) rfl ?_
          refine z_goto (pc := 178) (tgt := 146) rfl (by decide) ?_
          have hb : ¬ (x >>> (nI i &&& 31)) &&& 1 = 0 := fun hb => h159 (if_pos hb)
          rw [← metR_s _ _ hlt, if_neg hb] at kk
          rw [nI_clamp (by omega), zr_h]
          exact (congrArg (zuI w) (zr_put _ _ _ _ _)) ▸ kk
    · obtain rfl : i = hh := by omega
      exact hex
set_option maxRecDepth 100000 in
set_option maxHeartbeats 4000000 in
theorem c2_Smoke_lay {w : zW} {a s : Nat} (ha : zAir w a) {hh : Nat} (h8 : hh < 8) (x : Int32) (d : Nat) (hd : 1 ≤ d) (l3 l4 l5 l6 l8 : Int32) : zS 0 0 d m_Smoke_lay (fun rv w1 => rv = none ∧ w1 = zuI w (zr (zI w) (a + 1) (metR (zI w (a + 1)) x hh hh))) 135 [(0, .ref a), (1, .ref s), (2, .int (nI hh)), (3, .int l3), (4, .int l4), (5, .int l5), (6, .int l6), (7, .int x), (8, .int l8)] [] w := by
  refine z_aload_n (pc := 135) (i := 0) (j := 0) rfl rfl rfl ?_
  refine z_getR (pc := 136) (x := a + 1) rfl fl_Smoke_9 ha.1 rfl ha.2.2.2.2.2.1 ?_
  refine z_iload_n (pc := 139) (i := 2) (j := 2) rfl rfl rfl ?_
  refine z_iload (pc := 140) (i := 7) (j := 7) rfl rfl ?_
  refine z_iast (pc := 142) rfl ha.2.1 (vp_in_nI (by omega) (by decide)) ?_
  refine z_iconst (pc := 143) (v := 0) rfl (by decide) ?_
  refine z_istore (pc := 144) (i := 8) (ls' := [(0, .ref a), (1, .ref s), (2, .int (nI hh)), (3, .int l3), (4, .int l4), (5, .int l5), (6, .int l6), (7, .int x), (8, .int 0)]) rfl (by decide) rfl ?_
  refine z_eqw (w2 := zuI w (zr (zI w) (a + 1) (metR (zI w (a + 1)) x hh 0))) ?_ (l2_Smoke_lay (s := s) ha h8 x d hd l3 l4 l5 l6 hh 0 (by omega) (by omega))
  rw [nI_clamp (by omega)]
  refine congrArg (zuI w) ((z2_zr _ _ _ _).trans (congrArg (zr _ _) ?_))
  funext k
  simp [metR, upd]
