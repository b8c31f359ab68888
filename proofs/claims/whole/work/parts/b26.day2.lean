/-! A DRAWN DAY, HOUR BY HOUR -/
def dRl (f : Nat → Nat → Int32) (H N : Nat) (q : CD) (p : DQ) : Prop := (∃ X, LR (zr (zr f 22 q.1) 23 X) 21 p.1 H N) ∧ q.2.1 = p.2.1 ∧ q.2.2.1 = p.2.2.1 ∧ q.2.2.2.1 = p.2.2.2.1 ∧ lastR q.2.2.2.2 p.2.2.2.2
def cdG (c : Nat → Int32) (yv nx : Nat) (q : CD) : CD := (cdW (turnV q.2.2.2.2 (nI yv)) q.1 c, q.2.1 + rsum (fun k => bitc (c k &&& ((if turnV q.2.2.2.2 (nI yv) = 0 then q.1 k else 0) ^^^ (-1)))) 8 / 2, nx, (if q.2.2.2.1 < cdO (cdW (turnV q.2.2.2.2 (nI yv)) q.1 c) then cdO (cdW (turnV q.2.2.2.2 (nI yv)) q.1 c) else q.2.2.2.1), nI yv)
def dyG (m : Nat → Int32) (H yv nx : Nat) (q : DQ) : DQ := ((wedA (turnM q.2.2.2.2 yv) 0 m H (q.1, q.2.1) H).1, (wedA (turnM q.2.2.2.2 yv) 0 m H (q.1, q.2.1) H).2, nx, (if q.2.2.2.1 < rsum (oftM (wedA (turnM q.2.2.2.2 yv) 0 m H (q.1, q.2.1) H).1) H then rsum (oftM (wedA (turnM q.2.2.2.2 yv) 0 m H (q.1, q.2.1) H).1) H else q.2.2.2.1), 1 + nI yv)
theorem cdS_G (f : Nat → Nat → Int32) (s C R H : Nat) (F G : Int32 → Int32 → Int32 → Int32) (t : Nat) (q : CD) : cdS f s C R H F G t q = cdG (cdM f s C R H F G t (cdy f s F t q.2.2.1).1) (cdy f s F t q.2.2.1).1 (cdy f s F t q.2.2.1).2 q := by
  unfold cdS cdG
  rfl
theorem dayS_G (f : Nat → Nat → Int32) (C R H : Nat) (V : Int32 → Int32) (G : Int32 → Int32 → Int32 → Int32) (t : Nat) (q : DQ) : dayS f C R H V G t q = dyG (mset f C R (dyv f V t q.2.2.1).1 G (f 67 138 + nI t) (burnR (f 67)) H) H (dyv f V t q.2.2.1).1 (dyv f V t q.2.2.1).2 q := by
  unfold dayS dyG dayW
  rfl
theorem zr_two (f : Nat → Nat → Int32) (a b a2 b2 : Nat → Int32) : zr (zr (zr (zr f 22 a) 23 b) 22 a2) 23 b2 = zr (zr f 22 a2) 23 b2 := by
  funext o
  by_cases h3 : o = 23
  · rw [h3, zr_h, zr_h]
  · rw [zr_o _ _ h3, zr_o _ _ h3]
    by_cases h2 : o = 22
    · rw [h2, zr_h, zr_h]
    · rw [zr_o _ _ h2, zr_o _ _ h2, zr_o _ _ h3, zr_o _ _ h2]
theorem zr_two2 (f : Nat → Nat → Int32) (a b : Nat → Int32) : zr (zr f 22 a) 23 b 22 = a := by rw [zr_o _ _ (by decide), zr_h]
theorem day_a {f : Nat → Nat → Int32} {H M : Nat} {c m q1 p1 X : Nat → Int32} {q2 tv tm : Int32} (hM : M ≤ 600000) (hH : H ≤ 8) (sy : symM c) (hcc : ∀ a b, a < 8 → b < 8 → tb (c a) b = true → a < H ∧ b < H) (em : ∀ a, a < H → m a = c a) (ht : tv = 0 ↔ tm = 0) (l : LR (zr (zr f 22 q1) 23 X) 21 p1 H M) : ∃ X2, LR (zr (zr f 22 (cdW tv q1 c)) 23 X2) 21 (wedA tm 0 m H (p1, q2) H).1 H (M + 1) := by
  obtain ⟨X2, l2⟩ := day_LR l hM hH sy hcc (tv = 0) ht em q2
  refine ⟨X2, ?_⟩
  rw [zr_two2, zr_two] at l2
  exact l2
theorem day_b {f : Nat → Nat → Int32} {H M : Nat} {c m q1 p1 X : Nat → Int32} {q2 tv tm : Int32} (hM : M ≤ 600000) (hH : H ≤ 8) (sy : symM c) (hcc : ∀ a b, a < 8 → b < 8 → tb (c a) b = true → a < H ∧ b < H) (em : ∀ a, a < H → m a = c a) (ht : tv = 0 ↔ tm = 0) (l : LR (zr (zr f 22 q1) 23 X) 21 p1 H M) : q2 + rsum (fun k => bitc (c k &&& ((if tv = 0 then q1 k else 0) ^^^ (-1)))) 8 / 2 = (wedA tm 0 m H (p1, q2) H).2 := by
  have nw := new_c l hM hH sy hcc (tv = 0) ht em
  have wg := wedA_g tm 0 m hH (p1, q2) H (Nat.le_refl _)
  rw [zr_two2] at nw
  rw [wg, nw]
theorem day_core {f : Nat → Nat → Int32} {H M yv nx : Nat} {c m : Nat → Int32} (hM : M ≤ 600000) (hH : H ≤ 8) (sy : symM c) (hcc : ∀ a b, a < 8 → b < 8 → tb (c a) b = true → a < H ∧ b < H) (em : ∀ a, a < H → m a = c a) (y8 : yv < 8) {q : CD} {p : DQ} (d : dRl f H M q p) : dRl f H (M + 1) (cdG c yv nx q) (dyG m H yv nx p) := by
  obtain ⟨⟨X, l⟩, d1, d2, d3, d4⟩ := d
  have ht := turn_m d4 y8
  obtain ⟨X2, l3⟩ := day_a (q2 := p.2.1) hM hH sy hcc em ht l
  have nw := day_b (q2 := p.2.1) hM hH sy hcc em ht l
  have os := oft_sum l3 hH
  rw [zr_two2] at os
  unfold cdG dyG
  generalize wedA (turnM p.2.2.2.2 yv) 0 m H (p.1, p.2.1) H = z at l3 nw os ⊢
  rw [d1, nw, d3, os]
  exact ⟨⟨X2, l3⟩, rfl, rfl, rfl, Or.inr ⟨yv, y8, rfl, rfl⟩⟩
theorem cdy_e {f : Nat → Nat → Int32} {s C R H K U N : Nat} {V : Int32 → Int32} {F : Int32 → Int32 → Int32 → Int32} (h : SRn f s 0 C R H K U) (k : LR f 21 (f 67) H N) (hF : ∀ x y z, F x y z = V x) (t n : Nat) : cdy f s F t n = dyv f V t n := by
  unfold cdy dyv
  rw [show f s 10 = nI U from h.2.1.2.2.2.1, show f 46 3 = nI U from h.2.2.1.2.2.2.1, cyv_e hF, LR_hour k]
set_option maxHeartbeats 400000 in
theorem day_n {f : Nat → Nat → Int32} {s C R H K U N M t : Nat} {V : Int32 → Int32} {F G : Int32 → Int32 → Int32 → Int32} (h : SRn f s 0 C R H K U) (k : LR f 21 (f 67) H N) (hM : M ≤ 600000) (hF : ∀ x y z, F x y z = V x) {q : CD} {p : DQ} (d : dRl f H M q p) : dRl f H (M + 1) (cdS f s C R H F G t q) (dayS f C R H V G t p) := by
  have hH := h.1.2.2.1
  have y8 := (cdy_lt f s F t q.2.2.1).1
  rw [cdS_G, dayS_G, ← d.2.2.1, ← cdy_e h k hF]
  generalize cdy f s F t q.2.2.1 = yn at y8 ⊢
  rw [show burnR (f 67) = f 21 10 &&& (f 21 11 ^^^ (-1)) from LR_burn k, LR_hour k]
  unfold cdM
  have sy := cset_sym (yv := yn.1) (G := G) (hour := f 21 8 + nI t) (burn := f 21 10 &&& (f 21 11 ^^^ (-1))) h
  have em : ∀ a, a < H → mset f C R yn.1 G (f 21 8 + nI t) (f 21 10 &&& (f 21 11 ^^^ (-1))) H a = cset f s C R yn.1 G (f 21 8 + nI t) (f 21 10 &&& (f 21 11 ^^^ (-1))) H a := fun a ha => (cset_m h ha).symm
  have hcc : ∀ a b, a < 8 → b < 8 → tb (cset f s C R yn.1 G (f 21 8 + nI t) (f 21 10 &&& (f 21 11 ^^^ (-1))) H a) b = true → a < H ∧ b < H := fun a b ha hb u => by
    by_cases z : a < H
    · rw [cset_m h z, mset_tb _ _ _ _ _ _ _ hH z (by omega)] at u
      exact ⟨z, u.2.1⟩
    · have e : cset f s C R yn.1 G (f 21 8 + nI t) (f 21 10 &&& (f 21 11 ^^^ (-1))) H a = 0 := if_neg z
      rw [e, tb_0] at u
      cases u
  exact day_core hM hH sy hcc em y8 d
theorem day_T {f : Nat → Nat → Int32} {s C R H K U N : Nat} {V : Int32 → Int32} {F G : Int32 → Int32 → Int32 → Int32} (h : SRn f s 0 C R H K U) (k : LR f 21 (f 67) H N) (hF : ∀ x y z, F x y z = V x) (q0 : DQ) : ∀ (m t : Nat) (q : CD), N + t + m ≤ 600000 → dRl f H (N + t) q (dayT f C R H V G q0 t) → dRl f H (N + t + m) (cdT f s C R H F G m t q) (dayT f C R H V G q0 (t + m))
  | 0, t, q, _, d => d
  | m + 1, t, q, hN, d => by
    have e := day_T h k hF q0 m (t + 1) (cdS f s C R H F G t q) (by omega) (day_n (M := N + t) h k (by omega) hF d)
    rw [show N + t + (m + 1) = N + (t + 1) + m from by omega, show t + (m + 1) = t + 1 + m from by omega]
    exact e
def stC (f : Nat → Nat → Int32) (s C R H : Nat) (F G : Int32 → Int32 → Int32 → Int32) (n : Nat) (p : Int32 × Nat × Int32) : Int32 × Nat × Int32 := ((cdQ f s C R H F G n p).2.1, (cdQ f s C R H F G n p).2.2.1, (cdQ f s C R H F G n p).2.2.2.1)
theorem cdR_s (f : Nat → Nat → Int32) (s C R H : Nat) (F G : Int32 → Int32 → Int32 → Int32) (n : Nat) : ∀ (r : Nat) (p : Int32 × Nat × Int32), cdR f s C R H F G n (r + 1) p = stC f s C R H F G n (cdR f s C R H F G n r p)
  | 0, p => rfl
  | r + 1, p => cdR_s f s C R H F G n r (stC f s C R H F G n p)
def stD (f : Nat → Nat → Int32) (C R H : Nat) (V : Int32 → Int32) (G : Int32 → Int32 → Int32 → Int32) (n : Nat) (p : Int32 × Nat × Int32) : Int32 × Nat × Int32 := ((dayT f C R H V G (f 67, p.1, p.2.1, p.2.2, f 67 139) n).2.1, (dayT f C R H V G (f 67, p.1, p.2.1, p.2.2, f 67 139) n).2.2.1, (dayT f C R H V G (f 67, p.1, p.2.1, p.2.2, f 67 139) n).2.2.2.1)
theorem dayR_s (f : Nat → Nat → Int32) (C R H : Nat) (V : Int32 → Int32) (G : Int32 → Int32 → Int32 → Int32) (n seed r : Nat) : dayR f C R H V G n seed (r + 1) = stD f C R H V G n (dayR f C R H V G n seed r) := rfl
theorem st_CD {f : Nat → Nat → Int32} {s C R H K U N : Nat} {V : Int32 → Int32} {F G : Int32 → Int32 → Int32 → Int32} (h : SRn f s 0 C R H K U) (k : LR f 21 (f 67) H N) (hF : ∀ x y z, F x y z = V x) {n : Nat} (hN : N + n ≤ 600000) (p : Int32 × Nat × Int32) : stC f s C R H F G n p = stD f C R H V G n p := by
  have st : dRl f H (N + 0) (f 22, p.1, p.2.1, p.2.2, f 21 9) (dayT f C R H V G (f 67, p.1, p.2.1, p.2.2, f 67 139) 0) := ⟨⟨f 23, by
    show LR (zr (zr f 22 (f 22)) 23 (f 23)) 21 (f 67) H N
    rw [zr_self, zr_self]
    exact k⟩, rfl, rfl, rfl, k.2.1⟩
  have e := day_T h k hF (G := G) (f 67, p.1, p.2.1, p.2.2, f 67 139) n 0 _ (by omega) st
  rw [Nat.zero_add] at e
  obtain ⟨-, e1, e2, e3, -⟩ := e
  unfold stC stD cdQ
  rw [e1, e2, e3]
theorem dayR_e {f : Nat → Nat → Int32} {s C R H K U N : Nat} {V : Int32 → Int32} {F G : Int32 → Int32 → Int32 → Int32} (h : SRn f s 0 C R H K U) (k : LR f 21 (f 67) H N) (hF : ∀ x y z, F x y z = V x) {n : Nat} (hN : N + n ≤ 600000) (seed : Nat) : ∀ r, cdR f s C R H F G n r (0, seed, 0) = dayR f C R H V G n seed r
  | 0 => rfl
  | r + 1 => by rw [cdR_s, dayR_s, dayR_e h k hF hN seed r, st_CD h k hF hN]
theorem an_days {f : Nat → Nat → Int32} {s C R H K U N : Nat} {V : Int32 → Int32} {F G : Int32 → Int32 → Int32 → Int32} (h : SRn f s 0 C R H K U) (k : LR f 21 (f 67) H N) (hF : ∀ x y z, F x y z = V x) (hN : N ≤ 599000) (x1 x2 x3 x4 : Int32) : daysV f s C R H F G x1 x2 x3 x4 = (if (if x1 < 0 then 0 else if 9999 < x1 then 0 else 1 : Int32) = 0 then -1 else if (if x2 < 1 then 0 else if 20 < x2 then 0 else 1 : Int32) = 0 then -1 else if (if x3 < 1 then 0 else if 72 < x3 then 0 else 1 : Int32) = 0 then -1 else if (if x4 < 0 then 0 else if 1 < x4 then 0 else 1 : Int32) = 0 then -1 else if x4 = 0 then (dayR f C R H V G x3.toNatClampNeg x1.toNatClampNeg x2.toNatClampNeg).1 else (dayR f C R H V G x3.toNatClampNeg x1.toNatClampNeg x2.toNatClampNeg).2.2) := by
  have n10 : ¬ (1 : Int32) = 0 := by decide
  unfold daysV
  by_cases a1 : x1 < 0
  · rw [if_pos a1, if_pos a1, if_pos rfl]
  rw [if_neg a1, if_neg a1]
  by_cases a2 : 9999 < x1
  · rw [if_pos a2, if_pos a2, if_pos rfl]
  rw [if_neg a2, if_neg a2, if_neg n10]
  by_cases b1 : x2 < 1
  · rw [if_pos b1, if_pos b1, if_pos rfl]
  rw [if_neg b1, if_neg b1]
  by_cases b2 : 20 < x2
  · rw [if_neg (Int32.not_le.mpr b2), if_pos b2, if_pos rfl]
  rw [if_pos (Int32.not_lt.mp b2), if_neg b2, if_neg n10]
  by_cases c1 : x3 < 1
  · rw [if_pos c1, if_pos c1, if_pos rfl]
  rw [if_neg c1, if_neg c1]
  by_cases c2 : 72 < x3
  · rw [if_pos c2, if_pos c2, if_pos rfl]
  rw [if_neg c2, if_neg c2, if_neg n10]
  by_cases e1 : x4 < 0
  · rw [if_pos e1, if_pos e1, if_pos rfl]
  rw [if_neg e1, if_neg e1]
  by_cases e2 : 1 < x4
  · rw [if_neg (Int32.not_le.mpr e2), if_pos e2, if_pos rfl]
  rw [if_pos (Int32.not_lt.mp e2), if_neg e2, if_neg n10]
  obtain ⟨j, hj, e⟩ := nI_of2 (M := 72) (n := 72) rfl (fun z => c1 (Int32.lt_trans z (by decide))) (Int32.not_lt.mp c2)
  rw [e, nI_clamp (show j < 2 ^ 31 by omega), dayR_e h k hF (by omega)]
