/-! SOOT: what a house's laid cells blacken -/
theorem blkN_c {g c c2 : Nat → Int32} {h : Nat} : ∀ n, (∀ j, j < n → c (13 * h + j) = c2 (13 * h + j)) → blkN g c h n = blkN g c2 h n
  | 0, _ => rfl
  | n + 1, e => by
    show upd (blkN g c h n) _ _ = upd (blkN g c2 h n) _ _
    rw [blkN_c n (fun j hj => e j (by omega)), e n (Nat.lt_succ_self n)]
theorem blkN_s {g c : Nat → Int32} {h n p : Nat} (hc : c (13 * h + n) = nI p) (hp : p < 144) (x : Nat) : blkN g c h (n + 1) x = blkN g c h n x + (if x = 144 * h + p then 1 else 0) := by
  have e : blkN g c h (n + 1) = upd (blkN g c h n) (144 * h + (c (13 * h + n)).toNatClampNeg) (blkN g c h n (144 * h + (c (13 * h + n)).toNatClampNeg) + 1) := rfl
  rw [e, hc, nI_clamp (by omega)]
  unfold upd
  by_cases z : x = 144 * h + p
  · rw [if_pos z, if_pos z, z]
  · rw [if_neg z, if_neg z, Int32.add_zero]
theorem lay_lo {C R h : Nat} {dx dy : Int32} (q : layQ) {x : Nat} (hx : x < 13 * h) : ∀ k, (layN C R h dx dy q k).2.2.2.2.2 x = q.2.2.2.2.2 x
  | 0 => rfl
  | k + 1 => by
    have ih := lay_lo (C := C) (R := R) (dx := dx) (dy := dy) q hx k
    rw [layN_1]
    cases clA C R q.1 q.2.1 dx dy k with
    | none => exact ih
    | some p =>
      show upd _ _ _ x = _
      unfold upd
      rw [if_neg (by omega)]
      exact ih
theorem lay_blk {C R h : Nat} (hC : C ≤ 12) (hR : R ≤ 12) {x y dx dy : Int32} {c r : Nat} (hx : x = nI c) (hc : c ≤ 12) (hy : y = nI r) (hr : r ≤ 12) (hd : dirOK dx dy) (W cs : Nat → Int32) (o : Int32) : ∀ k, k ≤ 13 → (layN C R h dx dy (x, y, o, W, 0, cs) k).2.2.2.2.1 ≤ k ∧ (∀ j, j < (layN C R h dx dy (x, y, o, W, 0, cs) k).2.2.2.2.1 → ∃ p, p < 144 ∧ (layN C R h dx dy (x, y, o, W, 0, cs) k).2.2.2.2.2 (13 * h + j) = nI p) ∧ ∀ (g : Nat → Int32) (z : Nat), blkN g (layN C R h dx dy (x, y, o, W, 0, cs) k).2.2.2.2.2 h (layN C R h dx dy (x, y, o, W, 0, cs) k).2.2.2.2.1 z = g z + (if 144 * h ≤ z ∧ covB (clA C R x y dx dy) (z - 144 * h) k = true then 1 else 0)
  | 0, _ => by
    refine ⟨Nat.le_refl _, fun j hj => absurd hj (Nat.not_lt_zero j), fun g z => ?_⟩
    rw [if_neg (fun e => by have := e.2; cases this), Int32.add_zero]
    rfl
  | k + 1, hk => by
    obtain ⟨i1, i2, i3⟩ := lay_blk (C := C) (R := R) (h := h) hC hR hx hc hy hr hd W cs o k (by omega)
    rw [layN_1]
    show _ ∧ _ ∧ _
    cases e : clA C R x y dx dy k with
    | none =>
      refine ⟨Nat.le_succ_of_le i1, i2, fun g z => ?_⟩
      rw [covB_s, e]
      show blkN g (layN C R h dx dy (x, y, o, W, 0, cs) k).2.2.2.2.2 h (layN C R h dx dy (x, y, o, W, 0, cs) k).2.2.2.2.1 z = _
      rw [i3 g z]
      simp
    | some p =>
      have hp := (cell_in hC hR e).1
      generalize layN C R h dx dy (x, y, o, W, 0, cs) k = q at i1 i2 i3 ⊢
      have eu : upd q.2.2.2.2.2 (13 * h + q.2.2.2.2.1) (nI p) (13 * h + q.2.2.2.2.1) = nI p := by simp [upd]
      have eo : ∀ j, j < q.2.2.2.2.1 → upd q.2.2.2.2.2 (13 * h + q.2.2.2.2.1) (nI p) (13 * h + j) = q.2.2.2.2.2 (13 * h + j) := fun j hj => by unfold upd; rw [if_neg (by omega)]
      refine ⟨Nat.succ_le_succ i1, fun j hj => ?_, fun g z => ?_⟩
      · by_cases z : j = q.2.2.2.2.1
        · subst z; exact ⟨p, hp, eu⟩
        · have hj : j < q.2.2.2.2.1 + 1 := hj
          obtain ⟨p1, h1, h2⟩ := i2 j (by omega)
          exact ⟨p1, h1, (eo j (by omega)).trans h2⟩
      · show blkN g (upd q.2.2.2.2.2 (13 * h + q.2.2.2.2.1) (nI p)) h (q.2.2.2.2.1 + 1) z = _
        rw [blkN_s eu hp z, blkN_c _ eo, i3 g z, covB_s, e]
        have nw := covB_new hC hR hx hc hy hr hd (show k < 100 by omega) e
        by_cases z1 : z = 144 * h + p
        · subst z1
          rw [show 144 * h + p - 144 * h = p by omega, nw]
          simp
        · rw [if_neg z1, Int32.add_zero]
          by_cases z2 : 144 * h ≤ z
          · have z3 : ¬ p = z - 144 * h := by omega
            simp [z2, z3]
          · simp [z2]
section R87
variable {f : Nat → Nat → Int32} {a s C R H yv : Nat} {G : Int32 → Int32 → Int32 → Int32} {hour burn : Int32}
theorem rise_air (hC : C ≤ 12) (hR : R ≤ 12) (hH : H ≤ 8) (hy : yv < 8) (hsa : s + 12 ≤ a ∨ a + 5 ≤ s) (hs : stIn f s C R H) : ∀ i, i ≤ H → ∀ h, h < i → ∃ n, n ≤ 13 ∧ riseM f a s C R yv G hour burn i (a + 2) h = nI n ∧ (∀ j, j < n → ∃ p, p < 144 ∧ riseM f a s C R yv G hour burn i (a + 3) (13 * h + j) = nI p) ∧ ∀ (g : Nat → Int32) (z : Nat), blkN g (riseM f a s C R yv G hour burn i (a + 3)) h n z = g z + (if 144 * h ≤ z ∧ ccov f s C R yv G hour burn h (z - 144 * h) = true then 1 else 0)
  | 0, _, h, hh => absurd hh (Nat.not_lt_zero h)
  | i + 1, hi, h, hh => by
    have ih := rise_air hC hR hH hy hsa hs i (by omega)
    have l0 := riseM_laid f a s C R yv G hour burn i i (Nat.le_refl _) (by omega)
    rw [riseM_s]
    by_cases hb : hasB burn i = true
    · rw [if_pos hb]
      have eo : ∀ k, k ≤ 4 → riseM f a s C R yv G hour burn i (s + k) = f (s + k) := fun k hk => riseM_o f a s C R yv G hour burn (by omega) (by omega) (by omega) (by omega) i
      obtain ⟨c0, r0, hc0, hr0, ex, ey⟩ := stIn_p hs hC hR (show i < H by omega)
      have hd : dirOK (zkE.getD yv 0) (zkS.getD yv 0) := dir_ok ⟨yv, hy⟩
      have hl : cLen f s G hour yv i ≤ 42 := (plN_eq (f (s + 4) i) (G hour (f (s + 3) i) (nI yv))).2
      have eq0 : lay0 (riseM f a s C R yv G hour burn i) a s i = (pX f s i, f (s + 2) i, 0, riseM f a s C R yv G hour burn i (a + 4), 0, riseM f a s C R yv G hour burn i (a + 3)) := by
        unfold lay0 pX
        rw [eo 4 (by decide), eo 1 (by decide), eo 2 (by decide)]
      generalize riseM f a s C R yv G hour burn i = F at ih eq0 l0 ⊢
      have eE : layE F a s C R i yv (cLen f s G hour yv i) = layN C R i (zkE.getD yv 0) (zkS.getD yv 0) (pX f s i, f (s + 2) i, 0, F (a + 4), 0, F (a + 3)) (if cLen f s G hour yv i ≤ 13 then cLen f s G hour yv i else 13) := by
        unfold layE
        rw [eq0]
      have e2 : layFin F a s C R i yv (cLen f s G hour yv i) (a + 2) = upd (F (a + 2)) i (nI (layE F a s C R i yv (cLen f s G hour yv i)).2.2.2.2.1) := by
        unfold layFin; rw [zr_o _ _ (by omega), layF_2]
      have e3 : layFin F a s C R i yv (cLen f s G hour yv i) (a + 3) = (layE F a s C R i yv (cLen f s G hour yv i)).2.2.2.2.2 := by
        unfold layFin; rw [zr_o _ _ (by omega), layF_3]
      show ∃ n, n ≤ 13 ∧ layFin F a s C R i yv (cLen f s G hour yv i) (a + 2) h = nI n ∧ (∀ j, j < n → ∃ p, p < 144 ∧ layFin F a s C R i yv (cLen f s G hour yv i) (a + 3) (13 * h + j) = nI p) ∧ ∀ (g : Nat → Int32) (z : Nat), blkN g (layFin F a s C R i yv (cLen f s G hour yv i) (a + 3)) h n z = g z + (if 144 * h ≤ z ∧ ccov f s C R yv G hour burn h (z - 144 * h) = true then 1 else 0)
      rw [e2, e3, eE]
      by_cases z : h = i
      · subst z
        obtain ⟨b1, b2, b3⟩ := lay_blk (h := h) hC hR ex hc0 ey hr0 hd (F (a + 4)) (F (a + 3)) 0 (if cLen f s G hour yv h ≤ 13 then cLen f s G hour yv h else 13) (by split <;> omega)
        refine ⟨_, Nat.le_trans b1 (by split <;> omega), by simp [upd], b2, fun g z => ?_⟩
        rw [b3 g z, covB_13 hC hR ex hc0 ey hr0 hd hl]
        unfold ccov cH
        rw [hb, Bool.true_and]
      · obtain ⟨n, n1, n2, n3, n4⟩ := ih h (by omega)
        have lo : ∀ j, j < n → (layN C R i (zkE.getD yv 0) (zkS.getD yv 0) (pX f s i, f (s + 2) i, 0, F (a + 4), 0, F (a + 3)) (if cLen f s G hour yv i ≤ 13 then cLen f s G hour yv i else 13)).2.2.2.2.2 (13 * h + j) = F (a + 3) (13 * h + j) := fun j hj => lay_lo _ (by omega) _
        refine ⟨n, n1, by unfold upd; rw [if_neg z]; exact n2, fun j hj => ?_, fun g z => ?_⟩
        · obtain ⟨p, p1, p2⟩ := n3 j hj
          exact ⟨p, p1, (lo j hj).trans p2⟩
        · rw [blkN_c n lo]; exact n4 g z
    · rw [if_neg hb]
      by_cases z : h = i
      · subst z
        refine ⟨0, by decide, l0, fun j hj => absurd hj (Nat.not_lt_zero j), fun g z => ?_⟩
        have : ccov f s C R yv G hour burn h (z - 144 * h) = false := by
          unfold ccov
          cases e : hasB burn h with
          | false => rfl
          | true => exact absurd e hb
        rw [this, if_neg (fun e => by have := e.2; cases this), Int32.add_zero]
        rfl
      · exact ih h (by omega)
end R87
