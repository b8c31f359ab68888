/-! THE SAME ANSWERS: smoke, meets, fits -/
theorem orN_c {g g2 : Nat → Int32} : ∀ n, (∀ q, q < n → g q = g2 q) → orN g n = orN g2 n := by
  intro n
  induction n with
  | zero => intro _; rw [orN, orN]
  | succ n ih =>
    intro h
    rw [orN, orN, ih (fun q hq => h q (by omega)), h n (by omega)]
theorem fit_e {f : Nat → Nat → Int32} {g m m2 : Nat → Int32} {H : Nat} (hH : H ≤ 8) (em : ∀ a, a < H → m2 a = m a) : ∀ n, (∀ k, k < n → ∃ a b : Nat, a < H ∧ b < H ∧ f 27 k = nI a ∧ g (141 + 3 * k) = nI a ∧ f 28 k = nI b ∧ g (141 + 3 * k + 1) = nI b ∧ g (141 + 3 * k + 2) = f 29 k) → (sgM f m2 n = true ↔ ¬ fitN m g n = 0) := by
  intro n
  induction n with
  | zero => intro _; exact ⟨fun _ => (by decide : ¬ (1 : Int32) = 0), fun _ => rfl⟩
  | succ n ih =>
    intro h
    obtain ⟨a, b, ha, hb, e1, e2, e3, e4, e5⟩ := h n (by omega)
    have i := ih (fun k hk => h k (by omega))
    rw [sgM, fitN, Bool.and_eq_true, decide_eq_true_eq, e1, e2, e3, e4, e5, nI_clamp (show a < 2 ^ 31 by omega), em a ha]
    by_cases z : fitN m g n = 0
    · rw [if_pos z]
      exact ⟨fun y => absurd z (i.mp y.1), fun y => absurd rfl y⟩
    · rw [if_neg z]
      by_cases y : (m a >>> (nI b &&& 31)) &&& 1 = f 29 n
      · rw [if_pos y]
        exact ⟨fun _ => by decide, fun _ => ⟨i.mpr z, y⟩⟩
      · rw [if_neg y]
        exact ⟨fun x => absurd x.2 y, fun x => absurd rfl x⟩
theorem an_fits {f : Nat → Nat → Int32} {s C R H K U N n : Nat} {G : Int32 → Int32 → Int32 → Int32} (h : SRn f s 0 C R H K U) (k : LR f 21 (f 67) H N) (hn : f 21 12 = nI n) (hn1 : n ≤ 10) : orN (fitT f s C R H G n) 8 = orN (fitAt f C R H n G) 8 := by
  obtain ⟨n2, a1, a2, a3, a4⟩ := k.2.2.2.1
  have en : n = n2 := (nI_eq (by omega) (by omega)).mp (hn.symm.trans a2)
  subst en
  refine orN_c 8 (fun q hq => ?_)
  unfold fitT fitAt burnR
  rw [LR_burn k, LR_hour k]
  have e := fit_e (f := f) (g := f 67) (m := mset f C R q G (f 21 8) (f 21 10 &&& (f 21 11 ^^^ (-1))) H) (m2 := cset f s C R q G (f 21 8) (f 21 10 &&& (f 21 11 ^^^ (-1))) H) h.1.2.2.1 (fun a ha => cset_m h ha) n (fun i hi => by
    obtain ⟨a, b, b1, b2, b3, b4, b5, b6, b7, -⟩ := a4 i hi
    exact ⟨a, b, b1, b2, b3, b4, b5, b6, b7⟩)
  by_cases z : sgM f (cset f s C R q G (f 21 8) (f 21 10 &&& (f 21 11 ^^^ (-1))) H) n = true
  · rw [if_pos z, if_neg (e.mp z)]
  · rw [if_neg z, if_pos (Decidable.byContradiction (fun y => z (e.mpr y)))]
theorem an_meets {f : Nat → Nat → Int32} {s C R H K U N j yv : Nat} {G : Int32 → Int32 → Int32 → Int32} (h : SRn f s 0 C R H K U) (k : LR f 21 (f 67) H N) (hs : s = 4 ∨ s = 32) (hi : stIn f s C R H) (hy : yv < 8) (hj : j < H) : riseM f 16 s C R yv G (f 21 8 + 0) (f 21 10 &&& (f 21 11 ^^^ (-1))) H 17 j = mset f C R yv G (f 67 138) (f 67 136 &&& (f 67 137 ^^^ (-1))) H j := by
  rw [LR_burn k, LR_hour k, Int32.add_zero]
  exact (rise_met (a := 16) h.1.1.2 h.1.2.1.2 h.1.2.2.1 hy (by omega) hi hj).trans (mset_h (SRn_rows h) j)
theorem an_smoke {f : Nat → Nat → Int32} {s C R H K U N yv : Nat} {V : Int32 → Int32} {F G : Int32 → Int32 → Int32 → Int32} (h : SRn f s 0 C R H K U) (k : LR f 21 (f 67) H N) (hF : ∀ x y z, F x y z = V x) (hy : yv < 8) (hyv : V (f 67 138) &&& 7 = nI yv) (b x : Int32) : smokeV f s C R H F G b x = (if hOK H b = true then (if (if (f 67 137 >>> (b &&& 31)) &&& 1 = 1 then 1 else 0 : Int32) = 0 then (if x < 0 then -1 else if x < nI (plN (f 51 b.toNatClampNeg) (G (f 67 138) (f 50 b.toNatClampNeg) (nI yv))) then cellV (mcell f C R b.toNatClampNeg yv x.toNatClampNeg) else -1) else -1) else -1) := by
  unfold smokeV
  by_cases z : hOK H b = true
  · rw [if_pos z, if_pos z]
    obtain ⟨j, hj, rfl⟩ := hOK_of h.1.2.2.1 z
    have hj8 : j < 8 := Nat.lt_of_lt_of_le hj h.1.2.2.1
    obtain ⟨r1, r2, -, r4⟩ := SRn_rows h j hj
    have r1 : f (s + 1) j = f 48 j := r1
    have r2 : f (s + 2) j = f 49 j := r2
    have r4 : f (s + 4) j = f 51 j := r4
    rw [nI_clamp (show j < 2 ^ 31 by omega), an_len h k hF hj]
    by_cases q : (if (f 67 137 >>> (nI j &&& 31)) &&& 1 = 1 then 1 else 0 : Int32) = 0
    · rw [if_pos q, if_pos q]
      have e : mlenS f V G j = nI (plN (f 51 j) (G (f 67 138) (f 50 j) (nI yv))) := by
        unfold mlenS
        rw [hyv]
        exact (plN_eq _ _).1
      rw [e]
      by_cases x0 : x < 0
      · rw [if_pos x0, if_pos x0]
      rw [if_neg x0, if_neg x0]
      by_cases x1 : x < nI (plN (f 51 j) (G (f 67 138) (f 50 j) (nI yv)))
      · rw [if_pos x1, if_pos x1]
        obtain ⟨i, hi, rfl⟩ := nI_of x0
        have ey : cyv F (f 21 8) = yv := by
          rw [cyv_e hF, ← LR_hour k]
          unfold yvO
          rw [hyv]
          exact nI_clamp (by omega)
        unfold puff mcell
        rw [nI_clamp hi, ey, r2]
        have ex : pX f s j = mX f j := by
          unfold pX mX
          rw [r1, r4]
          by_cases w : f 51 j = 3
          · rw [if_pos w, if_pos w]
          · rw [if_neg w, if_neg w, Int32.add_zero]
        rw [ex]
      · rw [if_neg x1, if_neg x1]
    · rw [if_neg q, if_neg q]
      by_cases x0 : x < 0
      · rw [if_pos x0]
      · rw [if_neg x0, if_neg x0]
  · rw [if_neg z, if_neg z]
