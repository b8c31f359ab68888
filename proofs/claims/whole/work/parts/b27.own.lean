/-! WHAT THE MODEL ANSWERS IS OF ITS OWN ROWS ALONE -/
def mE (f g : Nat → Nat → Int32) : Prop := g 46 = f 46 ∧ g 48 = f 48 ∧ g 49 = f 49 ∧ g 50 = f 50 ∧ g 51 = f 51 ∧ g 67 = f 67
section
variable {f g : Nat → Nat → Int32} (e : mE f g)
theorem mset_f (C R yv : Nat) (G : Int32 → Int32 → Int32 → Int32) (hour burn : Int32) (H : Nat) : mE f g → mset g C R yv G hour burn H = mset f C R yv G hour burn H := fun e => mset_c e.2.1 e.2.2.1 e.2.2.2.1 e.2.2.2.2.1 C R yv G hour burn H
theorem mcell_f (C R i yv : Nat) : mE f g → mcell g C R i yv = mcell f C R i yv := fun e => mcell_c C R i yv e.2.1 e.2.2.1 e.2.2.2.2.1
theorem mlenS_f (V : Int32 → Int32) (G : Int32 → Int32 → Int32 → Int32) (j : Nat) : mE f g → mlenS g V G j = mlenS f V G j := fun e => by
  unfold mlenS
  rw [e.2.2.2.1, e.2.2.2.2.1, e.2.2.2.2.2]
theorem onlyAt_f (C R H : Nat) (V : Int32 → Int32) (G : Int32 → Int32 → Int32 → Int32) (i j : Nat) : mE f g → onlyAt g C R H V G i j = onlyAt f C R H V G i j := fun e => by
  funext t
  unfold onlyAt
  rw [mset_f _ _ _ _ _ _ _ e, e.2.2.2.2.2]
theorem fitAt_f (C R H n : Nat) (G : Int32 → Int32 → Int32 → Int32) : mE f g → fitAt g C R H n G = fitAt f C R H n G := fun e => by
  funext t
  unfold fitAt
  rw [mset_f _ _ _ _ _ _ _ e, e.2.2.2.2.2]
theorem frS_f (C R H : Nat) (V : Int32 → Int32) (G : Int32 → Int32 → Int32 → Int32) (j t : Nat) (q : Int32 × Int32 × Int32) : mE f g → frS g C R H V G j t q = frS f C R H V G j t q := fun e => by
  unfold frS frM frE frL
  rw [mset_f _ _ _ _ _ _ _ e, e.2.2.2.2.2, e.1, e.2.2.2.2.1]
theorem frQ_f (C R H : Nat) (V : Int32 → Int32) (G : Int32 → Int32 → Int32 → Int32) (j : Nat) (q : Int32 × Int32 × Int32) (h : mE f g) : ∀ t, frQ g C R H V G j q t = frQ f C R H V G j q t
  | 0 => rfl
  | t + 1 => by
    show frS g C R H V G j t (frQ g C R H V G j q t) = frS f C R H V G j t (frQ f C R H V G j q t)
    rw [frQ_f C R H V G j q h t, frS_f _ _ _ _ _ _ _ _ h]
theorem fsS_f (C R H : Nat) (V : Int32 → Int32) (G : Int32 → Int32 → Int32 → Int32) (x : Int32) (n : Nat) (q : Int32 × Int32) : mE f g → fsS g C R H V G x n q = fsS f C R H V G x n q := fun e => by
  unfold fsS fsM
  rw [mset_f _ _ _ _ _ _ _ e, e.2.2.2.2.2]
theorem fsQ_f (C R H : Nat) (V : Int32 → Int32) (G : Int32 → Int32 → Int32 → Int32) (x : Int32) (h : mE f g) : ∀ t, fsQ g C R H V G x t = fsQ f C R H V G x t
  | 0 => rfl
  | t + 1 => by
    show fsS g C R H V G x (t + 1) (fsQ g C R H V G x t) = fsS f C R H V G x (t + 1) (fsQ f C R H V G x t)
    rw [fsQ_f C R H V G x h t, fsS_f _ _ _ _ _ _ _ _ h]
theorem hrsR_f (C R H : Nat) (V : Int32 → Int32) (G : Int32 → Int32 → Int32 → Int32) (h : mE f g) : ∀ t, hrsR g C R H V G t = hrsR f C R H V G t
  | 0 => h.2.2.2.2.2
  | t + 1 => by
    show passR g C R H (yvO V (hrsR g C R H V G t 138)) G (hrsR g C R H V G t) = passR f C R H (yvO V (hrsR f C R H V G t 138)) G (hrsR f C R H V G t)
    rw [hrsR_f C R H V G h t, passR_c h.1 h.2.1 h.2.2.1 h.2.2.2.1 h.2.2.2.2.1]
theorem dyv_f (V : Int32 → Int32) (t n : Nat) : mE f g → dyv g V t n = dyv f V t n := fun e => by
  unfold dyv
  rw [e.1, e.2.2.2.2.2]
theorem dayS_f (C R H : Nat) (V : Int32 → Int32) (G : Int32 → Int32 → Int32 → Int32) (t : Nat) (q : DQ) : mE f g → dayS g C R H V G t q = dayS f C R H V G t q := fun e => by
  rw [dayS_G, dayS_G, dyv_f V t _ e, mset_f _ _ _ _ _ _ _ e, e.2.2.2.2.2]
theorem dayT_f (C R H : Nat) (V : Int32 → Int32) (G : Int32 → Int32 → Int32 → Int32) (q : DQ) (h : mE f g) : ∀ t, dayT g C R H V G q t = dayT f C R H V G q t
  | 0 => rfl
  | t + 1 => by rw [dayT_s, dayT_s, dayT_f C R H V G q h t, dayS_f _ _ _ _ _ _ _ h]
theorem dayR_f (C R H : Nat) (V : Int32 → Int32) (G : Int32 → Int32 → Int32 → Int32) (n seed : Nat) (h : mE f g) : ∀ r, dayR g C R H V G n seed r = dayR f C R H V G n seed r
  | 0 => rfl
  | r + 1 => by
    rw [dayR_s, dayR_s, dayR_f C R H V G n seed h r]
    unfold stD
    rw [dayT_f _ _ _ _ _ _ h, h.2.2.2.2.2]
end
/-! soot -/
def sootV (f : Nat → Nat → Int32) (C R H : Nat) (x y v : Int32) : Option Int32 := match cellP C R x y with
  | none => none
  | some p => if v = -1 then some (rsum (fun k => f 26 (144 * k + p)) 8) else if hOK H v = true then some (f 26 (144 * v.toNatClampNeg + p)) else none
theorem hOK_i (H : Nat) (v : Int32) (hH : H ≤ 8) (hv : ¬ v = -1) : hOK H v = true ↔ ¬ (if v < -1 then 0 else if nI H - 1 < v then 0 else 1 : Int32) = 0 := by
  have hs : nI H - 1 = Int32.ofInt ((H : Int) - 1) := by
    rcases (show H = 0 ∨ H = 1 ∨ H = 2 ∨ H = 3 ∨ H = 4 ∨ H = 5 ∨ H = 6 ∨ H = 7 ∨ H = 8 by omega) with rfl | rfl | rfl | rfl | rfl | rfl | rfl | rfl | rfl <;> decide
  have t1 : (nI H - 1).toInt = (H : Int) - 1 := by
    rcases (show H = 0 ∨ H = 1 ∨ H = 2 ∨ H = 3 ∨ H = 4 ∨ H = 5 ∨ H = 6 ∨ H = 7 ∨ H = 8 by omega) with rfl | rfl | rfl | rfl | rfl | rfl | rfl | rfl | rfl <;> decide
  have m1 : (-1 : Int32).toInt = -1 := by decide
  have n1 : ¬ v.toInt = -1 := fun z => hv (Int32.toInt_inj.mp (z.trans m1.symm))
  constructor
  · intro h
    obtain ⟨j, hj, rfl⟩ := hOK_of hH h
    have tj : (nI j).toInt = j := by
      rcases (show j = 0 ∨ j = 1 ∨ j = 2 ∨ j = 3 ∨ j = 4 ∨ j = 5 ∨ j = 6 ∨ j = 7 by omega) with rfl | rfl | rfl | rfl | rfl | rfl | rfl | rfl <;> decide
    rw [if_neg (fun z => by have := Int32.lt_iff_toInt_lt.mp z; omega), if_neg (fun z => by have := Int32.lt_iff_toInt_lt.mp z; omega)]
    decide
  · intro h
    by_cases a : v < -1
    · rw [if_pos a] at h; exact absurd rfl h
    by_cases b : nI H - 1 < v
    · rw [if_neg a, if_pos b] at h; exact absurd rfl h
    have a1 : ¬ v.toInt < -1 := fun z => a (Int32.lt_iff_toInt_lt.mpr (by omega))
    have b1 : ¬ (H : Int) - 1 < v.toInt := fun z => b (Int32.lt_iff_toInt_lt.mpr (by omega))
    unfold hOK
    simp only [decide_eq_true_eq, Bool.and_eq_true]
    refine ⟨?_, ?_⟩ <;> omega
theorem an_soot {f : Nat → Nat → Int32} {C R H N : Nat} (hC : C ≤ 12) (hR : R ≤ 12) (hH : H ≤ 8) (k : LR f 21 (f 67) H N) (hN : N ≤ 600000) (x y v : Int32) : mSoot f C R H x y v = match sootV f C R H x y v with | none => (1, 0) | some z => (0, z) := by
  unfold mSoot sootV
  cases hc : cellP C R x y with
  | none => rfl
  | some p =>
    have hp : p < 144 := (cell_in hC hR hc).1
    obtain ⟨u, u1, u2, u3, u4, u5⟩ := LR_soot k hN hp
    have u2 : rsum (fun k => f 26 (144 * k + p)) 8 = nI (fb_sm u 8) := u2
    show (if (if v < -1 then 0 else if nI H - 1 < v then 0 else 1 : Int32) = 0 then ((1 : Int32), (0 : Int32)) else (0, rsum (sootA (f 67) p v) 8)) = match (if v = -1 then some (rsum (fun k => f 26 (144 * k + p)) 8) else if hOK H v = true then some (f 26 (144 * v.toNatClampNeg + p)) else none) with | none => (1, 0) | some z => (0, z)
    by_cases v1 : v = -1
    · rw [if_pos v1, v1, u3, u2]
      rw [if_neg]
      rcases (show H = 0 ∨ H = 1 ∨ H = 2 ∨ H = 3 ∨ H = 4 ∨ H = 5 ∨ H = 6 ∨ H = 7 ∨ H = 8 by omega) with rfl | rfl | rfl | rfl | rfl | rfl | rfl | rfl | rfl <;> decide
    · rw [if_neg v1]
      have hi := hOK_i H v hH v1
      by_cases z : hOK H v = true
      · rw [if_pos z, if_neg (hi.mp z)]
        obtain ⟨j, hj, rfl⟩ := hOK_of hH z
        rw [nI_clamp (show j < 2 ^ 31 by omega), u5 j (by omega)]
        show _ = (0, f 26 (144 * j + p))
        rw [show f 26 (144 * j + p) = nI (u j) from (u1 j (by omega)).2.1]
      · rw [if_neg z, if_pos (Decidable.not_not.mp (fun y => z (hi.mpr y)))]
