/-! THE SAME ANSWERS: share, and soot where it answers -/
theorem LR_soot {f : Nat → Nat → Int32} {l : Nat} {g : Nat → Int32} {H N : Nat} (h : LR f l g H N) (hN : N ≤ 600000) {p : Nat} (hp : p < 144) : ∃ v : Nat → Nat, (∀ k, k < 8 → v k ≤ N ∧ f (l + 5) (144 * k + p) = nI (v k) ∧ g (176 + 8 * p + k) = nI (v k)) ∧ rsum (fun k => f (l + 5) (144 * k + p)) 8 = nI (fb_sm v 8) ∧ rsum (sootA g p (-1)) 8 = nI (fb_sm v 8) ∧ fb_sm v 8 ≤ 8 * N ∧ ∀ j, j < 8 → rsum (sootA g p (nI j)) 8 = nI (v j) := by
  have a := fun k (hk : k < 8) => h.2.2.2.2.2.2.2.2 k p hk hp
  refine ⟨fun k => if hk : k < 8 then (a k hk).choose else 0, ?_⟩
  have b : ∀ k, k < 8 → (fun k => if hk : k < 8 then (a k hk).choose else 0 : Nat → Nat) k ≤ N ∧ f (l + 5) (144 * k + p) = nI ((fun k => if hk : k < 8 then (a k hk).choose else 0 : Nat → Nat) k) ∧ g (176 + 8 * p + k) = nI ((fun k => if hk : k < 8 then (a k hk).choose else 0 : Nat → Nat) k) := fun k hk => by
    simp only [hk, dif_pos]
    exact (a k hk).choose_spec
  generalize (fun k => if hk : k < 8 then (a k hk).choose else 0 : Nat → Nat) = v at b
  refine ⟨b, rsum_n 8 (fun k hk => (b k hk).2.1), rsum_n 8 (fun k hk => ?_), fb_sm_bound (fun k hk => (b k hk).1), fun j hj => ?_⟩
  · unfold sootA
    rw [if_pos (by decide)]
    exact (b k hk).2.2
  · have e : rsum (sootA g p (nI j)) 8 = nI (fb_sm (fun k => if k = j then v j else 0) 8) := rsum_n 8 (fun k hk => by
      unfold sootA
      rw [if_neg (nI_pos (by omega))]
      by_cases q : k = j
      · rw [if_pos (by rw [q]), if_pos q, (b k hk).2.2, q]
      · rw [if_neg (fun y => q ((nI_eq (by omega) (by omega)).mp y)), if_neg q]
        rfl)
    rw [e]
    have u := fb_sm_upd (fun _ => 0) (v j) hj
    have z : fb_sm (fun _ => 0) 8 = 0 := by rw [fb_sm_const]
    congr 1
    omega
theorem an_share {f : Nat → Nat → Int32} {C R H N : Nat} (hC : C ≤ 12) (hR : R ≤ 12) (hH : H ≤ 8) (k : LR f 21 (f 67) H N) (hN : N ≤ 600000) (x y b v : Int32) : shareV f C R H x y b v = mShare (f 67) C R H x y b v := by
  unfold shareV mShare
  cases hc : cellP C R x y with
  | none => rfl
  | some p =>
    have hp : p < 144 := (cell_in hC hR hc).1
    show (if hOK H b = true then _ else _) = (if hOK H b = true then _ else _)
    by_cases z : hOK H b = true
    · rw [if_pos z, if_pos z]
      obtain ⟨j, hj, rfl⟩ := hOK_of hH z
      obtain ⟨u, u1, u2, u3, u4, u5⟩ := LR_soot k hN hp
      have u2 : rsum (fun k => f 26 (144 * k + p)) 8 = nI (fb_sm u 8) := u2
      have e1 : f 26 (144 * j + p) = nI (u j) := (u1 j (by omega)).2.1
      have uj := (u1 j (by omega)).1
      rw [nI_clamp (show j < 2 ^ 31 by omega), e1, u2, u3, u5 j (by omega), nI_clamp (show u j < 2 ^ 31 by omega), nI_clamp (show fb_sm u 8 < 2 ^ 31 by omega), Nat.gcd_comm (fb_sm u 8)]
      by_cases v0 : v < 0
      · rw [if_pos v0, if_pos v0, if_pos rfl]
      rw [if_neg v0, if_neg v0]
      by_cases v1 : 1 < v
      · rw [if_neg (Int32.not_le.mpr v1), if_pos v1, if_pos rfl]
      rw [if_pos (Int32.not_lt.mp v1), if_neg v1, if_neg (show ¬ (1 : Int32) = 0 by decide)]
      by_cases s0 : fb_sm u 8 = 0
      · rw [if_pos (by rw [s0]; decide), if_pos (by rw [s0]; rfl)]
      · rw [if_neg (show ¬ nI (fb_sm u 8) < 1 from nI_nlt (a := fb_sm u 8) (b := 1) (by omega) (by omega)), if_neg (nI_ne0 (by omega) (by omega))]
    · rw [if_neg z, if_neg z]
