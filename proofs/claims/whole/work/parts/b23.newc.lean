/-! NEW WEDDINGS, ON BOTH SIDES -/
theorem sm_cut {v : Nat → Nat} {n : Nat} (hn : n ≤ 8) (z : ∀ k, n ≤ k → k < 8 → v k = 0) : fb_sm v 8 = fb_sm v n := by
  have e := fb_sm_split v n (8 - n)
  have e2 : fb_sm (fun k => v (n + k)) (8 - n) = fb_sm (fun _ => 0) (8 - n) := fb_sm_cong (fun k hk => z (n + k) (by omega) (by omega))
  rw [show n + (8 - n) = 8 from by omega, e2, fb_sm_const, Nat.mul_zero, Nat.add_zero] at e
  exact e
def nE (T : Prop) [Decidable T] (r c : Nat → Int32) (a b : Nat) : Nat := if tb (c a) b = true ∧ hY T r a b = 0 then 1 else 0
theorem new_c {f : Nat → Nat → Int32} {r c m : Nat → Int32} {H N : Nat} (k : LR f 21 r H N) (hN : N ≤ 600000) (hH : H ≤ 8) (sy : symM c) (hcc : ∀ a b, a < 8 → b < 8 → tb (c a) b = true → a < H ∧ b < H) (T : Prop) [Decidable T] {t : Int32} (ht : T ↔ t = 0) (em : ∀ a, a < H → m a = c a) : rsum (fun a => bitc (c a &&& ((if T then f 22 a else 0) ^^^ (-1)))) 8 / 2 = nI (fb_sm (fun a => fb_sm (nwG t m r a) H) H) := by
  have e1 : rsum (fun a => bitc (c a &&& ((if T then f 22 a else 0) ^^^ (-1)))) 8 = nI (fb_sm (fun a => fb_sm (nE T r c a) 8) 8) := rsum_n 8 (fun a ha => by
    show bitc (c a &&& ((if T then f 22 a else 0) ^^^ (-1))) = _
    rw [bitc_8 (set8_and (sy.1 a ha) _), ct_sm]
    congr 1
    refine fb_sm_cong (fun b hb => ?_)
    have x := hV_c (c := fun _ => 0) k hN T ha hb
    rw [tb_or, tb_0, Bool.or_false] at x
    have y : 0 < hV T r (fun _ => 0) a b ↔ 0 < hY T r a b := by
      unfold hV
      by_cases p : 0 < hY T r a b
      · rw [if_pos (Or.inl p)]; exact ⟨fun _ => p, fun _ => Nat.succ_pos _⟩
      · rw [if_neg (fun z => by rcases z with z | z; exact p z; rw [tb_0] at z; cases z)]; exact ⟨fun z => absurd z (Nat.lt_irrefl 0), fun z => absurd z p⟩
    rw [tb_and, tb_not _ (by omega), x]
    unfold nE
    by_cases p : 0 < hY T r a b
    · rw [decide_eq_true (y.mpr p), if_neg (show ¬ (tb (c a) b && !true) = true by cases tb (c a) b <;> decide), if_neg (fun z => absurd (show hY T r a b = 0 from z.2) (by omega))]
    · rw [decide_eq_false (fun z => p (y.mp z))]
      cases q : tb (c a) b with
      | true => rw [if_pos (show (true && !false) = true from rfl), if_pos ⟨rfl, by omega⟩]
      | false => rw [if_neg (show ¬ (false && !false) = true by decide), if_neg (fun z => by cases z.1)])
  have e2 : fb_sm (fun a => fb_sm (nE T r c a) 8) 8 = 2 * upS (nE T r c) 8 := two_up (fun a b ha hb => by
    have e : tb (c a) b = tb (c b) a := Bool.eq_iff_iff.mpr ⟨sy.2.1 a b ha hb, sy.2.1 b a hb ha⟩
    unfold nE
    rw [e, (hY_f k hN T ha hb).2.1]) (fun a ha => by
    unfold nE
    rw [sy.2.2 a ha, if_neg (fun z => by cases z.1)])
  have b64 : fb_sm (fun a => fb_sm (nE T r c a) 8) 8 ≤ 8 * (8 * 1) := fb_sm_bound (fun a _ => fb_sm_bound (fun b _ => by unfold nE; split <;> omega))
  have z0 : ∀ a b, a < 8 → b < 8 → (H ≤ a ∨ H ≤ b) → (if a < b then nE T r c a b else 0) = 0 := fun a b ha hb z => by
    have : nE T r c a b = 0 := if_neg (fun y => by
      have := hcc a b ha hb y.1
      omega)
    rw [this]
    split <;> rfl
  have e3 : upS (nE T r c) 8 = fb_sm (fun a => fb_sm (nwG t m r a) H) H := by
    unfold upS
    rw [sm_cut hH (fun a h1 h2 => by
      show fb_sm (fun b => if a < b then nE T r c a b else 0) 8 = 0
      rw [sm_cut (n := 0) (by omega) (fun b _ hb => z0 a b h2 hb (Or.inl h1))]
      rfl)]
    refine fb_sm_cong (fun a ha => ?_)
    show fb_sm (fun b => if a < b then nE T r c a b else 0) 8 = _
    rw [sm_cut hH (fun b h1 h2 => z0 a b (by omega) h2 (Or.inr h1))]
    refine fb_sm_cong (fun b hb => ?_)
    obtain ⟨y1, -, -, y4, -⟩ := hY_f k hN T (show a < 8 by omega) (show b < 8 by omega)
    have e : (if t = 0 then r (8 * a + b) else 0) = nI (hY T r a b) := by
      rw [← y4]
      by_cases z : T
      · rw [if_pos z, if_pos (ht.mp z)]
      · rw [if_neg z, if_neg (fun y => z (ht.mpr y))]
    unfold nwG nE
    rw [e, em a ha]
    have mb := mbit_nz (x := c a) (show b < 32 by omega)
    have n0 : nI (hY T r a b) = 0 ↔ hY T r a b = 0 := nI_eq (b := 0) (by omega) (by omega)
    by_cases l : a < b
    · rw [if_pos l]
      by_cases p : tb (c a) b = true ∧ hY T r a b = 0
      · rw [if_pos p, if_pos ⟨n0.mpr p.2, mb.mpr p.1, l⟩]
      · rw [if_neg p, if_neg (fun z => p ⟨mb.mp z.2.1, n0.mp z.1⟩)]
    · rw [if_neg l, if_neg (fun z => l z.2.2)]
  rw [e1, show (2 : Int32) = nI 2 from rfl, pk_div (by omega) (by decide) (by decide), ← e3]
  congr 1
  omega
