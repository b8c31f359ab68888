/-! AN HOUR OF A DRAWN DAY -/
theorem day_LR {f : Nat → Nat → Int32} {r c m : Nat → Int32} {H N : Nat} (k : LR f 21 r H N) (hN : N ≤ 600000) (hH : H ≤ 8) (sy : symM c) (hcc : ∀ a b, a < 8 → b < 8 → tb (c a) b = true → a < H ∧ b < H) (T : Prop) [Decidable T] {t : Int32} (ht : T ↔ t = 0) (em : ∀ a, a < H → m a = c a) (x : Int32) : ∃ X : Nat → Int32, LR (zr (zr f 22 (fun a => (if T then f 22 a else 0) ||| c a)) 23 X) 21 (wedA t 0 m H (r, x) H).1 H (N + 1) := by
  obtain ⟨a1, a2⟩ := wedA_p t 0 m hH (r, x) H (Nat.le_refl _)
  generalize (wedA t 0 m H (r, x) H).1 = r2 at a1 a2 ⊢
  have a1 : ∀ i, 128 ≤ i → r2 i = r i := a1
  have pr : ∀ a b, a < 8 → b < 8 → r2 (8 * a + b) = nI (hV T r c a b) ∧ r2 (64 + (8 * a + b)) = r (64 + (8 * a + b)) := fun a b ha hb => by
    obtain ⟨p1, p2⟩ := a2 a b ha hb
    by_cases z : a < H ∧ b < H
    · have e := hV_m (m := m) (c := c) k hN T ht ha hb (em a z.1)
      rw [← e]
      refine ⟨(p1 z).1, (p1 z).2.trans ?_⟩
      show r (64 + (8 * a + b)) + wedE 0 _ = _
      rw [show ∀ v, wedE 0 v = 0 from fun v => if_pos rfl, Int32.add_zero]
    · obtain ⟨o1, o2⟩ := p2 z
      have zz : H ≤ a ∨ H ≤ b ∨ a = b := by omega
      rw [(hV_f k hN sy hcc T ha hb).2.2 zz]
      obtain ⟨v, -, w2, -, w4, -⟩ := k.2.2.2.2.2.1 a b ha hb
      have o1 : r2 (8 * a + b) = r (8 * a + b) := o1
      rw [o1, w2, w4 zz]
      exact ⟨rfl, o2⟩
  refine ⟨fun z => (if T then f 23 z else 0) + (if agN (fun a => (if T then f 22 a else 0) ||| c a) H z = true then 1 else 0), ?_⟩
  have five := hr_567 (f := f) (g := zr (zr (zr f 22 (fun a => (if T then f 22 a else 0) ||| c a)) 23 (fun z => (if T then f 23 z else 0) + (if agN (fun a => (if T then f 22 a else 0) ||| c a) H z = true then 1 else 0))) 24 (fun z => f 24 z + (if agN (fun a => (if T then f 22 a else 0) ||| c a) H z = true ∧ ((if T then f 23 z else 0) + 1) - ((if T then f 23 z else 0) + 1) / 3 * 3 = 0 then 1 else 0))) (R' := fun i => if 64 ≤ i ∧ i < 128 then r i + wedE 1 (nI (hV T r c ((i - 64) / 8) ((i - 64) % 8))) else r2 i) k hN hH sy hcc T (fun a b ha hb => ⟨(if_neg (by omega)).trans (pr a b ha hb).1, (if_pos (by omega)).trans (by rw [show (64 + (8 * a + b) - 64) / 8 = a from by omega, show (64 + (8 * a + b) - 64) % 8 = b from by omega])⟩) (fun a _ => rfl) (fun z _ => rfl) (fun z _ => rfl)
  obtain ⟨f5, f6, -⟩ := five
  obtain ⟨⟨u, t1, t2, t3⟩, k2, k3, ⟨n, n1, n2, n3, n4⟩, -, -, k7, k8, k9⟩ := k
  refine ⟨⟨u, by omega, t2, (a1 138 (by omega)).trans t3⟩, ?_, ⟨(a1 136 (by omega)).trans k3.1, (a1 137 (by omega)).trans k3.2⟩, ⟨n, n1, n2, (a1 140 (by omega)).trans n3, fun i hi => ?_⟩, fun a ha => ?_, fun a b ha hb => ?_, fun a b ha hb => ?_, fun h hh => (a1 _ (by omega)).trans (k8 h hh), fun h p hh hp => ?_⟩
  · rw [a1 139 (by omega)]; exact k2
  · obtain ⟨a, b, b1, b2, b3, b4, b5, b6, b7, b8⟩ := n4 i hi
    exact ⟨a, b, b1, b2, b3, (a1 _ (by omega)).trans b4, b5, (a1 _ (by omega)).trans b6, (a1 _ (by omega)).trans b7, b8⟩
  · refine (f5 a ha).trans (wedTo_c (fun b hb => ?_) 8 (Nat.le_refl _))
    exact if_neg (by omega)
  · obtain ⟨v, v1, v2, v3, v4, v5⟩ := f6 a b ha hb
    exact ⟨v, v1, (if_neg (show ¬ (64 ≤ 8 * a + b ∧ 8 * a + b < 128) by omega)).symm.trans v2, (if_neg (show ¬ (64 ≤ 8 * b + a ∧ 8 * b + a < 128) by omega)).symm.trans v3, v4, v5⟩
  · obtain ⟨v, v1, v2, v3, v4, v5⟩ := k7 a b ha hb
    have p1 := (pr a b ha hb).2
    have p2 := (pr b a hb ha).2
    rw [← Nat.add_assoc] at p1 p2
    exact ⟨v, by omega, p1.trans v2, p2.trans v3, v4, v5⟩
  · obtain ⟨v, v1, v2, v3⟩ := k9 h p hh hp
    exact ⟨v, by omega, v2, (a1 _ (by omega)).trans v3⟩
