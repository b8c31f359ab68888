/-! AN HOUR: the same life behind it -/
theorem mcov_v {f : Nat → Nat → Int32} {s C R H K U yv : Nat} {G : Int32 → Int32 → Int32 → Int32} {hour burn : Int32} (h : SRn f s 0 C R H K U) {j : Nat} (hj : j < H) (c : Nat) : mcov (vst f s) C R yv G hour burn j c = mcov f C R yv G hour burn j c := by
  obtain ⟨e1, e2, e3, e4⟩ := SRn_rows h j hj
  have m1 : mcell (vst f s) C R j yv = mcell f C R j yv := by
    funext k
    unfold mcell mX
    rw [e1, e2, e4]
  have m2 : mlen (vst f s) G hour burn yv j = mlen f G hour burn yv j := by
    unfold mlen
    rw [e3, e4]
  unfold mcov
  rw [m1, m2]
theorem burn_e {L S : Int32} {j : Nat} (hj : j < 8) : (burnV L S j = 0) ↔ ¬ hasB (L &&& (S ^^^ (-1))) j = true := by
  unfold burnV
  rw [hasB_tb (by omega), tb_and, tb_not _ (by omega), mbit_tb (by omega), mbit_tb (by omega)]
  cases tb L j <;> cases tb S j <;> decide
theorem LR_pass {f g : Nat → Nat → Int32} {s C R H K U N : Nat} {V : Int32 → Int32} {F G : Int32 → Int32 → Int32 → Int32} {r : Nat → Int32} (hss : s = 4 ∨ s = 32) (h : SRn f s 0 C R H K U) (k : LR f 21 r H N) (hN : N ≤ 600000) (hF : ∀ x y z, F x y z = V x) (hc : hourC s C R H F G f g) : LR g 21 (passR f C R H (yvO V (r 138)) G r) H (N + 1) := by
  have hC := h.1.1.2
  have hR := h.1.2.1.2
  have hH := h.1.2.2.1
  have e8 : r 138 = f 21 8 := LR_hour k
  have eb : burnR r = hourB f := LR_burn k
  have ey : cyv F (f 21 8) = yvO V (r 138) := by rw [cyv_e hF, e8]
  have y8 : yvO V (r 138) < 8 := yvO_lt V _
  obtain ⟨q1, q2, ⟨q136, q137, q138, q139, qk⟩, q4⟩ := passR_p f (yvO V (r 138)) G r hC hR hH
  generalize passR f C R H (yvO V (r 138)) G r = R' at q1 q2 q136 q137 q138 q139 qk q4 ⊢
  obtain ⟨c1, c2, c3, c4, c5, c6, c7, c8, c9⟩ := hc
  have ht : hourT f F = 0 ↔ turnM (r 139) (yvO V (r 138)) = 0 := by
    unfold hourT
    rw [ey]
    exact turn_m k.2.1 y8
  rw [ey] at c4 c5 c9
  rw [e8, eb] at q1 q4
  rw [e8] at q138 q139 y8 ht c4 c5 c9
  generalize yvO V (f 21 8) = yv at q1 q139 q4 y8 ht c4 c5 c9
  have sy := cset_sym (yv := yv) (G := G) (hour := f 21 8) (burn := hourB f) h
  have em : ∀ a, a < H → mset f C R yv G (f 21 8) (hourB f) H a = cset f s C R yv G (f 21 8) (hourB f) H a := fun a ha => (cset_m h ha).symm
  have hcc : ∀ a b, a < 8 → b < 8 → tb (cset f s C R yv G (f 21 8) (hourB f) H a) b = true → a < H ∧ b < H := fun a b ha hb t => by
    by_cases z : a < H
    · rw [cset_m h z, mset_tb _ _ _ _ _ _ _ hH z (by omega)] at t
      exact ⟨z, t.2.1⟩
    · have e : cset f s C R yv G (f 21 8) (hourB f) H a = 0 := if_neg z
      rw [e, tb_0] at t
      cases t
  generalize cset f s C R yv G (f 21 8) (hourB f) H = c at sy em hcc c5
  generalize mset f C R yv G (f 21 8) (hourB f) H = m at em q1
  have pr : ∀ a b, a < 8 → b < 8 → R' (8 * a + b) = nI (hV (hourT f F = 0) r c a b) ∧ R' (64 + (8 * a + b)) = r (64 + (8 * a + b)) + wedE 1 (nI (hV (hourT f F = 0) r c a b)) := fun a b ha hb => by
    obtain ⟨p1, p2⟩ := q1 a b ha hb
    by_cases z : a < H ∧ b < H
    · have e := hV_m (m := m) (c := c) k hN (hourT f F = 0) ht ha hb (em a z.1)
      rw [← e]
      exact p1 z
    · obtain ⟨o1, o2⟩ := p2 z
      have zz : H ≤ a ∨ H ≤ b ∨ a = b := by omega
      rw [(hV_f k hN sy hcc (hourT f F = 0) ha hb).2.2 zz]
      obtain ⟨v, -, w2, -, w4, -⟩ := k.2.2.2.2.2.1 a b ha hb
      rw [o1, o2, w2, w4 zz]
      exact ⟨rfl, (Int32.add_zero _).symm⟩
  obtain ⟨f5, f6, f7⟩ := hr_567 (g := g) k hN hH sy hcc (hourT f F = 0) pr c5 c6 c7
  obtain ⟨⟨t, t1, t2, t3⟩, k2, k3, ⟨n, n1, n2, n3, n4⟩, -, -, -, k8, k9⟩ := k
  have o27 : g 27 = f 27 := c1 27 (by omega) (by omega) (by omega)
  have o28 : g 28 = f 28 := c1 28 (by omega) (by omega) (by omega)
  have o29 : g 29 = f 29 := c1 29 (by omega) (by omega) (by omega)
  refine ⟨⟨t + 1, by omega, ?_, ?_⟩, Or.inr ⟨yv, y8, c4, q139⟩, ⟨?_, ?_⟩, ⟨n, n1, (c2 12 (by decide) (by decide)).trans n2, (qk 140 (by omega) (by omega)).trans n3, fun i hi => ?_⟩, f5, f6, f7, fun j hj => ?_, fun j p hj hp => ?_⟩
  · rw [c3, t2, nI_1]
  · rw [q138, t2, nI_1]
  · rw [q136, k3.1, c2 10 (by decide) (by decide)]
  · rw [q137, k3.2, c2 11 (by decide) (by decide)]
  · obtain ⟨a, b, a1, a2, a3, a4, a5, a6, a7, a8⟩ := n4 i hi
    refine ⟨a, b, a1, a2, (congrFun o27 i).trans a3, (qk _ (by omega) (by omega)).trans a4, (congrFun o28 i).trans a5, (qk _ (by omega) (by omega)).trans a6, (qk _ (by omega) (by omega)).trans (a7.trans (congrFun o29 i).symm), ?_⟩
    rw [show g (21 + 8) i = f (21 + 8) i from congrFun o29 i]
    exact a8
  · rw [q2 j hj, k8 j hj]
    show f 25 j + _ = g 25 j
    rw [c8 j]
    congr 1
    by_cases z : j < H
    · rw [if_pos z, if_pos z, k3.1, k3.2]
      obtain ⟨-, -, -, r4⟩ := SRn_rows h j z
      have r4 : f (s + 4) j = f 51 j := r4
      have be := burn_e (L := f 21 10) (S := f 21 11) hj
      rw [r4, show f s 9 = nI K from h.2.1.2.2.1, show f 46 2 = nI K from h.2.2.1.2.2.1]
      unfold hourB
      by_cases u : hasB (f 21 10 &&& (f 21 11 ^^^ (-1))) j = true
      · rw [if_pos u, if_neg (fun y => be.mp y u)]
      · rw [if_neg u, if_pos (be.mpr u)]
    · rw [if_neg z, if_neg z]
  · obtain ⟨v, v1, v2, v3⟩ := k9 j p hj hp
    have v2 : f 26 (144 * j + p) = nI v := v2
    have cz := c9 (144 * j + p)
    rw [show (144 * j + p) / 144 = j from by omega, show (144 * j + p) % 144 = p from by omega, v2] at cz
    have qz := q4 j p hj hp
    rw [v3] at qz
    have same : (j < H ∧ ccov f s C R yv G (f 21 8) (hourB f) j p = true) ↔ (j < H ∧ mcov f C R yv G (f 21 8) (hourB f) j (16 * (p / 12) + p % 12) = true) := by
      refine ⟨fun z => ⟨z.1, ?_⟩, fun z => ⟨z.1, ?_⟩⟩
      · rw [← mcov_v h z.1]
        exact mcov_c hC (by omega) z.2
      · have y := z.2
        rw [← mcov_v h z.1] at y
        have y := ccov_m hC (by omega) y
        rw [show 12 * ((16 * (p / 12) + p % 12) / 16) + (16 * (p / 12) + p % 12) % 16 = p from by omega] at y
        exact y
    by_cases z : j < H ∧ ccov f s C R yv G (f 21 8) (hourB f) j p = true
    · rw [if_pos z, nI_1] at cz
      rw [if_pos (same.mp z), nI_1] at qz
      exact ⟨v + 1, by omega, cz, qz⟩
    · rw [if_neg z, Int32.add_zero] at cz
      rw [if_neg (fun y => z (same.mpr y)), Int32.add_zero] at qz
      exact ⟨v, by omega, cz, qz⟩
