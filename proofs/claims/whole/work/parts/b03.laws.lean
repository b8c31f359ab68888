/-! THE SAME LAWS: one wind V, one plume G of class and model -/
theorem zLaw_1 {f : Nat → Nat → Int32} {L : Nat} {x0 : Int32} (h1 : f L 2 = 1) (h2 : f (L + 1) 0 = x0) (h : ¬ x0 < -4) : zLaw f L (fun x y z => if x0 < 0 then lfact x0 x y z else x0) := by
  refine ⟨1, by decide, h1, fun x y z g => ?_⟩
  show (lstep x y z (f (L + 1) 0) (0, g)).2 0 = _
  rw [h2]
  unfold lstep
  rw [if_neg h, if_pos (by show 0 < 32; omega)]
  show (if (0 : Nat) = 0 then _ else g 0) = _
  exact if_pos rfl
theorem SRn_fn {f : Nat → Nat → Int32} {s C R H K U : Nat} (h : SRn f s 0 C R H K U) : ∃ (V : Int32 → Int32) (F G : Int32 → Int32 → Int32 → Int32), zXi f s C R H F G ∧ zMi f C R H V G ∧ stIn f s C R H ∧ ∀ x y z, F x y z = V x := by
  obtain ⟨h1, h2, h3, h4, h5, h6, h7⟩ := h
  have hw : ∃ (V : Int32 → Int32) (F : Int32 → Int32 → Int32 → Int32), zLaw f (s + 6) F ∧ zMWind f V ∧ ∀ x y z, F x y z = V x := by
    rcases h5 with ⟨a1, a2, a3, a4⟩ | ⟨a, Y, W, a1, a2, a3, a4, a5, a6, a7⟩
    · exact ⟨fun _ => 0, _, zLaw_1 a3 a4 (by decide), Or.inl ⟨a2.trans a1.symm, fun _ => rfl⟩, fun x y z => rfl⟩
    · have e1 : f 52 0 = nI a := by rw [show 1000 * 0 + a = a from by omega] at a3; exact a3
      have e2 : f 53 0 = nI (a + Y.length) := by rw [show 1000 * 0 + a = a from by omega] at a4; exact a4
      refine ⟨fun x => W (x - x / 24 * 24) (x / 24) 0 0, _, a7, Or.inr ⟨fun e => ?_, W, a6 f 0 a (by omega) e1 e2 (fun i hi => ?_), fun x y z => ?_⟩, fun x y z => ?_⟩
      · rw [e1, e2] at e
        have := (nI_eq (by omega) (by omega)).mp e
        omega
      · have := a5 i hi
        rw [show 1000 * 0 + a = a from by omega] at this
        exact this
      · exact zLaw_nz a7 h7 x y z
      · exact zLaw_nz a7 h7 x y z
  have hg : ∃ G : Int32 → Int32 → Int32 → Int32, zLaw f (s + 9) G ∧ zMPl f G := by
    rcases h6 with ⟨a1, a2, a3, a4⟩ | ⟨a, Y, W, a1, a2, a3, a4, a5, a6, a7⟩
    · have e1 : f 52 1 = nI (1000 * 0) := a1
      have e2 : f 53 1 = nI (1000 * 0) := a2
      exact ⟨_, zLaw_1 a3 a4 (by decide), Or.inl ⟨by rw [e1, e2]; exact Int32.le_refl _, fun x y z => rfl⟩⟩
    · have e1 : f 52 1 = nI a := by rw [show 1000 * 0 + a = a from by omega] at a3; exact a3
      have e2 : f 53 1 = nI (a + Y.length) := by rw [show 1000 * 0 + a = a from by omega] at a4; exact a4
      refine ⟨_, a7, Or.inr ⟨?_, W, a6 f 1 a (by omega) e1 e2 (fun i hi => ?_), fun x y z => rfl⟩⟩
      · rw [e1, e2]
        exact nI_ge (by omega) (by omega)
      · have := a5 i hi
        rw [show 1000 * 0 + a = a from by omega] at this
        exact this
  obtain ⟨V, F, w1, w2, w3⟩ := hw
  obtain ⟨G, g1, g2⟩ := hg
  refine ⟨V, F, G, ⟨h2.1, h2.2.1, h2.2.2.2.2, h1.1.2, h1.2.1.2, h1.2.2.1, w1, g1⟩, ⟨h3.1, h3.2.1, h3.2.2.2.2, h1.1.2, h1.2.1.2, h1.2.2.1, w2, g2⟩, fun h hh => ?_, w3⟩
  obtain ⟨⟨c, q, a1, a2, a3, -, a5, -⟩, -⟩ := h4 h hh
  exact ⟨c, q, a1, a2, a3, a5⟩
