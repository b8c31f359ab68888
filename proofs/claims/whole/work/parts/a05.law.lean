/-! THE MODEL READS A LAW, all of it -/
theorem expS_r {T : Nat → Int32} {n : Nat} {c k : Int32} (hc : ¬ (1 : Int32) = c) : expS T n c (.inr k) = .inr k := by
  unfold expS
  rw [if_neg (show ¬ tkc T n (.inr k) = c from hc)]
  rfl
theorem expS_t {T : Nat → Int32} {n p : Nat} {c : Int32} (h : tC T n p = c) : expS T n c (.inl p) = .inl (tEnd T n p) := by
  unfold expS
  rw [if_pos (show tkc T n (.inl p) = c from h)]
  rfl
theorem expS_f {T : Nat → Int32} {n p : Nat} {c : Int32} (h : ¬ tC T n p = c) : expS T n c (.inl p) = .inr (flA T n 1 p) := by
  unfold expS
  rw [if_neg (show ¬ tkc T n (.inl p) = c from h)]
  rfl
def tstf (x : Int32) : Nat → Nat → Int32 := opensF (z2 (fun _ _ => 0) 63 0 x) 0
theorem tstf_0 : testsF (tstf 0) 0 57 0 = 0 := by decide +kernel
theorem tstf_1 : testsF (tstf 1) 0 57 0 = 1 := by decide +kernel
theorem SChoice_ne {Y Z : List Int32} (h : SChoice 5 Y Z) : 1 ≤ Y.length := by
  obtain ⟨V, hM, -⟩ := h
  cases Y with
  | cons c Y => exact Nat.succ_le_succ (Nat.zero_le _)
  | nil =>
    have e : ∀ x, testsF (tstf x) 0 57 0 = V 0 0 0 0 := fun x => by
      obtain ⟨-, g, a2, -, -, a5⟩ := hM (tstf x) 0 (by decide) (fun v => rfl) rfl rfl rfl rfl rfl
      have a2 : (tstf x, 0) = (g, 0) := a2
      obtain ⟨rfl, -⟩ := Prod.mk.inj a2
      exact a5
    have h0 := (e 0).symm.trans tstf_0
    have h1 := (e 1).symm.trans tstf_1
    exact absurd (h0.symm.trans h1) (by decide)
def lwP (T : Nat → Int32) (n L s p : Nat) (w0 : zW) (j0 : Nat) (X : Nat × (Nat → Int32)) (rv : Option Value) (w1 : zW) : Prop := rdsF w0 w1 ∧ mRs w1 T n (expS T n 59 (cChoice T n (cPart T n L s 5) (.inl p, X)).1) rv ∧
  ∀ p1, expS T n 59 (cChoice T n (cPart T n L s 5) (.inl p, X)).1 = .inl p1 → ∃ Y Z, SChoice 5 Y Z ∧ Z.length + p ≤ n ∧ (cChoice T n (cPart T n L s 5) (.inl p, X)).2 = adL Z X ∧ zI w1 44 19 = nI (j0 + Y.length) ∧ j0 + Y.length ≤ 1000 + p1 ∧ zI w1 54 = putL (zI w0 54) j0 Y ∧ p1 ≤ n ∧ p < p1
set_option maxRecDepth 100000 in
set_option maxHeartbeats 4000000 in
theorem c_Mod_reads {T : Nat → Int32} {n L s j0 p : Nat} {w0 : zW} (hk0 : mK w0 n T) (hS0 : mS w0 T n p) (hpl : (zI w0 44 21 = 0 ∧ ¬ L = s + 9) ∨ (zI w0 44 21 = 1 ∧ L = s + 9)) (hj : zI w0 44 19 = nI j0) (hj1 : 1000 ≤ j0) (hjp : j0 ≤ 1000 + p) (X : Nat × (Nat → Int32)) (dd : Nat) (hdd : 2 ≤ dd) : zS 0 0 dd m_Mod_reads (lwP T n L s p w0 j0 X) 0 [(0, .ref 44)] [] w0 := by
  have hp : p ≤ n := hS0.2.2.2.2.2
  have hn1 := hk0.2.2.1
  have hj0 : 1000 ≤ j0 ∧ j0 ≤ 5000 := by omega
  have au := rd_AU (L := L) (s := s) (P := lwP T n L s p w0 j0 X) hk0 hpl hdd hj0
  have main := sim_law hn1 au p (zI w0 55) (fun b => if b = 0 then 0 else zI w0 56 b) [] X ⟨rfl, if_pos rfl⟩ hp (fun k hk => ?_) (fun p2 op2 cm2 Y2 Z2 e g1 g2 g3 gA gE gS => ?_) hp (Nat.zero_le _) (by show j0 + 0 ≤ _; omega)
  refine z_iconst (pc := 0) (v := 0) rfl (by decide) ?_
  refine z_istore_n (pc := 1) (i := 1) (ls' := [(0, .ref 44), (1, .int 0)]) rfl rfl (by decide) rfl ?_
  refine z_iconst (pc := 2) (v := 1) rfl (by decide) ?_
  refine z_istore_n (pc := 3) (i := 2) (ls' := [(0, .ref 44), (1, .int 0), (2, .int 1)]) rfl rfl (by decide) rfl ?_
  refine z_aload_n (pc := 4) (i := 0) (j := 0) rfl rfl rfl ?_
  refine z_getR (pc := 5) (x := 56) rfl fl_Mod_44 hk0.1.1 rfl (mr_56 hk0.1) ?_
  refine z_iconst (pc := 8) (v := 0) rfl (by decide) ?_
  refine z_iconst (pc := 9) (v := 0) rfl (by decide) ?_
  refine z_zast (pc := 10) rfl (mk_56 hk0.1) (vp_in_nI (n := 0) (by decide) (by decide)) ?_
  exact main _ ⟨rdsF_I (rdsF_r w0) _ (Or.inr (Or.inr (Or.inl rfl))), mS_o hS0 (by decide) _, zI_ne w0 _ _ (by decide), z2_row (zI w0) 56 0 0, (zI_nt w0 _ (Or.inl (by decide))).trans hj, (zI_ne w0 _ _ (by decide)).trans (putL_0 _ _).symm⟩
  · intro w1 hF h9
    refine ⟨hF, ?_, fun p1 e1 => ?_⟩
    · rw [hk, expS_r (by decide)]; exact mRs_r h9
    · rw [hk, expS_r (by decide)] at e1; cases e1
  · have e1 : (cChoice T n (cPart T n L s 5) (.inl p, X)).1 = .inl p2 := by rw [e]
    by_cases hc : tC T n p2 = 59
    · intro hp2 hd2 hj2 w hQw
      have hj2 : j0 + Y2.length ≤ 1000 + p2 := hj2
      refine rd_B6 hk0 hpl hdd hj0 hc (fun w1 hQ => ⟨hQ.1, ?_, fun p1 e2 => ?_⟩) hp2 hd2 hj2 w hQw
      · rw [e1, expS_t hc]; exact mRs_l hQ.2.1
      · rw [e1, expS_t hc] at e2
        obtain rfl : tEnd T n p2 = p1 := Sum.inl.inj e2
        have q3 := tEnd_lt (T := T) (n := n) (p := p2) (tC_lt (by rw [hc]; decide))
        have q4 := tEnd_le (T := T) g2
        exact ⟨Y2, Z2, gS, by omega, by rw [e], hQ.2.2.2.2.1, by have := tBeg_ge T n p2; omega, hQ.2.2.2.2.2, q4, by have := tBeg_ge T n p2; omega⟩
    · refine rd_B5 hk0 hpl hdd hj0 gE (fun _ => rfl) (fun z => absurd z hc) (fun w1 hF h9 => ⟨hF, ?_, fun p1 e2 => ?_⟩)
      · rw [e1, expS_f hc]; exact mRs_r h9
      · rw [e1, expS_f hc] at e2; cases e2
