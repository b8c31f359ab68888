/-! THE LAW: a call of each kind -/
abbrev lP : Option Value → zW → Prop := fun rv _ => rv = some (.int 1)
abbrev lLS (i : Nat) : List (Nat × Value) := [(0, .ref 1000030), (1, .ref 0), (2, .ref 44), (3, .ref 73), (4, .int (nI (7 * i)))]
abbrev lwv (X : Nat × (Nat → Int32)) (i j : Nat) : Int32 := X.2 (nI (7 * i) + nI j).toNatClampNeg
theorem lwb {X : Nat × (Nat → Int32)} {i j : Nat} (hX : X.1 < 5000) (hi : 7 * i + 7 ≤ X.1) (hj : j < 7) : vp_in (nI (7 * i) + nI j) X.1 := by
  rw [nI_add]
  exact vp_in_nI (by omega) (by omega)
theorem lw_vl {w w1 : zW} {s N i : Nat} (h : Iv w s N) (l2 : w1.1.length ≤ 900000) : zVl w w1 (lLS i) [] := by
  have := h.len
  refine Or.inr ⟨fun q hq => ?_, fun v hv => by cases hv⟩
  simp only [lLS, List.mem_cons, List.not_mem_nil, or_false] at hq
  rcases hq with rfl | rfl | rfl | rfl | rfl <;> (intro o ho; cases ho)
  · exact Or.inr (show w1.1.length ≤ 1000030 by omega)
  · exact Or.inl (show 0 < w.1.length by omega)
  · exact Or.inl (show 44 < w.1.length by omega)
  · exact Or.inl (show 73 < w.1.length by omega)

set_option maxRecDepth 100000 in
set_option maxHeartbeats 4000000 in
theorem lc_house {X : Nat × (Nat → Int32)} {w : zW} {s N i mc ms : Nat} (hX : X.1 < 5000) (hi : 7 * i + 7 ≤ X.1) (h : Iv w s N) (hN : N ≤ 511000) (kk : ∀ w2 s2, Iv w2 s2 (N + 1000) → zS mc ms 140 (m_law X) lP 1115 (lLS i) [] w2) : zS (mc + 22) (ms + 3463) 140 (m_law X) lP 304 (lLS i) [] w := by
  refine z_aload_n (pc := 304) (i := 1) (j := 1) rfl rfl rfl ?_
  refine z_aload_n (pc := 305) (i := 0) (j := 0) rfl rfl rfl ?_
  refine z_iload (pc := 306) (i := 4) (j := 4) rfl rfl ?_
  refine z_iconst (pc := 308) (v := 1) rfl (by decide) ?_
  refine z_iadd (pc := 309) rfl ?_
  refine z_tX (pc := 310) rfl rfl hX (lwb (j := 1) hX hi (by decide)) ?_
  refine z_aload_n (pc := 311) (i := 0) (j := 0) rfl rfl rfl ?_
  refine z_iload (pc := 312) (i := 4) (j := 4) rfl rfl ?_
  refine z_iconst (pc := 314) (v := 2) rfl (by decide) ?_
  refine z_iadd (pc := 315) rfl ?_
  refine z_tX (pc := 316) rfl rfl hX (lwb (j := 2) hX hi (by decide)) ?_
  refine z_cV (pc := 317) (mc1 := 22) (ms1 := 3463) (mc2 := mc) (ms2 := ms) (as := [.int (lwv X i 1), .int (lwv X i 2)]) (rest := []) (o := 0) rfl rfl h.1.1.1 ok_SW_house rfl rfl cl_Lw_31 (by decide) (Nat.le_of_ble_eq_true rfl) (Nat.le_of_ble_eq_true rfl) (by omega) (by omega) (op_house h hN (lwv X i 1) (lwv X i 2)) (fun r1 w1 hp => ?_) rfl rfl
  obtain ⟨v, rfl, ⟨l1, l2, l3⟩, hz⟩ := hp
  refine ⟨⟨l1, lw_vl h l2⟩, ?_⟩
  refine z_aload_n (pc := 320) (i := 2) (j := 2) rfl rfl rfl ?_
  refine z_aload_n (pc := 321) (i := 0) (j := 0) rfl rfl rfl ?_
  refine z_iload (pc := 322) (i := 4) (j := 4) rfl rfl ?_
  refine z_iconst (pc := 324) (v := 1) rfl (by decide) ?_
  refine z_iadd (pc := 325) rfl ?_
  refine z_tX (pc := 326) rfl rfl hX (lwb (j := 1) hX hi (by decide)) ?_
  refine z_aload_n (pc := 327) (i := 0) (j := 0) rfl rfl rfl ?_
  refine z_iload (pc := 328) (i := 4) (j := 4) rfl rfl ?_
  refine z_iconst (pc := 330) (v := 2) rfl (by decide) ?_
  refine z_iadd (pc := 331) rfl ?_
  refine z_tX (pc := 332) rfl rfl hX (lwb (j := 2) hX hi (by decide)) ?_
  refine z_cV (pc := 333) (mc1 := 0) (ms1 := 0) (mc2 := mc) (ms2 := ms) (as := [.int (lwv X i 1), .int (lwv X i 2)]) (rest := [.int v]) (o := 44) rfl rfl l3 ok_Mod_house rfl rfl cl_Lw_35 (by decide) (Nat.le_of_ble_eq_true rfl) (Nat.le_of_ble_eq_true rfl) (by omega) (by omega) hz (fun r2 w2 hq => ?_) rfl rfl
  obtain ⟨rfl, ew, s2, h2⟩ := hq
  refine ⟨⟨by rw [ew]; exact Nat.le_refl _, Or.inl (by rw [ew])⟩, ?_⟩
  refine z_icmp_eq (pc := 336) (tgt := 1115) rfl (by decide) (fun h336 => ?_) (fun h336 => ?_)
  · exact kk w2 s2 h2
  · exact absurd rfl h336

set_option maxRecDepth 100000 in
set_option maxHeartbeats 4000000 in
theorem lc_street {X : Nat × (Nat → Int32)} {w : zW} {s N i mc ms : Nat} (hX : X.1 < 5000) (hi : 7 * i + 7 ≤ X.1) (h : Iv w s N) (hN : N ≤ 511000) (kk : ∀ w2 s2, Iv w2 s2 (N + 1000) → zS mc ms 140 (m_law X) lP 1115 (lLS i) [] w2) : zS (mc + 22) (ms + 3463) 140 (m_law X) lP 291 (lLS i) [] w := by
  refine z_aload_n (pc := 291) (i := 1) (j := 1) rfl rfl rfl ?_
  refine z_cV (pc := 292) (mc1 := 22) (ms1 := 3463) (mc2 := mc) (ms2 := ms) (as := []) (rest := []) (o := 0) rfl rfl h.1.1.1 ok_SW_street rfl rfl cl_Lw_26 (by decide) (Nat.le_of_ble_eq_true rfl) (Nat.le_of_ble_eq_true rfl) (by omega) (by omega) (op_street h hN ) (fun r1 w1 hp => ?_) rfl rfl
  obtain ⟨v, rfl, ⟨l1, l2, l3⟩, hz⟩ := hp
  refine ⟨⟨l1, lw_vl h l2⟩, ?_⟩
  refine z_aload_n (pc := 295) (i := 2) (j := 2) rfl rfl rfl ?_
  refine z_cV (pc := 296) (mc1 := 0) (ms1 := 0) (mc2 := mc) (ms2 := ms) (as := []) (rest := [.int v]) (o := 44) rfl rfl l3 ok_Mod_street rfl rfl cl_Lw_30 (by decide) (Nat.le_of_ble_eq_true rfl) (Nat.le_of_ble_eq_true rfl) (by omega) (by omega) hz (fun r2 w2 hq => ?_) rfl rfl
  obtain ⟨rfl, ew, s2, h2⟩ := hq
  refine ⟨⟨by rw [ew]; exact Nat.le_refl _, Or.inl (by rw [ew])⟩, ?_⟩
  refine z_icmp_eq (pc := 299) (tgt := 1115) rfl (by decide) (fun h299 => ?_) (fun h299 => ?_)
  · exact kk w2 s2 h2
  · exact absurd rfl h299

set_option maxRecDepth 100000 in
set_option maxHeartbeats 4000000 in
theorem lc_wind {X : Nat × (Nat → Int32)} {w : zW} {s N i mc ms : Nat} (hX : X.1 < 5000) (hi : 7 * i + 7 ≤ X.1) (h : Iv w s N) (hN : N ≤ 511000) (kk : ∀ w2 s2, Iv w2 s2 (N + 1000) → zS mc ms 140 (m_law X) lP 1115 (lLS i) [] w2) : zS (mc + 22) (ms + 3463) 140 (m_law X) lP 447 (lLS i) [] w := by
  refine z_aload_n (pc := 447) (i := 1) (j := 1) rfl rfl rfl ?_
  refine z_aload_n (pc := 448) (i := 0) (j := 0) rfl rfl rfl ?_
  refine z_iload (pc := 449) (i := 4) (j := 4) rfl rfl ?_
  refine z_iconst (pc := 451) (v := 1) rfl (by decide) ?_
  refine z_iadd (pc := 452) rfl ?_
  refine z_tX (pc := 453) rfl rfl hX (lwb (j := 1) hX hi (by decide)) ?_
  refine z_cV (pc := 454) (mc1 := 22) (ms1 := 3463) (mc2 := mc) (ms2 := ms) (as := [.int (lwv X i 1)]) (rest := []) (o := 0) rfl rfl h.1.1.1 ok_SW_wind rfl rfl cl_Lw_45 (by decide) (Nat.le_of_ble_eq_true rfl) (Nat.le_of_ble_eq_true rfl) (by omega) (by omega) (op_wind h hN (lwv X i 1)) (fun r1 w1 hp => ?_) rfl rfl
  obtain ⟨v, rfl, ⟨l1, l2, l3⟩, hz⟩ := hp
  refine ⟨⟨l1, lw_vl h l2⟩, ?_⟩
  refine z_aload_n (pc := 457) (i := 2) (j := 2) rfl rfl rfl ?_
  refine z_aload_n (pc := 458) (i := 0) (j := 0) rfl rfl rfl ?_
  refine z_iload (pc := 459) (i := 4) (j := 4) rfl rfl ?_
  refine z_iconst (pc := 461) (v := 1) rfl (by decide) ?_
  refine z_iadd (pc := 462) rfl ?_
  refine z_tX (pc := 463) rfl rfl hX (lwb (j := 1) hX hi (by decide)) ?_
  refine z_cV (pc := 464) (mc1 := 0) (ms1 := 0) (mc2 := mc) (ms2 := ms) (as := [.int (lwv X i 1)]) (rest := [.int v]) (o := 44) rfl rfl l3 ok_Mod_wind rfl rfl cl_Lw_49 (by decide) (Nat.le_of_ble_eq_true rfl) (Nat.le_of_ble_eq_true rfl) (by omega) (by omega) hz (fun r2 w2 hq => ?_) rfl rfl
  obtain ⟨rfl, ew, s2, h2⟩ := hq
  refine ⟨⟨by rw [ew]; exact Nat.le_refl _, Or.inl (by rw [ew])⟩, ?_⟩
  refine z_icmp_eq (pc := 467) (tgt := 1115) rfl (by decide) (fun h467 => ?_) (fun h467 => ?_)
  · exact kk w2 s2 h2
  · exact absurd rfl h467
