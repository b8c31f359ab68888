/-! CONSTANT TEXT: the signs of the reader, String's own methods on them, the words by key -/
section Z62
variable {mc ms d : Nat} {M : zM} {P : Option Value → zW → Prop} {pc : Nat} {ls : List (Nat × Value)} {st : List Value} {w : zW}
theorem z_ldcS (hf : zM.f M pc = some (.ldc 250, 2)) (hy : (zM.y M).cls = "SmokeWeds$Reader") (k : zS mc ms d M P (pc + 2) ls (.ref 1000022 :: st) w) : zS mc ms d M P pc ls st w := by
  intro p l e R s m args below meth c Q D cA h0 ad0 n0 C ad H locs cells slots la hA hS hg hc hs hl
  have h := C.2.2.2.2.2.2.1.2.2.2.2.1.2.2.2
  rw [← z_adc hg hA.2.2.2.1 1000022 (by decide)] at h
  exact va_ldcS C.1 C.2.1 (by rw [← hy]; exact C.2.2.2.1) h (C.dec hf) (k p l e R s m args below meth c Q D cA h0 ad0 n0 C ad H locs cells slots la hA hS hg hc hs hl)
theorem z_sval {idx : Nat} (hf : zM.f M pc = some (.getfield idx, 3)) (hw : Cond.fieldLink (zM.y M).cls idx "java/lang/String" "value" "[B" ∈ zT) (k : zS mc ms d M P (pc + 3) ls (.ref 1000023 :: st) w) : zS mc ms d M P pc ls (.ref 1000022 :: st) w := by
  intro p l e R s m args below meth c Q D cA h0 ad0 n0 C ad H locs cells slots la hA hS hg hc hs hl
  have h := C.2.2.2.2.2.2.1.2.2.2.2.1.2.1
  rw [← z_adc hg hA.2.2.2.1 1000022 (by decide), ← z_adc hg hA.2.2.2.1 1000023 (by decide)] at h
  exact vk_getf C.1 C.2.1 h hS C.2.2.2.1 (C.2.2.2.2.1 _ hw) (fun _ h => h) (C.dec hf) (k p l e R s m args below meth c Q D cA h0 ad0 n0 C ad H locs cells slots la hA hS hg hc hs hl)
theorem z_scod {idx : Nat} (hf : zM.f M pc = some (.getfield idx, 3)) (hw : Cond.fieldLink (zM.y M).cls idx "java/lang/String" "coder" "B" ∈ zT) (k : zS mc ms d M P (pc + 3) ls (.int 0 :: st) w) : zS mc ms d M P pc ls (.ref 1000022 :: st) w := by
  intro p l e R s m args below meth c Q D cA h0 ad0 n0 C ad H locs cells slots la hA hS hg hc hs hl
  have h := C.2.2.2.2.2.2.1.2.2.2.2.1.2.2.1
  rw [← z_adc hg hA.2.2.2.1 1000022 (by decide)] at h
  exact vk_getf C.1 C.2.1 h hS C.2.2.2.1 (C.2.2.2.2.1 _ hw) (fun _ h => h) (C.dec hf) (k p l e R s m args below meth c Q D cA h0 ad0 n0 C ad H locs cells slots la hA hS hg hc hs hl)
theorem z_tB {i : Int32} (hf : zM.f M pc = some (.baload, 1)) (hi : vp_in i 8) (k : zS mc ms d M P (pc + 1) ls (.int (zkB.getD i.toNatClampNeg 0) :: st) w) : zS mc ms d M P pc ls (.int i :: .ref 1000023 :: st) w := by
  intro p l e R s m args below meth c Q D cA h0 ad0 n0 C ad H locs cells slots la hA hS hg hc hs hl
  have h := C.2.2.2.2.2.2.1.2.1 _ (show (FieldType.byte, 1000023, 8, fun k => Value.int (zkB.getD k 0)) ∈ zkT from List.mem_cons_of_mem _ (List.mem_cons_of_mem _ (List.mem_cons_of_mem _ List.mem_cons_self)))
  have h : va_T .byte (ad0 1000023) 8 (fun k => .int (zkB.getD k 0)) (zA h0) s s.heap := h
  rw [← z_adc hg hA.2.2.2.1 1000023 (by decide)] at h
  exact va_tb C.1 C.2.1 h hS hi rfl (C.dec hf) (k p l e R s m args below meth c Q D cA h0 ad0 n0 C ad H locs cells slots la hA hS hg hc hs hl)
theorem z_tBl (hf : zM.f M pc = some (.arraylength, 1)) (k : zS mc ms d M P (pc + 1) ls (.int 8 :: st) w) : zS mc ms d M P pc ls (.ref 1000023 :: st) w := by
  intro p l e R s m args below meth c Q D cA h0 ad0 n0 C ad H locs cells slots la hA hS hg hc hs hl
  have h := C.2.2.2.2.2.2.1.2.1 _ (show (FieldType.byte, 1000023, 8, fun k => Value.int (zkB.getD k 0)) ∈ zkT from List.mem_cons_of_mem _ (List.mem_cons_of_mem _ (List.mem_cons_of_mem _ List.mem_cons_self)))
  have h : va_T .byte (ad0 1000023) 8 (fun k => .int (zkB.getD k 0)) (zA h0) s s.heap := h
  rw [← z_adc hg hA.2.2.2.1 1000023 (by decide)] at h
  exact va_tlen (v := 8) C.1 C.2.1 h hS rfl (C.dec hf) (k p l e R s m args below meth c Q D cA h0 ad0 n0 C ad H locs cells slots la hA hS hg hc hs hl)
theorem z_cK {M2 : zM} {mc1 ms1 mc2 ms2 d2 n idx : Nat} {P1 : Option Value → zW → Prop} {as rest : List Value} (hqn : (zM.y M2).cls = "java/lang/String") (ok : zOK M2) (hX : zM.X M2 = none) (hf : zM.f M pc = some (.invokevirtual idx, 3)) (hk : zLkV (zM.y M).cls idx (zM.y M2) n) (hd : d2 < d) (hl2 : (lg_sl (.ref 1000022 :: as)).length ≤ zM.mx M2) (hrest : (rest.map fun v => v.category).sum ≤ 8) (hmc : mc1 + mc2 ≤ mc) (hms : ms1 + ms2 ≤ ms) (hM : zS mc1 ms1 d2 M2 P1 0 (lv_args 0 (.ref 1000022 :: as)) [] w) (k : ∀ r1 w1, P1 r1 w1 → (w.1.length ≤ w1.1.length ∧ zVl w w1 ls rest) ∧ zS mc2 ms2 d M P (pc + 3) ls (r1.toList ++ rest) w1) (hn : as.length = n) (hst : as.reverse ++ .ref 1000022 :: rest = st) : zS mc ms d M P pc ls st w := by
  intro p l e R s m args below meth c Q D cA h0 ad0 n0 C ad H locs cells slots la hA hS hg hc hs hl
  subst hst
  have hMet := zMet ok hX hl2 hM l D cA h0 ad
  have hrm := zrm C.2.2.2.2.2.2.2.2.2.1 hd ok.2.1
  have hts := C.2.2.2.2.1
  have h := C.2.2.2.2.2.2.1.2.2.2.2.1.1
  rw [← z_adc hg hA.2.2.2.1 1000022 (by decide)] at h
  have hrecv := va_Orecv h hS
  rw [← hqn] at hrecv
  exact z_after (rest := rest) C hS hg hc hs hl (va_runV (C := (zM.y M2).cls) (As := as.map (cv ad)) (Ts := zT) ⟨C.1, C.2.1, C.2.2.1, C.2.2.2.1, hts⟩ hMet ⟨callB_of n hts (zWs_good ok) rfl rfl rfl (hts _ hk.1.2.1) (hts _ hk.1.1) ⟨ok.2.2.2.1.1, ok.2.2.2.1.2, hk.1.2.2⟩ hrm, hts _ hk.2.1, hts _ hk.2.2⟩ ⟨zPre_blind D cA h0 ad (.ref 1000022 :: as), hrecv, fun U hU hW => ⟨rfl, zPre_now C hA hS hg hU hW⟩⟩ rfl (by rw [List.length_map]; exact hn) hl.1 (by simp [cv]) (by show 2 * 0 + _ ≤ 8; rw [zcat]; omega) (C.dec hf) ⟨by omega, by omega⟩) hmc hms k
theorem z_nret {v : Int32} (hf : zM.f M pc = some (.ireturn, 1)) (hr : zM.rt M = some .byte) (hv : v = 0) (hP : P (some (.int v)) w) : zS mc ms d M P pc ls [.int v] w :=
  fun p l e R s m args below meth c Q D cA h0 ad0 n0 C ad H locs cells slots la hA hS hg hc hs hl => C.2.2.2.2.2.2.2.2.2.2.2.2 _ _ hP ad H locs cells slots pc la hA hS hg.1 (Nat.le_trans (Nat.le_add_right _ _) hc) (Nat.le_trans (Nat.le_add_right _ _) hs) (Or.inr (Or.inl ⟨v, _, rfl, hr, by rw [hv]; rfl, hf⟩)) hl.1
end Z62
set_option maxRecDepth 100000 in
set_option maxHeartbeats 4000000 in
theorem c_String_isLatin1 (d : Nat) (w : zW) : zS 0 0 d m_String_isLatin1 (fun rv w1 => rv = some (.int 1) ∧ w1 = w) 0 [(0, .ref 1000022)] [] w := by
  refine z_gets (pc := 0) (C0 := "java/lang/String") (n1 := "COMPACT_STRINGS") (d1 := "Z") (v := .int 1) rfl (by simp [zkZ]) gl_String_38 ?_
  refine z_if_eq (pc := 3) (tgt := 17) rfl (by decide) (fun h => absurd h (by decide)) (fun h => ?_)
  refine z_aload_n (pc := 6) (i := 0) (j := 0) rfl rfl rfl ?_
  refine z_scod (pc := 7) rfl gl_String_15 ?_
  refine z_if_ne (pc := 10) (tgt := 17) rfl (by decide) (fun h => absurd rfl h) (fun h => ?_)
  refine z_iconst (pc := 13) (v := 1) rfl (by decide) ?_
  refine z_goto (pc := 14) (tgt := 18) rfl (by decide) ?_
  exact z_zret (pc := 18) rfl rfl (by decide) ⟨rfl, rfl⟩
set_option maxRecDepth 100000 in
set_option maxHeartbeats 4000000 in
theorem c_String_coder (d : Nat) (w : zW) : zS 0 0 d m_String_coder (fun rv w1 => rv = some (.int 0) ∧ w1 = w) 0 [(0, .ref 1000022)] [] w := by
  refine z_gets (pc := 0) (C0 := "java/lang/String") (n1 := "COMPACT_STRINGS") (d1 := "Z") (v := .int 1) rfl (by simp [zkZ]) gl_String_38 ?_
  refine z_if_eq (pc := 3) (tgt := 13) rfl (by decide) (fun h => absurd h (by decide)) (fun h => ?_)
  refine z_aload_n (pc := 6) (i := 0) (j := 0) rfl rfl rfl ?_
  refine z_scod (pc := 7) rfl gl_String_15 ?_
  refine z_goto (pc := 10) (tgt := 14) rfl (by decide) ?_
  exact z_nret (pc := 14) rfl rfl (by decide) ⟨rfl, rfl⟩
set_option maxRecDepth 100000 in
set_option maxHeartbeats 4000000 in
theorem c_String_length (d : Nat) (hd : 1 ≤ d) (w : zW) : zS 0 0 d m_String_length (fun rv w1 => rv = some (.int 8) ∧ w1 = w) 0 [(0, .ref 1000022)] [] w := by
  refine z_aload_n (pc := 0) (i := 0) (j := 0) rfl rfl rfl ?_
  refine z_sval (pc := 1) rfl gl_String_9 ?_
  refine z_tBl (pc := 4) rfl ?_
  refine z_aload_n (pc := 5) (i := 0) (j := 0) rfl rfl rfl ?_
  refine z_cK (pc := 6) (mc1 := 0) (ms1 := 0) (mc2 := 0) (ms2 := 0) (as := []) (rest := [.int 8]) rfl ok_String_coder rfl rfl cl_String_335 (by omega) (Nat.le_of_ble_eq_true rfl) (Nat.le_of_ble_eq_true rfl) (Nat.le_refl _) (Nat.le_refl _) (c_String_coder 0 _) (fun r1 w1 hp => ?_) rfl rfl
  obtain ⟨rfl, hw1⟩ := hp
  rw [hw1]
  refine ⟨⟨Nat.le_refl _, Or.inl rfl⟩, ?_⟩
  refine z_ishr (pc := 9) rfl ?_
  exact z_iret (pc := 10) rfl rfl ⟨rfl, rfl⟩
set_option maxRecDepth 100000 in
set_option maxHeartbeats 4000000 in
theorem c_Latin_canEncode (x : Int32) (d : Nat) (w : zW) : zS 0 0 d m_Latin_canEncode (fun rv w1 => rv = some (.int (if x < 0 then 0 else (if 255 < x then 0 else 1))) ∧ w1 = w) 0 [(0, .int x)] [] w := by
  refine z_iload_n (pc := 0) (i := 0) (j := 0) rfl rfl rfl ?_
  refine z_if_lt (pc := 1) (tgt := 15) rfl (by decide) (fun h1 => ?_) (fun h1 => ?_)
  · refine z_iconst (pc := 15) (v := 0) rfl (by decide) ?_
    exact z_zret (pc := 16) rfl rfl (by decide) ⟨by rw [if_pos h1], rfl⟩
  · refine z_iload_n (pc := 4) (i := 0) (j := 0) rfl rfl rfl ?_
    refine z_sipush (pc := 5) (v := 255) rfl (by decide) ?_
    refine z_icmp_gt (pc := 8) (tgt := 15) rfl (by decide) (fun h8 => ?_) (fun h8 => ?_)
    · refine z_iconst (pc := 15) (v := 0) rfl (by decide) ?_
      exact z_zret (pc := 16) rfl rfl (by decide) ⟨by rw [if_neg h1, if_pos h8], rfl⟩
    · refine z_iconst (pc := 11) (v := 1) rfl (by decide) ?_
      refine z_goto (pc := 12) (tgt := 16) rfl (by decide) ?_
      exact z_zret (pc := 16) rfl rfl (by decide) ⟨by rw [if_neg h1, if_neg h8], rfl⟩
/-- the place of a sign among the reader's eight, from the last m of them; none: -1 -/
def sgIx (c : Int32) : Nat → Int32
  | 0 => -1
  | m + 1 => if zkB.getD (7 - m) 0 = c then nI (7 - m) else sgIx c m
def isSg (c : Int32) : Bool := c = 40 || c = 41 || c = 60 || c = 61 || c = 43 || c = 45 || c = 42 || c = 59
theorem sgIx_lt (c : Int32) : sgIx c 8 < 0 ↔ ¬ isSg c = true := by
  unfold isSg
  simp only [sgIx, zkB, List.getD_cons_zero, List.getD_cons_succ]
  by_cases h1 : c = 40
  · subst h1; decide
  by_cases h2 : c = 41
  · subst h2; decide
  by_cases h3 : c = 60
  · subst h3; decide
  by_cases h4 : c = 61
  · subst h4; decide
  by_cases h5 : c = 43
  · subst h5; decide
  by_cases h6 : c = 45
  · subst h6; decide
  by_cases h7 : c = 42
  · subst h7; decide
  by_cases h8 : c = 59
  · subst h8; decide
  have n : ∀ a : Int32, ¬ c = a → ¬ a = c := fun a h e => h e.symm
  simp [h1, h2, h3, h4, h5, h6, h7, h8, n _ h1, n _ h2, n _ h3, n _ h4, n _ h5, n _ h6, n _ h7, n _ h8]
set_option maxRecDepth 100000 in
set_option maxHeartbeats 4000000 in
theorem l_Latin_indexOfChar {P : Option Value → zW → Prop} (x c : Int32) (d : Nat) (w : zW) : ∀ m, m ≤ 8 → P (some (.int (sgIx c m))) w → zS 0 0 d m_Latin_indexOfChar P 7 [(0, .ref 1000023), (1, .int x), (2, .int 0), (3, .int 8), (4, .int c), (5, .int (nI (8 - m)))] [] w := by
  intro m
  induction m with
  | zero =>
    intro hm hP
    refine z_iload (pc := 7) (i := 5) (j := 5) rfl rfl ?_
    refine z_iload_n (pc := 9) (i := 3) (j := 3) rfl rfl rfl ?_
    refine z_icmp_ge (pc := 10) (tgt := 31) rfl (by decide) (fun h10 => ?_) (fun h10 => absurd (by decide) h10)
    refine z_iconst (pc := 31) (v := (-1)) rfl (by decide) ?_
    exact z_iret (pc := 32) rfl rfl hP
  | succ m ih =>
    intro hm hP
    refine z_iload (pc := 7) (i := 5) (j := 5) rfl rfl ?_
    refine z_iload_n (pc := 9) (i := 3) (j := 3) rfl rfl rfl ?_
    refine z_icmp_ge (pc := 10) (tgt := 31) rfl (by decide) (fun h10 => absurd h10 (nI_ge (b := 8) (by omega) (by decide))) (fun h10 => ?_)
    refine z_aload_n (pc := 13) (i := 0) (j := 0) rfl rfl rfl ?_
    refine z_iload (pc := 14) (i := 5) (j := 5) rfl rfl ?_
    refine z_tB (pc := 16) rfl (vp_in_nI (by omega) (by decide)) ?_
    refine z_eqi (y := zkB.getD (7 - m) 0) (by rw [nI_clamp (by omega), show 8 - (m + 1) = 7 - m by omega]) ?_
    refine z_iload (pc := 17) (i := 4) (j := 4) rfl rfl ?_
    refine z_icmp_ne (pc := 19) (tgt := 25) rfl (by decide) (fun h19 => ?_) (fun h19 => ?_)
    · refine z_iinc (pc := 25) (i := 5) (j := 5) (v := nI (8 - m)) (ls' := [(0, .ref 1000023), (1, .int x), (2, .int 0), (3, .int 8), (4, .int c), (5, .int (nI (8 - m)))]) rfl rfl (by rw [show 8 - m = (8 - (m + 1)) + 1 by omega]; exact nI_1 _) (by decide) rfl ?_
      refine z_goto (pc := 28) (tgt := 7) rfl (by decide) ?_
      refine ih (by omega) ?_
      have e : sgIx c (m + 1) = sgIx c m := by show (if _ then _ else _) = _; rw [if_neg h19]
      rw [← e]; exact hP
    · refine z_iload (pc := 22) (i := 5) (j := 5) rfl rfl ?_
      refine z_iret (pc := 24) rfl rfl ?_
      have e : sgIx c (m + 1) = nI (8 - (m + 1)) := by show (if _ then _ else _) = _; rw [if_pos h19, show 8 - (m + 1) = 7 - m by omega]
      rw [← e]; exact hP
set_option maxRecDepth 100000 in
set_option maxHeartbeats 4000000 in
theorem c_Latin_indexOfChar (x : Int32) (d : Nat) (w : zW) : zS 0 0 d m_Latin_indexOfChar (fun rv w1 => rv = some (.int (sgIx x.toInt8.toInt32 8)) ∧ w1 = w) 0 [(0, .ref 1000023), (1, .int x), (2, .int 0), (3, .int 8)] [] w := by
  refine z_iload_n (pc := 0) (i := 1) (j := 1) rfl rfl rfl ?_
  refine z_i2b (pc := 1) rfl ?_
  refine z_istore (pc := 2) (i := 4) (ls' := [(0, .ref 1000023), (1, .int x), (2, .int 0), (3, .int 8), (4, .int x.toInt8.toInt32)]) rfl (by decide) rfl ?_
  refine z_iload_n (pc := 4) (i := 2) (j := 2) rfl rfl rfl ?_
  refine z_istore (pc := 5) (i := 5) (ls' := [(0, .ref 1000023), (1, .int x), (2, .int 0), (3, .int 8), (4, .int x.toInt8.toInt32), (5, .int 0)]) rfl (by decide) rfl ?_
  exact l_Latin_indexOfChar x _ d w 8 (Nat.le_refl _) ⟨rfl, rfl⟩
set_option maxRecDepth 100000 in
set_option maxHeartbeats 4000000 in
theorem c_Latin_indexOf (x : Int32) (hx : (if x < 0 then 0 else (if 255 < x then 0 else 1) : Int32) = 1) (d : Nat) (hd : 1 ≤ d) (w : zW) : zS 0 0 d m_Latin_indexOf (fun rv w1 => rv = some (.int (sgIx x.toInt8.toInt32 8)) ∧ w1 = w) 0 [(0, .ref 1000023), (1, .int x), (2, .int 0), (3, .int 8)] [] w := by
  refine z_iload_n (pc := 0) (i := 1) (j := 1) rfl rfl rfl ?_
  refine z_cS (pc := 1) (mc1 := 0) (ms1 := 0) (mc2 := 0) (ms2 := 0) (as := [.int x]) (rest := []) ok_Latin_canEncode rfl rfl cl_Latin_88 (by omega) (Nat.le_of_ble_eq_true rfl) (Nat.le_of_ble_eq_true rfl) (Nat.le_refl _) (Nat.le_refl _) (c_Latin_canEncode x 0 _) (fun r1 w1 hp => ?_) rfl rfl
  obtain ⟨rfl, hw1⟩ := hp
  rw [hw1]
  refine ⟨⟨Nat.le_refl _, Or.inl rfl⟩, ?_⟩
  refine z_if_ne (pc := 4) (tgt := 9) rfl (by decide) (fun h => ?_) (fun h => absurd (hx.symm.trans h) (by decide))
  refine z_iload_n (pc := 9) (i := 2) (j := 2) rfl rfl rfl ?_
  refine z_iconst (pc := 10) (v := 0) rfl (by decide) ?_
  refine z_mmax (pc := 11) rfl ml_Latin_92 (by omega) (Nat.le_of_ble_eq_true rfl) ?_
  refine z_eqi (y := 0) (by decide) ?_
  refine z_istore_n (pc := 14) (i := 2) (ls' := [(0, .ref 1000023), (1, .int x), (2, .int 0), (3, .int 8)]) rfl rfl (by decide) rfl ?_
  refine z_iload_n (pc := 15) (i := 3) (j := 3) rfl rfl rfl ?_
  refine z_aload_n (pc := 16) (i := 0) (j := 0) rfl rfl rfl ?_
  refine z_tBl (pc := 17) rfl ?_
  refine z_mmin (pc := 18) rfl ml_Latin_38 (by omega) (Nat.le_of_ble_eq_true rfl) ?_
  refine z_eqi (y := 8) (by decide) ?_
  refine z_istore_n (pc := 21) (i := 3) (ls' := [(0, .ref 1000023), (1, .int x), (2, .int 0), (3, .int 8)]) rfl rfl (by decide) rfl ?_
  refine z_iload_n (pc := 22) (i := 2) (j := 2) rfl rfl rfl ?_
  refine z_iload_n (pc := 23) (i := 3) (j := 3) rfl rfl rfl ?_
  refine z_icmp_lt (pc := 24) (tgt := 29) rfl (by decide) (fun h => ?_) (fun h => absurd (by decide) h)
  refine z_aload_n (pc := 29) (i := 0) (j := 0) rfl rfl rfl ?_
  refine z_iload_n (pc := 30) (i := 1) (j := 1) rfl rfl rfl ?_
  refine z_iload_n (pc := 31) (i := 2) (j := 2) rfl rfl rfl ?_
  refine z_iload_n (pc := 32) (i := 3) (j := 3) rfl rfl rfl ?_
  refine z_cS (pc := 33) (mc1 := 0) (ms1 := 0) (mc2 := 0) (ms2 := 0) (as := [.ref 1000023, .int x, .int 0, .int 8]) (rest := []) ok_Latin_indexOfChar rfl rfl cl_Latin_95 (by omega) (Nat.le_of_ble_eq_true rfl) (Nat.le_of_ble_eq_true rfl) (Nat.le_refl _) (Nat.le_refl _) (c_Latin_indexOfChar x 0 _) (fun r1 w1 hp => ?_) rfl rfl
  obtain ⟨rfl, hw1⟩ := hp
  rw [hw1]
  refine ⟨⟨Nat.le_refl _, Or.inl rfl⟩, ?_⟩
  exact z_iret (pc := 36) rfl rfl ⟨rfl, rfl⟩
set_option maxRecDepth 100000 in
set_option maxHeartbeats 4000000 in
theorem c_String_indexOf2 (x : Int32) (hx : (if x < 0 then 0 else (if 255 < x then 0 else 1) : Int32) = 1) (d : Nat) (hd : 2 ≤ d) (w : zW) : zS 0 0 d m_String_indexOf2 (fun rv w1 => rv = some (.int (sgIx x.toInt8.toInt32 8)) ∧ w1 = w) 0 [(0, .ref 1000022), (1, .int x), (2, .int 0)] [] w := by
  refine z_aload_n (pc := 0) (i := 0) (j := 0) rfl rfl rfl ?_
  refine z_cK (pc := 1) (mc1 := 0) (ms1 := 0) (mc2 := 0) (ms2 := 0) (as := []) (rest := []) rfl ok_String_isLatin1 rfl rfl cl_String_492 (by omega) (Nat.le_of_ble_eq_true rfl) (Nat.le_of_ble_eq_true rfl) (Nat.le_refl _) (Nat.le_refl _) (c_String_isLatin1 0 _) (fun r1 w1 hp => ?_) rfl rfl
  obtain ⟨rfl, hw1⟩ := hp
  rw [hw1]
  refine ⟨⟨Nat.le_refl _, Or.inl rfl⟩, ?_⟩
  refine z_if_eq (pc := 4) (tgt := 23) rfl (by decide) (fun h => absurd h (by decide)) (fun h => ?_)
  refine z_aload_n (pc := 7) (i := 0) (j := 0) rfl rfl rfl ?_
  refine z_sval (pc := 8) rfl gl_String_9 ?_
  refine z_iload_n (pc := 11) (i := 1) (j := 1) rfl rfl rfl ?_
  refine z_iload_n (pc := 12) (i := 2) (j := 2) rfl rfl rfl ?_
  refine z_aload_n (pc := 13) (i := 0) (j := 0) rfl rfl rfl ?_
  refine z_cK (pc := 14) (mc1 := 0) (ms1 := 0) (mc2 := 0) (ms2 := 0) (as := []) (rest := [.int 0, .int x, .ref 1000023]) rfl ok_String_length rfl rfl cl_String_505 (by omega) (Nat.le_of_ble_eq_true rfl) (Nat.le_of_ble_eq_true rfl) (Nat.le_refl _) (Nat.le_refl _) (c_String_length 1 (by decide) _) (fun r1 w1 hp => ?_) rfl rfl
  obtain ⟨rfl, hw1⟩ := hp
  rw [hw1]
  refine ⟨⟨Nat.le_refl _, Or.inl rfl⟩, ?_⟩
  refine z_cS (pc := 17) (mc1 := 0) (ms1 := 0) (mc2 := 0) (ms2 := 0) (as := [.ref 1000023, .int x, .int 0, .int 8]) (rest := []) ok_Latin_indexOf rfl rfl cl_String_637 (by omega) (Nat.le_of_ble_eq_true rfl) (Nat.le_of_ble_eq_true rfl) (Nat.le_refl _) (Nat.le_refl _) (c_Latin_indexOf x hx 1 (by decide) _) (fun r1 w1 hp => ?_) rfl rfl
  obtain ⟨rfl, hw1⟩ := hp
  rw [hw1]
  refine ⟨⟨Nat.le_refl _, Or.inl rfl⟩, ?_⟩
  refine z_goto (pc := 20) (tgt := 36) rfl (by decide) ?_
  exact z_iret (pc := 36) rfl rfl ⟨rfl, rfl⟩
set_option maxRecDepth 100000 in
set_option maxHeartbeats 4000000 in
theorem c_String_indexOf (x : Int32) (hx : (if x < 0 then 0 else (if 255 < x then 0 else 1) : Int32) = 1) (d : Nat) (hd : 3 ≤ d) (w : zW) : zS 0 0 d m_String_indexOf (fun rv w1 => rv = some (.int (sgIx x.toInt8.toInt32 8)) ∧ w1 = w) 0 [(0, .ref 1000022), (1, .int x)] [] w := by
  refine z_aload_n (pc := 0) (i := 0) (j := 0) rfl rfl rfl ?_
  refine z_iload_n (pc := 1) (i := 1) (j := 1) rfl rfl rfl ?_
  refine z_iconst (pc := 2) (v := 0) rfl (by decide) ?_
  refine z_cK (pc := 3) (mc1 := 0) (ms1 := 0) (mc2 := 0) (ms2 := 0) (as := [.int x, .int 0]) (rest := []) rfl ok_String_indexOf2 rfl rfl cl_String_633 (by omega) (Nat.le_of_ble_eq_true rfl) (Nat.le_of_ble_eq_true rfl) (Nat.le_refl _) (Nat.le_refl _) (c_String_indexOf2 x hx 2 (by decide) _) (fun r1 w1 hp => ?_) rfl rfl
  obtain ⟨rfl, hw1⟩ := hp
  rw [hw1]
  refine ⟨⟨Nat.le_refl _, Or.inl rfl⟩, ?_⟩
  exact z_iret (pc := 6) rfl rfl ⟨rfl, rfl⟩
/-- the word of a key, among the last m -/
def wOfA (g : Int64) : Nat → Option Nat
  | 0 => none
  | m + 1 => if zkK.getD (18 - m) 0 = g then some (1000000 + (18 - m)) else wOfA g m
def wOf (g : Int64) : Option Nat := wOfA g 19
set_option maxRecDepth 100000 in
set_option maxHeartbeats 4000000 in
theorem l_Word_ofKey {P : Option Value → zW → Prop} (g : Int64) (d : Nat) (w : zW) : ∀ m, m ≤ 19 → P (some (va_rf (wOfA g m))) w → zS 0 0 d m_Word_ofKey P 2 [(0, .long g), (2, .int (nI (19 - m)))] [] w := by
  intro m
  induction m with
  | zero =>
    intro hm hP
    refine z_iload_n (pc := 2) (i := 2) (j := 1) rfl rfl rfl ?_
    refine z_gets (pc := 3) (C0 := "SmokeWeds$Word") (n1 := "ALL") (d1 := "[LSmokeWeds$Word;") (v := .ref 1000021) rfl (by simp [zkZ]) gl_Word_108 ?_
    refine z_tAl (pc := 6) rfl ?_
    refine z_icmp_ge (pc := 7) (tgt := 35) rfl (by decide) (fun h7 => ?_) (fun h7 => absurd (by decide) h7)
    refine z_null (pc := 35) rfl ?_
    exact z_aretN (pc := 36) rfl rfl hP
  | succ m ih =>
    intro hm hP
    refine z_iload_n (pc := 2) (i := 2) (j := 1) rfl rfl rfl ?_
    refine z_gets (pc := 3) (C0 := "SmokeWeds$Word") (n1 := "ALL") (d1 := "[LSmokeWeds$Word;") (v := .ref 1000021) rfl (by simp [zkZ]) gl_Word_108 ?_
    refine z_tAl (pc := 6) rfl ?_
    refine z_icmp_ge (pc := 7) (tgt := 35) rfl (by decide) (fun h7 => absurd h7 (nI_ge (b := 19) (by omega) (by decide))) (fun h7 => ?_)
    refine z_gets (pc := 10) (C0 := "SmokeWeds$Word") (n1 := "ALL") (d1 := "[LSmokeWeds$Word;") (v := .ref 1000021) rfl (by simp [zkZ]) gl_Word_108 ?_
    refine z_iload_n (pc := 13) (i := 2) (j := 1) rfl rfl rfl ?_
    refine z_tA (pc := 14) rfl (vp_in_nI (by omega) (by decide)) ?_
    rw [nI_clamp (n := 19 - (m + 1)) (by omega), show 19 - (m + 1) = 18 - m by omega]
    refine z_kget (pc := 15) (i := 18 - m) (n1 := "key") (d1 := "J") (f := fun k => .long (zkK.getD k 0)) rfl (by simp [zkF]) (by omega) gl_Word_96 (fun _ => rfl) ?_
    refine z_lload_n (pc := 18) (i := 0) (j := 0) rfl rfl rfl ?_
    refine z_lcmp (pc := 19) rfl ?_
    refine z_if_ne (pc := 20) (tgt := 29) rfl (by decide) (fun h20 => ?_) (fun h20 => ?_)
    · refine z_iinc (pc := 29) (i := 2) (j := 1) (v := nI (19 - m)) (ls' := [(0, .long g), (2, .int (nI (19 - m)))]) rfl rfl (by rw [show 19 - m = (18 - m) + 1 by omega]; exact nI_1 _) (by decide) rfl ?_
      refine z_goto (pc := 32) (tgt := 2) rfl (by decide) ?_
      refine ih (by omega) ?_
      have e : wOfA g (m + 1) = wOfA g m := by show (if _ then _ else _) = _; rw [if_neg (fun h => h20 ((lg_cmp_eq _ _).mpr h))]
      rw [← e]; exact hP
    · refine z_gets (pc := 23) (C0 := "SmokeWeds$Word") (n1 := "ALL") (d1 := "[LSmokeWeds$Word;") (v := .ref 1000021) rfl (by simp [zkZ]) gl_Word_108 ?_
      refine z_iload_n (pc := 26) (i := 2) (j := 1) rfl rfl rfl ?_
      refine z_tA (pc := 27) rfl (vp_in_nI (by omega) (by decide)) ?_
      rw [nI_clamp (n := 18 - m) (by omega)]
      refine z_aret (pc := 28) rfl rfl ?_
      have e : wOfA g (m + 1) = some (1000000 + (18 - m)) := by show (if _ then _ else _) = _; rw [if_pos ((lg_cmp_eq _ _).mp h20)]
      rw [e] at hP; exact hP
set_option maxRecDepth 100000 in
set_option maxHeartbeats 4000000 in
theorem c_Word_ofKey (g : Int64) (d : Nat) (w : zW) : zS 0 0 d m_Word_ofKey (fun rv w1 => rv = some (va_rf (wOf g)) ∧ w1 = w) 0 [(0, .long g)] [] w := by
  refine z_iconst (pc := 0) (v := 0) rfl (by decide) ?_
  refine z_istore_n (pc := 1) (i := 2) (ls' := [(0, .long g), (2, .int 0)]) rfl rfl (by decide) rfl ?_
  exact l_Word_ofKey g d w 19 (Nat.le_refl _) ⟨rfl, rfl⟩
