/-! THE CONSTANTS OF THE START -/
def kcNm : List String := ["FIELD", "WIND", "PLUME", "COLD", "TURNS", "HOUSE", "AT", "HIGH", "DRY_STUFF", "WET_STUFF", "PEAT_STUFF", "LEAN_STUFF", "OIL_STUFF", "NOT", "AND", "OR", "HOUR", "DAYS", "WAY"]
def kcW (i : Nat) : Term := .static "SmokeWeds$Word" (kcNm.getD i "") "LSmokeWeds$Word;"
def kcNB : List Cond := flatC (Jvm.Cond.and given_1 narrow_1)
theorem kc_ex : ∀ i : Fin 19, Cond.exactly (kcW i) "SmokeWeds$Word" ∈ kcNB := by decide +kernel
theorem kc_key : ∀ i : Fin 19, Cond.eq (.field (kcW i) "SmokeWeds$Word" "key" "J") (.long (zkK.getD i 0)) ∈ kcNB := by decide +kernel
theorem kc_res : ∀ i : Fin 19, Cond.eq (.field (kcW i) "SmokeWeds$Word" "reserved" "Z") (.int (zkr.getD i 0)) ∈ kcNB := by decide +kernel
theorem kc_knd : ∀ i : Fin 19, Cond.eq (.field (kcW i) "SmokeWeds$Word" "kind" "I") (.int (zkk.getD i 0)) ∈ kcNB := by decide +kernel
theorem kc_all : ∀ i : Fin 19, Cond.eq (.elem (.static "SmokeWeds$Word" "ALL" "[LSmokeWeds$Word;") (.int (Int32.ofNat i))) (kcW i) ∈ kcNB := by decide +kernel
theorem kc_all1 : Cond.arrayOf (.static "SmokeWeds$Word" "ALL" "[LSmokeWeds$Word;") (.object "SmokeWeds$Word") ∈ kcNB := by decide +kernel
theorem kc_all2 : Cond.eq (.length (.static "SmokeWeds$Word" "ALL" "[LSmokeWeds$Word;")) (.int (Int32.ofNat 19)) ∈ kcNB := by decide +kernel
def kcF (c : Cond) : Option (String × String) := match c with
  | .not (.eq (.static C a d) (.static C2 b d2)) => if C = "SmokeWeds$Word" ∧ d = "LSmokeWeds$Word;" ∧ C2 = "SmokeWeds$Word" ∧ d2 = "LSmokeWeds$Word;" then some (a, b) else none
  | _ => none
def kcQ : List (Nat × Nat) := [(0, 1), (0, 16), (1, 16), (0, 17), (1, 17), (16, 17), (0, 7), (1, 7), (16, 7), (17, 7), (0, 18), (1, 18), (16, 18), (17, 18), (7, 18), (0, 13), (1, 13), (16, 13), (17, 13), (7, 13), (18, 13), (0, 14), (1, 14), (16, 14), (17, 14), (7, 14), (18, 14), (13, 14), (0, 15), (1, 15), (16, 15), (17, 15), (7, 15), (18, 15), (13, 15), (14, 15), (0, 2), (1, 2), (16, 2), (17, 2), (7, 2), (18, 2), (13, 2), (14, 2), (15, 2), (0, 3), (1, 3), (16, 3), (17, 3), (7, 3), (18, 3), (13, 3), (14, 3), (15, 3), (2, 3), (0, 4), (1, 4), (16, 4), (17, 4), (7, 4), (18, 4), (13, 4), (14, 4), (15, 4), (2, 4), (3, 4), (0, 5), (1, 5), (16, 5), (17, 5), (7, 5), (18, 5), (13, 5), (14, 5), (15, 5), (2, 5), (3, 5), (4, 5), (0, 6), (1, 6), (16, 6), (17, 6), (7, 6), (18, 6), (13, 6), (14, 6), (15, 6), (2, 6), (3, 6), (4, 6), (5, 6), (0, 8), (1, 8), (16, 8), (17, 8), (7, 8), (18, 8), (13, 8), (14, 8), (15, 8), (2, 8), (3, 8), (4, 8), (5, 8), (6, 8), (0, 9), (1, 9), (16, 9), (17, 9), (7, 9), (18, 9), (13, 9), (14, 9), (15, 9), (2, 9), (3, 9), (4, 9), (5, 9), (6, 9), (8, 9), (0, 10), (1, 10), (16, 10), (17, 10), (7, 10), (18, 10), (13, 10), (14, 10), (15, 10), (2, 10), (3, 10), (4, 10), (5, 10), (6, 10), (8, 10), (9, 10), (0, 11), (1, 11), (16, 11), (17, 11), (7, 11), (18, 11), (13, 11), (14, 11), (15, 11), (2, 11), (3, 11), (4, 11), (5, 11), (6, 11), (8, 11), (9, 11), (10, 11), (0, 12), (1, 12), (16, 12), (17, 12), (7, 12), (18, 12), (13, 12), (14, 12), (15, 12), (2, 12), (3, 12), (4, 12), (5, 12), (6, 12), (8, 12), (9, 12), (10, 12), (11, 12)]
theorem kc_pr : kcNB.filterMap kcF = kcQ.map (fun q => (kcNm.getD q.1 "", kcNm.getD q.2 "")) := by decide +kernel
theorem kc_q : ∀ i j : Fin 19, i ≠ j → ((i.1, j.1) ∈ kcQ ∨ (j.1, i.1) ∈ kcQ) := by decide +kernel
theorem kc_in {a b : String} (h : (a, b) ∈ kcNB.filterMap kcF) : Cond.not (.eq (.static "SmokeWeds$Word" a "LSmokeWeds$Word;") (.static "SmokeWeds$Word" b "LSmokeWeds$Word;")) ∈ kcNB := by
  obtain ⟨c, hc, e⟩ := List.mem_filterMap.mp h
  unfold kcF at e
  split at e
  · split at e
    · rename_i z
      obtain ⟨z1, z2, z3, z4⟩ := z
      cases e
      rw [← z1, ← z2]
      rw [← z1] at z3
      rw [← z2] at z4
      subst z3 z4
      exact hc
    · cases e
  · cases e
theorem kc_ne {i j : Nat} (h : (i, j) ∈ kcQ) : Cond.not (.eq (kcW i) (kcW j)) ∈ kcNB := kc_in (by
  rw [kc_pr]
  exact List.mem_map.mpr ⟨(i, j), h, rfl⟩)
theorem kc_E1 : Cond.arrayOf (.static "SmokeWeds" "EASTWARD" "[I") .int ∈ kcNB := by decide +kernel
theorem kc_E2 : Cond.eq (.length (.static "SmokeWeds" "EASTWARD" "[I")) (.int (Int32.ofNat 8)) ∈ kcNB := by decide +kernel
theorem kc_E3 : ∀ j : Fin 8, Cond.eq (.elem (.static "SmokeWeds" "EASTWARD" "[I") (.int (Int32.ofNat j))) (.int (zkE.getD j 0)) ∈ kcNB := by decide +kernel
theorem kc_S1 : Cond.arrayOf (.static "SmokeWeds" "SOUTHWARD" "[I") .int ∈ kcNB := by decide +kernel
theorem kc_S2 : Cond.eq (.length (.static "SmokeWeds" "SOUTHWARD" "[I")) (.int (Int32.ofNat 8)) ∈ kcNB := by decide +kernel
theorem kc_S3 : ∀ j : Fin 8, Cond.eq (.elem (.static "SmokeWeds" "SOUTHWARD" "[I") (.int (Int32.ofNat j))) (.int (zkS.getD j 0)) ∈ kcNB := by decide +kernel
theorem kc_C : Cond.eq (.static "java/lang/String" "COMPACT_STRINGS" "Z") (.int 1) ∈ kcNB := by decide +kernel
abbrev kcT : Term := .string "SmokeWeds$Reader" 250
theorem kc_K1 : Cond.exactly kcT "java/lang/String" ∈ kcNB := by decide +kernel
theorem kc_K2 : Cond.eq (.field kcT "java/lang/String" "coder" "B") (.int 0) ∈ kcNB := by decide +kernel
theorem kc_K3 : Cond.arrayOf (.field kcT "java/lang/String" "value" "[B") .byte ∈ kcNB := by decide +kernel
theorem kc_K4 : Cond.eq (.length (.field kcT "java/lang/String" "value" "[B")) (.int (Int32.ofNat 8)) ∈ kcNB := by decide +kernel
theorem kc_K5 : ∀ j : Fin 8, Cond.eq (.elem (.field kcT "java/lang/String" "value" "[B") (.int (Int32.ofNat j))) (.int (zkB.getD j 0)) ∈ kcNB := by decide +kernel
theorem kc_K6 : Cond.stringRef "SmokeWeds$Reader" 250 "()<=+-*;" ∈ lw_tbl := by decide +kernel
theorem kc_Z : ∀ q ∈ zkZ, Cond.laysStatic q.1 q.2.1 q.2.2.1 ∈ lw_tbl ∧ Cond.initialized q.1 ∈ lw_tbl := by decide +kernel
theorem kc_M : ∀ q ∈ zkNM, Cond.methodLinkNest q.1 q.2.1 q.2.2.1 q.2.2.2 ∈ lw_tbl := by decide +kernel
theorem kc_F : ∀ q ∈ zkNF, Cond.fieldLinkNest q.1 q.2.1 q.2.2.1 q.2.2.2.1 q.2.2.2.2.1 q.2.2.2.2.2 ∈ lw_tbl := by decide +kernel
theorem kc_AO : Cond.arrayOver (.object RX2) ∈ lw_tbl := by decide +kernel
theorem kK {s : State} {args : Array Value} (hts : ∀ v ∈ zT, v.before args s = true) (hov : (Cond.arrayOver (.object RX2)).before args s = true) : ∃ (D : va_G) (cA : Nat → ClassId), va_K D zcl (ztys cA) s := by
  obtain ⟨c0, i0, k0⟩ := u_known (C := RX0) (T := TX0) (N := 3) (n := 3) hts zin0 (hts (.instantiable RX0 3) (by decide +kernel))
  obtain ⟨c1, i1, k1⟩ := u_known (C := RX1) (T := TX1) (N := 13) (n := 13) hts zin1 (hts (.instantiable RX1 13) (by decide +kernel))
  obtain ⟨c2, i2, k2⟩ := u_known (C := RX2) (T := TX2) (N := 2) (n := 2) hts zin2 (hts (.instantiable RX2 2) (by decide +kernel))
  obtain ⟨c3, i3, k3⟩ := u_known (C := RX3) (T := TX3) (N := 15) (n := 15) hts zin3 (hts (.instantiable RX3 15) (by decide +kernel))
  obtain ⟨c4, i4, k4⟩ := u_known (C := RX4) (T := TX4) (N := 4) (n := 4) hts zin4 (hts (.instantiable RX4 4) (by decide +kernel))
  obtain ⟨c5, i5, k5⟩ := u_known (C := RX5) (T := TX5) (N := 12) (n := 12) hts zin5 (hts (.instantiable RX5 12) (by decide +kernel))
  obtain ⟨c6, i6, k6⟩ := u_known (C := RX6) (T := TX6) (N := 2) (n := 2) hts zin6 (hts (.instantiable RX6 2) (by decide +kernel))
  obtain ⟨c7, i7, k7⟩ := u_known (C := RX8) (T := TX8) (N := 7) (n := 7) hts zin7 (hts (.instantiable RX8 7) (by decide +kernel))
  obtain ⟨c8, i8, k8⟩ := u_known (C := RX9) (T := TX9) (N := 43) (n := 43) hts zin8 (hts (.instantiable RX9 43) (by decide +kernel))
  obtain ⟨dC, dI, hKc⟩ : ∃ (dC : Nat → ClassId) (dI : Nat → Nat → Nat), ∀ (k : Nat) (q : vw_C), zcl[k]? = some q → u_Kn s q.1 q.2.1 q.2.2 (dC k) (dI k) := by
    refine ⟨fun k => match k with | 0 => c0 | 1 => c1 | 2 => c2 | 3 => c3 | 4 => c4 | 5 => c5 | 6 => c6 | 7 => c7 | _ => c8, fun k => match k with | 0 => i0 | 1 => i1 | 2 => i2 | 3 => i3 | 4 => i4 | 5 => i5 | 6 => i6 | 7 => i7 | _ => i8, ?_⟩
    intro k q hq
    match k, hq with
    | 0, hq => cases hq; exact k0
    | 1, hq => cases hq; exact k1
    | 2, hq => cases hq; exact k2
    | 3, hq => cases hq; exact k3
    | 4, hq => cases hq; exact k4
    | 5, hq => cases hq; exact k5
    | 6, hq => cases hq; exact k6
    | 7, hq => cases hq; exact k7
    | 8, hq => cases hq; exact k8
    | k + 9, hq => simp [zcl] at hq
  obtain ⟨a0, ka0, co0, f0, g0, h0⟩ := Cond.arrayClass_spec (hts _ ac_byte)
  obtain ⟨a1, ka1, co1, f1, g1, h1⟩ := Cond.arrayClass_spec (hts _ ac_int)
  obtain ⟨a2, ka2, co2, f2, g2, h2⟩ := Cond.arrayClass_spec (hts _ ac_long)
  obtain ⟨a3, ka3, co3, f3, g3, h3⟩ := Cond.arrayClass_spec (hts _ ac_boolean)
  obtain ⟨co4, a4, ka4, n4, -, g4, h4, f4⟩ := Cond.arrayOver_spec hov
  refine ⟨(dC, dI), fun k => match k with | 9 => a0 | 10 => a1 | 11 => a2 | 12 => a3 | _ => a4, hKc, ?_⟩
  intro k q hq
  match k, hq with
  | 0, hq => cases hq; exact ⟨fun n z => ⟨fun k h => (by cases h), ka0, g0, co0, h0⟩, f0⟩
  | 1, hq => cases hq; exact ⟨fun n z => ⟨fun k h => (by cases h), ka1, g1, co1, h1⟩, f1⟩
  | 2, hq => cases hq; exact ⟨fun n z => ⟨fun k h => (by cases h), ka2, g2, co2, h2⟩, f2⟩
  | 3, hq => cases hq; exact ⟨fun n z => ⟨fun k h => (by cases h), ka3, g3, co3, h3⟩, f3⟩
  | 4, hq => cases hq; exact ⟨fun n z => ⟨fun k h => (by cases h), ka4, g4, co4, h4⟩, ka4, co4, g4, h4, n4, f4⟩
  | k + 5, hq => simp [ztys] at hq
theorem va_T_f {ty : FieldType} {t N : Nat} {f g : Nat → Value} {A : Nat → Prop} {U : State} {H : Heap} (h : va_T ty t N f A U H) (e : ∀ j, j < N → f j = g j) : va_T ty t N g A U H := by
  obtain ⟨cell, h1, h2, h3, h4, h5, h6, h7⟩ := h
  exact ⟨cell, h1, h2, h3, h4, h5, fun j hj => by rw [← e j hj]; exact h6 j hj, h7⟩
def kAd (aw : Nat → Nat) (aE aS aA aK aV b : Nat) : Nat → Nat := fun n => if n < 1000019 then aw (n - 1000000) else if n = 1000019 then aE else if n = 1000020 then aS else if n = 1000021 then aA else if n = 1000022 then aK else if n = 1000023 then aV else b
theorem kAd_w {aw : Nat → Nat} {aE aS aA aK aV b i : Nat} (hi : i < 19) : kAd aw aE aS aA aK aV b (1000000 + i) = aw i := by
  unfold kAd
  rw [if_pos (by omega), Nat.add_sub_cancel_left]
theorem kAd_r (aw : Nat → Nat) (aE aS aA aK aV b : Nat) : kAd aw aE aS aA aK aV b 1000019 = aE ∧ kAd aw aE aS aA aK aV b 1000020 = aS ∧ kAd aw aE aS aA aK aV b 1000021 = aA ∧ kAd aw aE aS aA aK aV b 1000022 = aK ∧ kAd aw aE aS aA aK aV b 1000023 = aV ∧ kAd aw aE aS aA aK aV b 1000030 = b := by
  unfold kAd
  refine ⟨?_, ?_, ?_, ?_, ?_, ?_⟩ <;> simp
theorem kKC {args : Array Value} {s : State} (hall : ∀ v ∈ lw_tbl, v.before args s = true) (hgv : (Jvm.Cond.and given_1 narrow_1).before args s = true) (b : Nat) : ∃ ad0 : Nat → Nat, zKC s.heap.size ad0 s s.heap ∧ ad0 1000030 = b := by
  have hfl : ∀ v ∈ kcNB, v.before args s = true := flat_of_before _ hgv
  have hno : ∀ a : Nat, a < s.heap.size → ¬ zA s.heap.size a := fun a h1 h2 => Nat.lt_irrefl _ (Nat.lt_of_lt_of_le h1 h2)
  have h0 : ∀ i : Nat, ∃ t : Nat, i < 19 → (kcW i).eval args s none [] s = some (.ref t) := by
    intro i
    by_cases hi : i < 19
    · obtain ⟨a, c, cell, k, q1, -⟩ := Cond.exactly_spec (hfl _ (kc_ex ⟨i, hi⟩))
      exact ⟨a, fun _ => q1⟩
    · exact ⟨0, fun h => absurd h hi⟩
  obtain ⟨aw, haw⟩ := Classical.axiomOfChoice h0
  obtain ⟨aE, eE, tE⟩ := va_Tof (A := zA s.heap.size) (f := fun k => .int (zkE.getD k 0)) (N := 8) (by decide) (hfl _ kc_E1) (va_eqt (hfl _ kc_E2)) (fun j hj => va_eqt (hfl _ (kc_E3 ⟨j, hj⟩))) hno
  obtain ⟨aS, eS, tS⟩ := va_Tof (A := zA s.heap.size) (f := fun k => .int (zkS.getD k 0)) (N := 8) (by decide) (hfl _ kc_S1) (va_eqt (hfl _ kc_S2)) (fun j hj => va_eqt (hfl _ (kc_S3 ⟨j, hj⟩))) hno
  obtain ⟨aA, eA, tA⟩ := va_Tof (A := zA s.heap.size) (f := fun k => .ref (aw k)) (N := 19) (by decide) (hfl _ kc_all1) (va_eqt (hfl _ kc_all2)) (fun j hj => by
    obtain ⟨y, y1, y2⟩ := Cond.eq_one (hfl _ (kc_all ⟨j, hj⟩))
    rw [← haw j hj]
    exact y1.trans y2.symm) hno
  obtain ⟨aK, -, -, -, eK, -⟩ := Cond.exactly_spec (hfl _ kc_K1)
  obtain ⟨aV, eV, tV⟩ := va_Tof (A := zA s.heap.size) (f := fun k => .int (zkB.getD k 0)) (N := 8) (by decide) (hfl _ kc_K3) (va_eqt (hfl _ kc_K4)) (fun j hj => va_eqt (hfl _ (kc_K5 ⟨j, hj⟩))) hno
  obtain ⟨r1, r2, r3, r4, r5, r6⟩ := kAd_r aw aE aS aA aK aV b
  have rw_ : ∀ i, i < 19 → kAd aw aE aS aA aK aV b (1000000 + i) = aw i := fun i hi => kAd_w hi
  generalize kAd aw aE aS aA aK aV b = ad0 at r1 r2 r3 r4 r5 r6 rw_
  refine ⟨ad0, ⟨fun q hq => ?_, fun q hq => ?_, fun q hq i hi => ?_, fun i j hi hj e => ?_, ⟨?_, ?_, ?_, ?_⟩, fun q hq => va_Nw.of rfl (hall _ (kc_M q hq)), fun q hq => va_Nw.of rfl (hall _ (kc_F q hq)), va_AO.of (hall _ kc_AO)⟩, r6⟩
  · refine va_Zof (hall _ (kc_Z q hq).1) (hall _ (kc_Z q hq).2) ?_ hno
    simp only [zkZ, List.mem_cons, List.not_mem_nil, or_false] at hq
    rcases hq with rfl | rfl | rfl | rfl | rfl | rfl | rfl | rfl | rfl | rfl | rfl | rfl | rfl | rfl | rfl | rfl | rfl | rfl
    · show _ = some (Value.ref (ad0 1000019)); rw [r1]; exact eE
    · show _ = some (Value.ref (ad0 1000020)); rw [r2]; exact eS
    · show _ = some (Value.ref (ad0 1000021)); rw [r3]; exact eA
    · show _ = some (Value.ref (ad0 (1000000 + 0))); rw [rw_ 0 (by decide)]; exact haw 0 (by decide)
    · show _ = some (Value.ref (ad0 (1000000 + 1))); rw [rw_ 1 (by decide)]; exact haw 1 (by decide)
    · show _ = some (Value.ref (ad0 (1000000 + 2))); rw [rw_ 2 (by decide)]; exact haw 2 (by decide)
    · show _ = some (Value.ref (ad0 (1000000 + 3))); rw [rw_ 3 (by decide)]; exact haw 3 (by decide)
    · show _ = some (Value.ref (ad0 (1000000 + 4))); rw [rw_ 4 (by decide)]; exact haw 4 (by decide)
    · show _ = some (Value.ref (ad0 (1000000 + 5))); rw [rw_ 5 (by decide)]; exact haw 5 (by decide)
    · show _ = some (Value.ref (ad0 (1000000 + 6))); rw [rw_ 6 (by decide)]; exact haw 6 (by decide)
    · show _ = some (Value.ref (ad0 (1000000 + 7))); rw [rw_ 7 (by decide)]; exact haw 7 (by decide)
    · show _ = some (Value.ref (ad0 (1000000 + 13))); rw [rw_ 13 (by decide)]; exact haw 13 (by decide)
    · show _ = some (Value.ref (ad0 (1000000 + 14))); rw [rw_ 14 (by decide)]; exact haw 14 (by decide)
    · show _ = some (Value.ref (ad0 (1000000 + 15))); rw [rw_ 15 (by decide)]; exact haw 15 (by decide)
    · show _ = some (Value.ref (ad0 (1000000 + 16))); rw [rw_ 16 (by decide)]; exact haw 16 (by decide)
    · show _ = some (Value.ref (ad0 (1000000 + 17))); rw [rw_ 17 (by decide)]; exact haw 17 (by decide)
    · show _ = some (Value.ref (ad0 (1000000 + 18))); rw [rw_ 18 (by decide)]; exact haw 18 (by decide)
    · exact va_eqt (hfl _ kc_C)
  · simp only [zkT, List.mem_cons, List.not_mem_nil, or_false] at hq
    rcases hq with rfl | rfl | rfl | rfl
    · show va_T .int (ad0 1000019) 8 (fun k => .int (zkE.getD k 0)) _ _ _; rw [r1]; exact tE
    · show va_T .int (ad0 1000020) 8 (fun k => .int (zkS.getD k 0)) _ _ _; rw [r2]; exact tS
    · show va_T (.object "SmokeWeds$Word") (ad0 1000021) 19 (fun k => .ref (ad0 (1000000 + k))) _ _ _
      rw [r3]
      exact va_T_f tA (fun j hj => by rw [rw_ j hj])
    · show va_T .byte (ad0 1000023) 8 (fun k => .int (zkB.getD k 0)) _ _ _; rw [r5]; exact tV
  · rw [rw_ i hi]
    simp only [zkF, List.mem_cons, List.not_mem_nil, or_false] at hq
    rcases hq with rfl | rfl | rfl
    · exact vk_OFof (haw i hi) (va_eqtl (hfl _ (kc_key ⟨i, hi⟩))) hno
    · exact vk_OFof (haw i hi) (va_eqt (hfl _ (kc_res ⟨i, hi⟩))) hno
    · exact vk_OFof (haw i hi) (va_eqt (hfl _ (kc_knd ⟨i, hi⟩))) hno
  · rw [rw_ i hi, rw_ j hj] at e
    by_cases ij : i = j
    · exact ij
    · rcases kc_q ⟨i, hi⟩ ⟨j, hj⟩ (fun z => ij (Fin.mk.inj z)) with h | h
      · exact absurd e (va_neR (hfl _ (kc_ne h)) (haw i hi) (haw j hj))
      · exact absurd e.symm (va_neR (hfl _ (kc_ne h)) (haw j hj) (haw i hi))
  · rw [r4]; exact va_Oof (hfl _ kc_K1) eK hno
  · rw [r4, r5]; exact vk_OFof eK eV hno
  · rw [r4]; exact vk_OFof eK (va_eqt (hfl _ kc_K2)) hno
  · rw [r4]; exact vk_R.of (hall _ kc_K6) eK
