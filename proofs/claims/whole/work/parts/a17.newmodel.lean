/-! A NEW MODEL: cells 44 .. 72 -/
def wM0 : zW := zN wB8 (8, 43)
def wM1 : zW := stp wM0 44 2 (10, 1000)
def wM2 : zW := stp wM1 44 10 (10, 30)
def wM3 : zW := stp wM2 44 11 (11, 8)
def wM4 : zW := stp wM3 44 12 (10, 48)
def wM5 : zW := stp wM4 44 13 (10, 48)
def wM6 : zW := stp wM5 44 14 (10, 48)
def wM7 : zW := stp wM6 44 15 (10, 48)
def wM8 : zW := stp wM7 44 16 (10, 12)
def wM9 : zW := stp wM8 44 17 (10, 12)
def wM10 : zW := stp wM9 44 18 (10, 6000)
def wM11 : zW := stp wM10 44 22 (10, 7)
def wM12 : zW := stp wM11 44 23 (12, 7)
def wM13 : zW := stp wM12 44 24 (10, 7)
def wM14 : zW := stp wM13 44 25 (10, 7)
def wM15 : zW := stp wM14 44 26 (10, 7)
def wM16 : zW := stp wM15 44 27 (10, 7)
def wM17 : zW := stp wM16 44 28 (10, 7)
def wM18 : zW := stp wM17 44 29 (10, 7)
def wM19 : zW := stp wM18 44 30 (10, 7)
def wM20 : zW := stp wM19 44 31 (10, 7)
def wM21 : zW := stp wM20 44 32 (10, 7)
def wM22 : zW := stp wM21 44 33 (10, 20)
def wM23 : zW := stp wM22 44 35 (10, 1344)
def wM24 : zW := stp wM23 44 36 (10, 5376)
def wM25 : zW := stp wM24 44 37 (10, 64)
def wM26 : zW := stp wM25 44 38 (10, 192)
def wM27 : zW := stp wM26 44 39 (10, 8)
def wM28 : zW := stp wM27 44 42 (12, 4)
def wM : zW := zuI wM28 (plain0 (zI wM28))
set_option maxRecDepth 100000 in
set_option maxHeartbeats 1000000 in
theorem wM28_o : zMo wM28 := by
  refine ⟨by decide +kernel, ?_⟩
  decide +kernel
set_option maxRecDepth 100000 in
set_option maxHeartbeats 1000000 in
theorem c_Mod_init0 (d : Nat) (hd : 1 ≤ d) : zS 28 14339 d m_Mod_init (fun rv w1 => rv = none ∧ w1 = wM) 0 [(0, .ref 44)] [] wM0 := by
  refine z_aload_n (pc := 0) (i := 0) (j := 0) rfl rfl rfl ?_
  refine z_obj (pc := 1) rfl ol_Mod_1 (by omega) (Nat.le_of_ble_eq_true rfl) ?_
  refine z_aload_n (pc := 4) (i := 0) (j := 0) rfl rfl rfl ?_
  refine z_sipush (pc := 5) (v := 1000) rfl (by decide) ?_
  refine z_newaI (mc := 27) (ms := 13339) (w := wM0) (pc := 8) (N := 1000) rfl (by decide +kernel) rfl (by decide) (by decide +kernel) (Or.inr ⟨fun q hq => by rw [List.mem_singleton] at hq; subst hq; intro x hx; cases hx; exact Or.inl (by decide +kernel), fun v hv => by rw [List.mem_singleton] at hv; subst hv; intro x hx; cases hx; exact Or.inl (by decide +kernel)⟩) ?_
  change zS _ _ _ _ _ _ [(0, .ref 44)] [.ref 45, .ref 44] (zN wM0 (10, 1000))
  refine z_putRF (pc := 10) rfl fl_Mod_7 (show (zN wM0 (10, 1000)).1[44]? = some (8, 43) by decide +kernel) rfl (Or.inl (by decide +kernel)) rfl (fun q hq => by cases hq; rfl) ?_
  change zS _ _ _ _ _ _ [(0, .ref 44)] [] wM1
  refine z_aload_n (pc := 13) (i := 0) (j := 0) rfl rfl rfl ?_
  refine z_bipush (pc := 14) (v := 30) rfl (by decide) ?_
  refine z_newaI (mc := 26) (ms := 13309) (w := wM1) (pc := 16) (N := 30) rfl (by decide +kernel) rfl (by decide) (by decide +kernel) (Or.inr ⟨fun q hq => by rw [List.mem_singleton] at hq; subst hq; intro x hx; cases hx; exact Or.inl (by decide +kernel), fun v hv => by rw [List.mem_singleton] at hv; subst hv; intro x hx; cases hx; exact Or.inl (by decide +kernel)⟩) ?_
  change zS _ _ _ _ _ _ [(0, .ref 44)] [.ref 46, .ref 44] (zN wM1 (10, 30))
  refine z_putRF (pc := 18) rfl fl_Mod_13 (show (zN wM1 (10, 30)).1[44]? = some (8, 43) by decide +kernel) rfl (Or.inl (by decide +kernel)) rfl (fun q hq => by cases hq; rfl) ?_
  change zS _ _ _ _ _ _ [(0, .ref 44)] [] wM2
  refine z_aload_n (pc := 21) (i := 0) (j := 0) rfl rfl rfl ?_
  refine z_bipush (pc := 22) (v := 8) rfl (by decide) ?_
  refine z_newaJ (mc := 25) (ms := 13301) (w := wM2) (pc := 24) (N := 8) rfl (by decide +kernel) rfl (by decide) (by decide +kernel) (Or.inr ⟨fun q hq => by rw [List.mem_singleton] at hq; subst hq; intro x hx; cases hx; exact Or.inl (by decide +kernel), fun v hv => by rw [List.mem_singleton] at hv; subst hv; intro x hx; cases hx; exact Or.inl (by decide +kernel)⟩) ?_
  change zS _ _ _ _ _ _ [(0, .ref 44)] [.ref 47, .ref 44] (zN wM2 (11, 8))
  refine z_putRF (pc := 26) rfl fl_Mod_16 (show (zN wM2 (11, 8)).1[44]? = some (8, 43) by decide +kernel) rfl (Or.inl (by decide +kernel)) rfl (fun q hq => by cases hq; rfl) ?_
  change zS _ _ _ _ _ _ [(0, .ref 44)] [] wM3
  refine z_aload_n (pc := 29) (i := 0) (j := 0) rfl rfl rfl ?_
  refine z_bipush (pc := 30) (v := 48) rfl (by decide) ?_
  refine z_newaI (mc := 24) (ms := 13253) (w := wM3) (pc := 32) (N := 48) rfl (by decide +kernel) rfl (by decide) (by decide +kernel) (Or.inr ⟨fun q hq => by rw [List.mem_singleton] at hq; subst hq; intro x hx; cases hx; exact Or.inl (by decide +kernel), fun v hv => by rw [List.mem_singleton] at hv; subst hv; intro x hx; cases hx; exact Or.inl (by decide +kernel)⟩) ?_
  change zS _ _ _ _ _ _ [(0, .ref 44)] [.ref 48, .ref 44] (zN wM3 (10, 48))
  refine z_putRF (pc := 34) rfl fl_Mod_20 (show (zN wM3 (10, 48)).1[44]? = some (8, 43) by decide +kernel) rfl (Or.inl (by decide +kernel)) rfl (fun q hq => by cases hq; rfl) ?_
  change zS _ _ _ _ _ _ [(0, .ref 44)] [] wM4
  refine z_aload_n (pc := 37) (i := 0) (j := 0) rfl rfl rfl ?_
  refine z_bipush (pc := 38) (v := 48) rfl (by decide) ?_
  refine z_newaI (mc := 23) (ms := 13205) (w := wM4) (pc := 40) (N := 48) rfl (by decide +kernel) rfl (by decide) (by decide +kernel) (Or.inr ⟨fun q hq => by rw [List.mem_singleton] at hq; subst hq; intro x hx; cases hx; exact Or.inl (by decide +kernel), fun v hv => by rw [List.mem_singleton] at hv; subst hv; intro x hx; cases hx; exact Or.inl (by decide +kernel)⟩) ?_
  change zS _ _ _ _ _ _ [(0, .ref 44)] [.ref 49, .ref 44] (zN wM4 (10, 48))
  refine z_putRF (pc := 42) rfl fl_Mod_23 (show (zN wM4 (10, 48)).1[44]? = some (8, 43) by decide +kernel) rfl (Or.inl (by decide +kernel)) rfl (fun q hq => by cases hq; rfl) ?_
  change zS _ _ _ _ _ _ [(0, .ref 44)] [] wM5
  refine z_aload_n (pc := 45) (i := 0) (j := 0) rfl rfl rfl ?_
  refine z_bipush (pc := 46) (v := 48) rfl (by decide) ?_
  refine z_newaI (mc := 22) (ms := 13157) (w := wM5) (pc := 48) (N := 48) rfl (by decide +kernel) rfl (by decide) (by decide +kernel) (Or.inr ⟨fun q hq => by rw [List.mem_singleton] at hq; subst hq; intro x hx; cases hx; exact Or.inl (by decide +kernel), fun v hv => by rw [List.mem_singleton] at hv; subst hv; intro x hx; cases hx; exact Or.inl (by decide +kernel)⟩) ?_
  change zS _ _ _ _ _ _ [(0, .ref 44)] [.ref 50, .ref 44] (zN wM5 (10, 48))
  refine z_putRF (pc := 50) rfl fl_Mod_26 (show (zN wM5 (10, 48)).1[44]? = some (8, 43) by decide +kernel) rfl (Or.inl (by decide +kernel)) rfl (fun q hq => by cases hq; rfl) ?_
  change zS _ _ _ _ _ _ [(0, .ref 44)] [] wM6
  refine z_aload_n (pc := 53) (i := 0) (j := 0) rfl rfl rfl ?_
  refine z_bipush (pc := 54) (v := 48) rfl (by decide) ?_
  refine z_newaI (mc := 21) (ms := 13109) (w := wM6) (pc := 56) (N := 48) rfl (by decide +kernel) rfl (by decide) (by decide +kernel) (Or.inr ⟨fun q hq => by rw [List.mem_singleton] at hq; subst hq; intro x hx; cases hx; exact Or.inl (by decide +kernel), fun v hv => by rw [List.mem_singleton] at hv; subst hv; intro x hx; cases hx; exact Or.inl (by decide +kernel)⟩) ?_
  change zS _ _ _ _ _ _ [(0, .ref 44)] [.ref 51, .ref 44] (zN wM6 (10, 48))
  refine z_putRF (pc := 58) rfl fl_Mod_29 (show (zN wM6 (10, 48)).1[44]? = some (8, 43) by decide +kernel) rfl (Or.inl (by decide +kernel)) rfl (fun q hq => by cases hq; rfl) ?_
  change zS _ _ _ _ _ _ [(0, .ref 44)] [] wM7
  refine z_aload_n (pc := 61) (i := 0) (j := 0) rfl rfl rfl ?_
  refine z_bipush (pc := 62) (v := 12) rfl (by decide) ?_
  refine z_newaI (mc := 20) (ms := 13097) (w := wM7) (pc := 64) (N := 12) rfl (by decide +kernel) rfl (by decide) (by decide +kernel) (Or.inr ⟨fun q hq => by rw [List.mem_singleton] at hq; subst hq; intro x hx; cases hx; exact Or.inl (by decide +kernel), fun v hv => by rw [List.mem_singleton] at hv; subst hv; intro x hx; cases hx; exact Or.inl (by decide +kernel)⟩) ?_
  change zS _ _ _ _ _ _ [(0, .ref 44)] [.ref 52, .ref 44] (zN wM7 (10, 12))
  refine z_putRF (pc := 66) rfl fl_Mod_32 (show (zN wM7 (10, 12)).1[44]? = some (8, 43) by decide +kernel) rfl (Or.inl (by decide +kernel)) rfl (fun q hq => by cases hq; rfl) ?_
  change zS _ _ _ _ _ _ [(0, .ref 44)] [] wM8
  refine z_aload_n (pc := 69) (i := 0) (j := 0) rfl rfl rfl ?_
  refine z_bipush (pc := 70) (v := 12) rfl (by decide) ?_
  refine z_newaI (mc := 19) (ms := 13085) (w := wM8) (pc := 72) (N := 12) rfl (by decide +kernel) rfl (by decide) (by decide +kernel) (Or.inr ⟨fun q hq => by rw [List.mem_singleton] at hq; subst hq; intro x hx; cases hx; exact Or.inl (by decide +kernel), fun v hv => by rw [List.mem_singleton] at hv; subst hv; intro x hx; cases hx; exact Or.inl (by decide +kernel)⟩) ?_
  change zS _ _ _ _ _ _ [(0, .ref 44)] [.ref 53, .ref 44] (zN wM8 (10, 12))
  refine z_putRF (pc := 74) rfl fl_Mod_35 (show (zN wM8 (10, 12)).1[44]? = some (8, 43) by decide +kernel) rfl (Or.inl (by decide +kernel)) rfl (fun q hq => by cases hq; rfl) ?_
  change zS _ _ _ _ _ _ [(0, .ref 44)] [] wM9
  refine z_aload_n (pc := 77) (i := 0) (j := 0) rfl rfl rfl ?_
  refine z_sipush (pc := 78) (v := 6000) rfl (by decide) ?_
  refine z_newaI (mc := 18) (ms := 7085) (w := wM9) (pc := 81) (N := 6000) rfl (by decide +kernel) rfl (by decide) (by decide +kernel) (Or.inr ⟨fun q hq => by rw [List.mem_singleton] at hq; subst hq; intro x hx; cases hx; exact Or.inl (by decide +kernel), fun v hv => by rw [List.mem_singleton] at hv; subst hv; intro x hx; cases hx; exact Or.inl (by decide +kernel)⟩) ?_
  change zS _ _ _ _ _ _ [(0, .ref 44)] [.ref 54, .ref 44] (zN wM9 (10, 6000))
  refine z_putRF (pc := 83) rfl fl_Mod_38 (show (zN wM9 (10, 6000)).1[44]? = some (8, 43) by decide +kernel) rfl (Or.inl (by decide +kernel)) rfl (fun q hq => by cases hq; rfl) ?_
  change zS _ _ _ _ _ _ [(0, .ref 44)] [] wM10
  refine z_aload_n (pc := 86) (i := 0) (j := 0) rfl rfl rfl ?_
  refine z_bipush (pc := 87) (v := 7) rfl (by decide) ?_
  refine z_newaI (mc := 17) (ms := 7078) (w := wM10) (pc := 89) (N := 7) rfl (by decide +kernel) rfl (by decide) (by decide +kernel) (Or.inr ⟨fun q hq => by rw [List.mem_singleton] at hq; subst hq; intro x hx; cases hx; exact Or.inl (by decide +kernel), fun v hv => by rw [List.mem_singleton] at hv; subst hv; intro x hx; cases hx; exact Or.inl (by decide +kernel)⟩) ?_
  change zS _ _ _ _ _ _ [(0, .ref 44)] [.ref 55, .ref 44] (zN wM10 (10, 7))
  refine z_putRF (pc := 91) rfl fl_Mod_41 (show (zN wM10 (10, 7)).1[44]? = some (8, 43) by decide +kernel) rfl (Or.inl (by decide +kernel)) rfl (fun q hq => by cases hq; rfl) ?_
  change zS _ _ _ _ _ _ [(0, .ref 44)] [] wM11
  refine z_aload_n (pc := 94) (i := 0) (j := 0) rfl rfl rfl ?_
  refine z_bipush (pc := 95) (v := 7) rfl (by decide) ?_
  refine z_newaZ (mc := 16) (ms := 7071) (w := wM11) (pc := 97) (N := 7) rfl (by decide +kernel) rfl (by decide) (by decide +kernel) (Or.inr ⟨fun q hq => by rw [List.mem_singleton] at hq; subst hq; intro x hx; cases hx; exact Or.inl (by decide +kernel), fun v hv => by rw [List.mem_singleton] at hv; subst hv; intro x hx; cases hx; exact Or.inl (by decide +kernel)⟩) ?_
  change zS _ _ _ _ _ _ [(0, .ref 44)] [.ref 56, .ref 44] (zN wM11 (12, 7))
  refine z_putRF (pc := 99) rfl fl_Mod_44 (show (zN wM11 (12, 7)).1[44]? = some (8, 43) by decide +kernel) rfl (Or.inl (by decide +kernel)) rfl (fun q hq => by cases hq; rfl) ?_
  change zS _ _ _ _ _ _ [(0, .ref 44)] [] wM12
  refine z_aload_n (pc := 102) (i := 0) (j := 0) rfl rfl rfl ?_
  refine z_bipush (pc := 103) (v := 7) rfl (by decide) ?_
  refine z_newaI (mc := 15) (ms := 7064) (w := wM12) (pc := 105) (N := 7) rfl (by decide +kernel) rfl (by decide) (by decide +kernel) (Or.inr ⟨fun q hq => by rw [List.mem_singleton] at hq; subst hq; intro x hx; cases hx; exact Or.inl (by decide +kernel), fun v hv => by rw [List.mem_singleton] at hv; subst hv; intro x hx; cases hx; exact Or.inl (by decide +kernel)⟩) ?_
  change zS _ _ _ _ _ _ [(0, .ref 44)] [.ref 57, .ref 44] (zN wM12 (10, 7))
  refine z_putRF (pc := 107) rfl fl_Mod_48 (show (zN wM12 (10, 7)).1[44]? = some (8, 43) by decide +kernel) rfl (Or.inl (by decide +kernel)) rfl (fun q hq => by cases hq; rfl) ?_
  change zS _ _ _ _ _ _ [(0, .ref 44)] [] wM13
  refine z_aload_n (pc := 110) (i := 0) (j := 0) rfl rfl rfl ?_
  refine z_bipush (pc := 111) (v := 7) rfl (by decide) ?_
  refine z_newaI (mc := 14) (ms := 7057) (w := wM13) (pc := 113) (N := 7) rfl (by decide +kernel) rfl (by decide) (by decide +kernel) (Or.inr ⟨fun q hq => by rw [List.mem_singleton] at hq; subst hq; intro x hx; cases hx; exact Or.inl (by decide +kernel), fun v hv => by rw [List.mem_singleton] at hv; subst hv; intro x hx; cases hx; exact Or.inl (by decide +kernel)⟩) ?_
  change zS _ _ _ _ _ _ [(0, .ref 44)] [.ref 58, .ref 44] (zN wM13 (10, 7))
  refine z_putRF (pc := 115) rfl fl_Mod_51 (show (zN wM13 (10, 7)).1[44]? = some (8, 43) by decide +kernel) rfl (Or.inl (by decide +kernel)) rfl (fun q hq => by cases hq; rfl) ?_
  change zS _ _ _ _ _ _ [(0, .ref 44)] [] wM14
  refine z_aload_n (pc := 118) (i := 0) (j := 0) rfl rfl rfl ?_
  refine z_bipush (pc := 119) (v := 7) rfl (by decide) ?_
  refine z_newaI (mc := 13) (ms := 7050) (w := wM14) (pc := 121) (N := 7) rfl (by decide +kernel) rfl (by decide) (by decide +kernel) (Or.inr ⟨fun q hq => by rw [List.mem_singleton] at hq; subst hq; intro x hx; cases hx; exact Or.inl (by decide +kernel), fun v hv => by rw [List.mem_singleton] at hv; subst hv; intro x hx; cases hx; exact Or.inl (by decide +kernel)⟩) ?_
  change zS _ _ _ _ _ _ [(0, .ref 44)] [.ref 59, .ref 44] (zN wM14 (10, 7))
  refine z_putRF (pc := 123) rfl fl_Mod_54 (show (zN wM14 (10, 7)).1[44]? = some (8, 43) by decide +kernel) rfl (Or.inl (by decide +kernel)) rfl (fun q hq => by cases hq; rfl) ?_
  change zS _ _ _ _ _ _ [(0, .ref 44)] [] wM15
  refine z_aload_n (pc := 126) (i := 0) (j := 0) rfl rfl rfl ?_
  refine z_bipush (pc := 127) (v := 7) rfl (by decide) ?_
  refine z_newaI (mc := 12) (ms := 7043) (w := wM15) (pc := 129) (N := 7) rfl (by decide +kernel) rfl (by decide) (by decide +kernel) (Or.inr ⟨fun q hq => by rw [List.mem_singleton] at hq; subst hq; intro x hx; cases hx; exact Or.inl (by decide +kernel), fun v hv => by rw [List.mem_singleton] at hv; subst hv; intro x hx; cases hx; exact Or.inl (by decide +kernel)⟩) ?_
  change zS _ _ _ _ _ _ [(0, .ref 44)] [.ref 60, .ref 44] (zN wM15 (10, 7))
  refine z_putRF (pc := 131) rfl fl_Mod_57 (show (zN wM15 (10, 7)).1[44]? = some (8, 43) by decide +kernel) rfl (Or.inl (by decide +kernel)) rfl (fun q hq => by cases hq; rfl) ?_
  change zS _ _ _ _ _ _ [(0, .ref 44)] [] wM16
  refine z_aload_n (pc := 134) (i := 0) (j := 0) rfl rfl rfl ?_
  refine z_bipush (pc := 135) (v := 7) rfl (by decide) ?_
  refine z_newaI (mc := 11) (ms := 7036) (w := wM16) (pc := 137) (N := 7) rfl (by decide +kernel) rfl (by decide) (by decide +kernel) (Or.inr ⟨fun q hq => by rw [List.mem_singleton] at hq; subst hq; intro x hx; cases hx; exact Or.inl (by decide +kernel), fun v hv => by rw [List.mem_singleton] at hv; subst hv; intro x hx; cases hx; exact Or.inl (by decide +kernel)⟩) ?_
  change zS _ _ _ _ _ _ [(0, .ref 44)] [.ref 61, .ref 44] (zN wM16 (10, 7))
  refine z_putRF (pc := 139) rfl fl_Mod_60 (show (zN wM16 (10, 7)).1[44]? = some (8, 43) by decide +kernel) rfl (Or.inl (by decide +kernel)) rfl (fun q hq => by cases hq; rfl) ?_
  change zS _ _ _ _ _ _ [(0, .ref 44)] [] wM17
  refine z_aload_n (pc := 142) (i := 0) (j := 0) rfl rfl rfl ?_
  refine z_bipush (pc := 143) (v := 7) rfl (by decide) ?_
  refine z_newaI (mc := 10) (ms := 7029) (w := wM17) (pc := 145) (N := 7) rfl (by decide +kernel) rfl (by decide) (by decide +kernel) (Or.inr ⟨fun q hq => by rw [List.mem_singleton] at hq; subst hq; intro x hx; cases hx; exact Or.inl (by decide +kernel), fun v hv => by rw [List.mem_singleton] at hv; subst hv; intro x hx; cases hx; exact Or.inl (by decide +kernel)⟩) ?_
  change zS _ _ _ _ _ _ [(0, .ref 44)] [.ref 62, .ref 44] (zN wM17 (10, 7))
  refine z_putRF (pc := 147) rfl fl_Mod_63 (show (zN wM17 (10, 7)).1[44]? = some (8, 43) by decide +kernel) rfl (Or.inl (by decide +kernel)) rfl (fun q hq => by cases hq; rfl) ?_
  change zS _ _ _ _ _ _ [(0, .ref 44)] [] wM18
  refine z_aload_n (pc := 150) (i := 0) (j := 0) rfl rfl rfl ?_
  refine z_bipush (pc := 151) (v := 7) rfl (by decide) ?_
  refine z_newaI (mc := 9) (ms := 7022) (w := wM18) (pc := 153) (N := 7) rfl (by decide +kernel) rfl (by decide) (by decide +kernel) (Or.inr ⟨fun q hq => by rw [List.mem_singleton] at hq; subst hq; intro x hx; cases hx; exact Or.inl (by decide +kernel), fun v hv => by rw [List.mem_singleton] at hv; subst hv; intro x hx; cases hx; exact Or.inl (by decide +kernel)⟩) ?_
  change zS _ _ _ _ _ _ [(0, .ref 44)] [.ref 63, .ref 44] (zN wM18 (10, 7))
  refine z_putRF (pc := 155) rfl fl_Mod_66 (show (zN wM18 (10, 7)).1[44]? = some (8, 43) by decide +kernel) rfl (Or.inl (by decide +kernel)) rfl (fun q hq => by cases hq; rfl) ?_
  change zS _ _ _ _ _ _ [(0, .ref 44)] [] wM19
  refine z_aload_n (pc := 158) (i := 0) (j := 0) rfl rfl rfl ?_
  refine z_bipush (pc := 159) (v := 7) rfl (by decide) ?_
  refine z_newaI (mc := 8) (ms := 7015) (w := wM19) (pc := 161) (N := 7) rfl (by decide +kernel) rfl (by decide) (by decide +kernel) (Or.inr ⟨fun q hq => by rw [List.mem_singleton] at hq; subst hq; intro x hx; cases hx; exact Or.inl (by decide +kernel), fun v hv => by rw [List.mem_singleton] at hv; subst hv; intro x hx; cases hx; exact Or.inl (by decide +kernel)⟩) ?_
  change zS _ _ _ _ _ _ [(0, .ref 44)] [.ref 64, .ref 44] (zN wM19 (10, 7))
  refine z_putRF (pc := 163) rfl fl_Mod_69 (show (zN wM19 (10, 7)).1[44]? = some (8, 43) by decide +kernel) rfl (Or.inl (by decide +kernel)) rfl (fun q hq => by cases hq; rfl) ?_
  change zS _ _ _ _ _ _ [(0, .ref 44)] [] wM20
  refine z_aload_n (pc := 166) (i := 0) (j := 0) rfl rfl rfl ?_
  refine z_bipush (pc := 167) (v := 7) rfl (by decide) ?_
  refine z_newaI (mc := 7) (ms := 7008) (w := wM20) (pc := 169) (N := 7) rfl (by decide +kernel) rfl (by decide) (by decide +kernel) (Or.inr ⟨fun q hq => by rw [List.mem_singleton] at hq; subst hq; intro x hx; cases hx; exact Or.inl (by decide +kernel), fun v hv => by rw [List.mem_singleton] at hv; subst hv; intro x hx; cases hx; exact Or.inl (by decide +kernel)⟩) ?_
  change zS _ _ _ _ _ _ [(0, .ref 44)] [.ref 65, .ref 44] (zN wM20 (10, 7))
  refine z_putRF (pc := 171) rfl fl_Mod_72 (show (zN wM20 (10, 7)).1[44]? = some (8, 43) by decide +kernel) rfl (Or.inl (by decide +kernel)) rfl (fun q hq => by cases hq; rfl) ?_
  change zS _ _ _ _ _ _ [(0, .ref 44)] [] wM21
  refine z_aload_n (pc := 174) (i := 0) (j := 0) rfl rfl rfl ?_
  refine z_bipush (pc := 175) (v := 20) rfl (by decide) ?_
  refine z_newaI (mc := 6) (ms := 6988) (w := wM21) (pc := 177) (N := 20) rfl (by decide +kernel) rfl (by decide) (by decide +kernel) (Or.inr ⟨fun q hq => by rw [List.mem_singleton] at hq; subst hq; intro x hx; cases hx; exact Or.inl (by decide +kernel), fun v hv => by rw [List.mem_singleton] at hv; subst hv; intro x hx; cases hx; exact Or.inl (by decide +kernel)⟩) ?_
  change zS _ _ _ _ _ _ [(0, .ref 44)] [.ref 66, .ref 44] (zN wM21 (10, 20))
  refine z_putRF (pc := 179) rfl fl_Mod_75 (show (zN wM21 (10, 20)).1[44]? = some (8, 43) by decide +kernel) rfl (Or.inl (by decide +kernel)) rfl (fun q hq => by cases hq; rfl) ?_
  change zS _ _ _ _ _ _ [(0, .ref 44)] [] wM22
  refine z_aload_n (pc := 182) (i := 0) (j := 0) rfl rfl rfl ?_
  refine z_sipush (pc := 183) (v := 1344) rfl (by decide) ?_
  refine z_newaI (mc := 5) (ms := 5644) (w := wM22) (pc := 186) (N := 1344) rfl (by decide +kernel) rfl (by decide) (by decide +kernel) (Or.inr ⟨fun q hq => by rw [List.mem_singleton] at hq; subst hq; intro x hx; cases hx; exact Or.inl (by decide +kernel), fun v hv => by rw [List.mem_singleton] at hv; subst hv; intro x hx; cases hx; exact Or.inl (by decide +kernel)⟩) ?_
  change zS _ _ _ _ _ _ [(0, .ref 44)] [.ref 67, .ref 44] (zN wM22 (10, 1344))
  refine z_putRF (pc := 188) rfl fl_Mod_78 (show (zN wM22 (10, 1344)).1[44]? = some (8, 43) by decide +kernel) rfl (Or.inl (by decide +kernel)) rfl (fun q hq => by cases hq; rfl) ?_
  change zS _ _ _ _ _ _ [(0, .ref 44)] [] wM23
  refine z_aload_n (pc := 191) (i := 0) (j := 0) rfl rfl rfl ?_
  refine z_sipush (pc := 192) (v := 5376) rfl (by decide) ?_
  refine z_newaI (mc := 4) (ms := 268) (w := wM23) (pc := 195) (N := 5376) rfl (by decide +kernel) rfl (by decide) (by decide +kernel) (Or.inr ⟨fun q hq => by rw [List.mem_singleton] at hq; subst hq; intro x hx; cases hx; exact Or.inl (by decide +kernel), fun v hv => by rw [List.mem_singleton] at hv; subst hv; intro x hx; cases hx; exact Or.inl (by decide +kernel)⟩) ?_
  change zS _ _ _ _ _ _ [(0, .ref 44)] [.ref 68, .ref 44] (zN wM23 (10, 5376))
  refine z_putRF (pc := 197) rfl fl_Mod_81 (show (zN wM23 (10, 5376)).1[44]? = some (8, 43) by decide +kernel) rfl (Or.inl (by decide +kernel)) rfl (fun q hq => by cases hq; rfl) ?_
  change zS _ _ _ _ _ _ [(0, .ref 44)] [] wM24
  refine z_aload_n (pc := 200) (i := 0) (j := 0) rfl rfl rfl ?_
  refine z_bipush (pc := 201) (v := 64) rfl (by decide) ?_
  refine z_newaI (mc := 3) (ms := 204) (w := wM24) (pc := 203) (N := 64) rfl (by decide +kernel) rfl (by decide) (by decide +kernel) (Or.inr ⟨fun q hq => by rw [List.mem_singleton] at hq; subst hq; intro x hx; cases hx; exact Or.inl (by decide +kernel), fun v hv => by rw [List.mem_singleton] at hv; subst hv; intro x hx; cases hx; exact Or.inl (by decide +kernel)⟩) ?_
  change zS _ _ _ _ _ _ [(0, .ref 44)] [.ref 69, .ref 44] (zN wM24 (10, 64))
  refine z_putRF (pc := 205) rfl fl_Mod_84 (show (zN wM24 (10, 64)).1[44]? = some (8, 43) by decide +kernel) rfl (Or.inl (by decide +kernel)) rfl (fun q hq => by cases hq; rfl) ?_
  change zS _ _ _ _ _ _ [(0, .ref 44)] [] wM25
  refine z_aload_n (pc := 208) (i := 0) (j := 0) rfl rfl rfl ?_
  refine z_sipush (pc := 209) (v := 192) rfl (by decide) ?_
  refine z_newaI (mc := 2) (ms := 12) (w := wM25) (pc := 212) (N := 192) rfl (by decide +kernel) rfl (by decide) (by decide +kernel) (Or.inr ⟨fun q hq => by rw [List.mem_singleton] at hq; subst hq; intro x hx; cases hx; exact Or.inl (by decide +kernel), fun v hv => by rw [List.mem_singleton] at hv; subst hv; intro x hx; cases hx; exact Or.inl (by decide +kernel)⟩) ?_
  change zS _ _ _ _ _ _ [(0, .ref 44)] [.ref 70, .ref 44] (zN wM25 (10, 192))
  refine z_putRF (pc := 214) rfl fl_Mod_87 (show (zN wM25 (10, 192)).1[44]? = some (8, 43) by decide +kernel) rfl (Or.inl (by decide +kernel)) rfl (fun q hq => by cases hq; rfl) ?_
  change zS _ _ _ _ _ _ [(0, .ref 44)] [] wM26
  refine z_aload_n (pc := 217) (i := 0) (j := 0) rfl rfl rfl ?_
  refine z_bipush (pc := 218) (v := 8) rfl (by decide) ?_
  refine z_newaI (mc := 1) (ms := 4) (w := wM26) (pc := 220) (N := 8) rfl (by decide +kernel) rfl (by decide) (by decide +kernel) (Or.inr ⟨fun q hq => by rw [List.mem_singleton] at hq; subst hq; intro x hx; cases hx; exact Or.inl (by decide +kernel), fun v hv => by rw [List.mem_singleton] at hv; subst hv; intro x hx; cases hx; exact Or.inl (by decide +kernel)⟩) ?_
  change zS _ _ _ _ _ _ [(0, .ref 44)] [.ref 71, .ref 44] (zN wM26 (10, 8))
  refine z_putRF (pc := 222) rfl fl_Mod_90 (show (zN wM26 (10, 8)).1[44]? = some (8, 43) by decide +kernel) rfl (Or.inl (by decide +kernel)) rfl (fun q hq => by cases hq; rfl) ?_
  change zS _ _ _ _ _ _ [(0, .ref 44)] [] wM27
  refine z_aload_n (pc := 225) (i := 0) (j := 0) rfl rfl rfl ?_
  refine z_iconst (pc := 226) (v := 4) rfl (by decide) ?_
  refine z_newaZ (mc := 0) (ms := 0) (w := wM27) (pc := 227) (N := 4) rfl (by decide +kernel) rfl (by decide) (by decide +kernel) (Or.inr ⟨fun q hq => by rw [List.mem_singleton] at hq; subst hq; intro x hx; cases hx; exact Or.inl (by decide +kernel), fun v hv => by rw [List.mem_singleton] at hv; subst hv; intro x hx; cases hx; exact Or.inl (by decide +kernel)⟩) ?_
  change zS _ _ _ _ _ _ [(0, .ref 44)] [.ref 72, .ref 44] (zN wM27 (12, 4))
  refine z_putRF (pc := 229) rfl fl_Mod_93 (show (zN wM27 (12, 4)).1[44]? = some (8, 43) by decide +kernel) rfl (Or.inl (by decide +kernel)) rfl (fun q hq => by cases hq; rfl) ?_
  change zS _ _ _ _ _ _ [(0, .ref 44)] [] wM28
  refine z_aload_n (pc := 232) (i := 0) (j := 0) rfl rfl rfl ?_
  refine z_iconst (pc := 233) (v := 0) rfl (by decide) ?_
  refine z_cV (pc := 234) (mc1 := 0) (ms1 := 0) (mc2 := 0) (ms2 := 0) (as := [.int 0]) (rest := []) (o := 44) rfl rfl (show wM28.1[44]? = some (8, 43) by decide +kernel) ok_Mod_plain rfl rfl cl_Mod_96 (show 0 < d by omega) (Nat.le_of_ble_eq_true rfl) (Nat.le_of_ble_eq_true rfl) (Nat.le_refl _) (Nat.le_refl _) (c_Mod_plain0 (w := wM28) wM28_o 0) (fun r1 w1 hp => ?_) rfl rfl
  obtain ⟨rfl, hw1⟩ := hp
  rw [hw1]
  refine ⟨⟨Nat.le_refl _, Or.inl rfl⟩, ?_⟩
  exact z_vret (pc := 237) rfl rfl ⟨rfl, rfl⟩
