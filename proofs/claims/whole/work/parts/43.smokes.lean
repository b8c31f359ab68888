theorem pcutM (v : Int32) : (if 0 ≤ v then (if v < 20 then v else 20) else 0) = pcut v := by
  unfold pcut
  have z0 : (0 : Int32).toInt = 0 := rfl
  have z20 : (20 : Int32).toInt = 20 := rfl
  by_cases h : 0 ≤ v
  · rw [if_pos h]
    by_cases h2 : v < 20
    · rw [if_pos h2]
      by_cases h3 : 0 < v
      · rw [if_pos h3]
      · rw [if_neg h3]
        apply Int32.toInt_inj.mp
        rw [fa_le] at h
        rw [fa_lt] at h3
        omega
    · rw [if_neg h2, if_pos (by decide)]
  · rw [if_neg h]
    have h2 : v < 20 := by rw [fa_lt]; rw [fa_le] at h; omega
    rw [if_pos h2, if_neg (fun h3 => h (Int32.le_of_lt h3))]
theorem cong4 (F : Int32 → Int32 → Int32 → Int32 → Int32) {a b c e a1 b1 c1 e1 : Int32} (h1 : a = a1) (h2 : b = b1) (h3 : c = c1) (h4 : e = e1) : F a b c e = F a1 b1 c1 e1 := by rw [h1, h2, h3, h4]
theorem z2_ro4 (f : Nat → Nat → Int32) (k1 k2 k3 k4 : Nat) (x1 x2 x3 x4 : Int32) {o a : Nat} (h : a ≠ o) : z2 (z2 (z2 (z2 f o k1 x1) o k2 x2) o k3 x3) o k4 x4 a = f a := (z2_ro _ _ _ h).trans ((z2_ro _ _ _ h).trans ((z2_ro _ _ _ h).trans (z2_ro _ _ _ h)))
theorem z2_4 (f : Nat → Nat → Int32) (o : Nat) (x1 x2 x3 x4 : Int32) : z2 (z2 (z2 (z2 f o 1 x1) o 2 x2) o 3 x3) o 4 x4 o 1 = x1 ∧ z2 (z2 (z2 (z2 f o 1 x1) o 2 x2) o 3 x3) o 4 x4 o 2 = x2 ∧ z2 (z2 (z2 (z2 f o 1 x1) o 2 x2) o 3 x3) o 4 x4 o 3 = x3 ∧ z2 (z2 (z2 (z2 f o 1 x1) o 2 x2) o 3 x3) o 4 x4 o 4 = x4 := by simp [z2]
set_option maxRecDepth 100000 in
set_option maxHeartbeats 4000000 in
theorem c_Mod_longOf {w : zW} (hm : zMo w) {G : Int32 → Int32 → Int32 → Int32} (hG : zMPl (zI w) G) {i : Nat} (h48 : i < 48) (x y : Int32) (d : Nat) (hd : 3 ≤ d) : zS 0 0 d m_Mod_longOf (fun rv w1 => ∃ f, w1 = zuI w f ∧ rv = some (.int (plenK (zI w 51 i) (G x (zI w 50 i) y))) ∧ (∀ o, (o < 57 ∨ 66 < o) → f o = zI w o)) 0 [(0, .ref 44), (1, .int (nI i)), (2, .int x), (3, .int y)] [] w := by
  refine z_aload_n (pc := 0) (i := 0) (j := 0) rfl rfl rfl ?_
  refine z_getR (pc := 1) (x := 50) rfl fl_Mod_26 hm.1 rfl (mr_50 hm) ?_
  refine z_iload_n (pc := 4) (i := 1) (j := 1) rfl rfl rfl ?_
  refine z_iald (pc := 5) rfl (mk_50 hm) (vp_in_nI h48 (by decide)) ?_
  refine z_eqi (y := zI w 50 i) (by rw [nI_clamp (by omega)]) ?_
  refine z_istore (pc := 6) (i := 4) (ls' := [(0, .ref 44), (1, .int (nI i)), (2, .int x), (3, .int y), (4, .int (zI w 50 i))]) rfl (by decide) rfl ?_
  have j69 : ∀ (g : Nat → Nat → Int32) (v : Int32), (∀ o, (o < 57 ∨ 66 < o) → g o = zI w o) → v = G x (zI w 50 i) y → zS 0 0 d m_Mod_longOf (fun rv w1 => ∃ f, w1 = zuI w f ∧ rv = some (.int (plenK (zI w 51 i) (G x (zI w 50 i) y))) ∧ (∀ o, (o < 57 ∨ 66 < o) → f o = zI w o)) 69 [(0, .ref 44), (1, .int (nI i)), (2, .int x), (3, .int y), (4, .int v)] [] (zuI w g) := by
    intro g v hg hv
    have e51 : g 51 = zI w 51 := hg 51 (by omega)
    have j85 : ∀ u : Int32, (u = pcut v) → zS 0 0 d m_Mod_longOf (fun rv w1 => ∃ f, w1 = zuI w f ∧ rv = some (.int (plenK (zI w 51 i) (G x (zI w 50 i) y))) ∧ (∀ o, (o < 57 ∨ 66 < o) → f o = zI w o)) 85 [(0, .ref 44), (1, .int (nI i)), (2, .int x), (3, .int y), (4, .int v)] [.int u] (zuI w g) := by
      intro u h_j85
      refine z_istore (pc := 85) (i := 4) (ls' := [(0, .ref 44), (1, .int (nI i)), (2, .int x), (3, .int y), (4, .int u)]) rfl (by decide) rfl ?_
      refine z_aload_n (pc := 87) (i := 0) (j := 0) rfl rfl rfl ?_
      refine z_getR (pc := 88) (x := 51) rfl fl_Mod_29 hm.1 rfl (mr_51 hm) ?_
      refine z_iload_n (pc := 91) (i := 1) (j := 1) rfl rfl rfl ?_
      refine z_iald (pc := 92) rfl (mk_51 hm) (vp_in_nI h48 (by decide)) ?_
      refine z_eqi (y := zI w 51 i) (by rw [nI_clamp (by omega)]; exact congrFun e51 i) ?_
      refine z_iconst (pc := 93) (v := 1) rfl (by decide) ?_
      refine z_icmp_ne (pc := 94) (tgt := 104) rfl (by decide) (fun h94 => ?_) (fun h94 => ?_)
      · refine z_aload_n (pc := 104) (i := 0) (j := 0) rfl rfl rfl ?_
        refine z_getR (pc := 105) (x := 51) rfl fl_Mod_29 hm.1 rfl (mr_51 hm) ?_
        refine z_iload_n (pc := 108) (i := 1) (j := 1) rfl rfl rfl ?_
        refine z_iald (pc := 109) rfl (mk_51 hm) (vp_in_nI h48 (by decide)) ?_
        refine z_eqi (y := zI w 51 i) (by rw [nI_clamp (by omega)]; exact congrFun e51 i) ?_
        refine z_iconst (pc := 110) (v := 2) rfl (by decide) ?_
        refine z_icmp_ne (pc := 111) (tgt := 121) rfl (by decide) (fun h111 => ?_) (fun h111 => ?_)
        · refine z_aload_n (pc := 121) (i := 0) (j := 0) rfl rfl rfl ?_
          refine z_getR (pc := 122) (x := 51) rfl fl_Mod_29 hm.1 rfl (mr_51 hm) ?_
          refine z_iload_n (pc := 125) (i := 1) (j := 1) rfl rfl rfl ?_
          refine z_iald (pc := 126) rfl (mk_51 hm) (vp_in_nI h48 (by decide)) ?_
          refine z_eqi (y := zI w 51 i) (by rw [nI_clamp (by omega)]; exact congrFun e51 i) ?_
          refine z_iconst (pc := 127) (v := 4) rfl (by decide) ?_
          refine z_icmp_ne (pc := 128) (tgt := 138) rfl (by decide) (fun h128 => ?_) (fun h128 => ?_)
          · refine z_iload (pc := 138) (i := 4) (j := 4) rfl rfl ?_
            exact z_iret (pc := 140) rfl rfl ⟨g, rfl, by rw [h_j85, hv]; unfold plenK; rw [if_neg h94, if_neg h111, if_neg h128]; split <;> rfl, hg⟩
          · refine z_iload (pc := 131) (i := 4) (j := 4) rfl rfl ?_
            refine z_iconst (pc := 133) (v := 2) rfl (by decide) ?_
            refine z_iadd (pc := 134) rfl ?_
            refine z_goto (pc := 135) (tgt := 140) rfl (by decide) ?_
            exact z_iret (pc := 140) rfl rfl ⟨g, rfl, by rw [h_j85, hv]; unfold plenK; rw [if_neg h94, if_neg h111, if_neg (by rw [h128]; decide), if_pos h128], hg⟩
        · refine z_iconst (pc := 114) (v := 2) rfl (by decide) ?_
          refine z_iload (pc := 115) (i := 4) (j := 4) rfl rfl ?_
          refine z_imul (pc := 117) rfl ?_
          refine z_goto (pc := 118) (tgt := 140) rfl (by decide) ?_
          exact z_iret (pc := 140) rfl rfl ⟨g, rfl, by rw [h_j85, hv]; unfold plenK; rw [if_neg h94, if_pos h111, Int32.mul_comm], hg⟩
      · refine z_iload (pc := 97) (i := 4) (j := 4) rfl rfl ?_
        refine z_iconst (pc := 99) (v := 2) rfl (by decide) ?_
        refine z_idiv (pc := 100) rfl (by decide) ?_
        refine z_goto (pc := 101) (tgt := 140) rfl (by decide) ?_
        exact z_iret (pc := 140) rfl rfl ⟨g, rfl, by rw [h_j85, hv]; unfold plenK; rw [if_pos h94], hg⟩
    refine z_iload (pc := 69) (i := 4) (j := 4) rfl rfl ?_
    refine z_if_ge (pc := 71) (tgt := 78) rfl (by decide) (fun h71 => ?_) (fun h71 => ?_)
    · refine z_bipush (pc := 78) (v := 20) rfl (by decide) ?_
      refine z_iload (pc := 80) (i := 4) (j := 4) rfl rfl ?_
      refine z_mmin (pc := 82) rfl ml_Mod_285 (by omega) (Nat.le_of_ble_eq_true rfl) ?_
      exact j85 _ (by rw [← pcutM, if_pos h71])
    · refine z_iconst (pc := 74) (v := 0) rfl (by decide) ?_
      refine z_goto (pc := 75) (tgt := 85) rfl (by decide) ?_
      exact j85 _ (by rw [← pcutM, if_neg h71])
  refine z_aload_n (pc := 8) (i := 0) (j := 0) rfl rfl rfl ?_
  refine z_getR (pc := 9) (x := 53) rfl fl_Mod_35 hm.1 rfl (mr_53 hm) ?_
  refine z_iconst (pc := 12) (v := 1) rfl (by decide) ?_
  refine z_iald (pc := 13) rfl (mk_53 hm) (vp_in_nI (n := 1) (by decide) (by decide)) ?_
  refine z_aload_n (pc := 14) (i := 0) (j := 0) rfl rfl rfl ?_
  refine z_getR (pc := 15) (x := 52) rfl fl_Mod_32 hm.1 rfl (mr_52 hm) ?_
  refine z_iconst (pc := 18) (v := 1) rfl (by decide) ?_
  refine z_iald (pc := 19) rfl (mk_52 hm) (vp_in_nI (n := 1) (by decide) (by decide)) ?_
  refine z_icmp_le (pc := 20) (tgt := 69) rfl (by decide) (fun h20 => ?_) (fun h20 => ?_)
  · rcases hG with ⟨h1, h2⟩ | ⟨h1, -⟩
    case inr => exact absurd h20 h1
    exact j69 (zI w) (zI w 50 i) (fun _ _ => rfl) (h2 x (zI w 50 i) y).symm
  · rcases hG with ⟨h1, -⟩ | ⟨-, F, hF, hV⟩
    · exact absurd h1 h20
    refine z_aload_n (pc := 23) (i := 0) (j := 0) rfl rfl rfl ?_
    refine z_getR (pc := 24) (x := 66) rfl fl_Mod_75 hm.1 rfl (mr_66 hm) ?_
    refine z_iconst (pc := 27) (v := 1) rfl (by decide) ?_
    refine z_iload_n (pc := 28) (i := 2) (j := 2) rfl rfl rfl ?_
    refine z_bipush (pc := 29) (v := 24) rfl (by decide) ?_
    refine z_irem (pc := 31) rfl (by decide) ?_
    refine z_iast (pc := 32) rfl (mk_66 hm) (vp_in_nI (n := 1) (by decide) (by decide)) ?_
    refine z_aload_n (pc := 33) (i := 0) (j := 0) rfl rfl rfl ?_
    refine z_getR (pc := 34) (x := 66) rfl fl_Mod_75 hm.1 rfl (mr_66 hm) ?_
    refine z_iconst (pc := 37) (v := 2) rfl (by decide) ?_
    refine z_iload_n (pc := 38) (i := 2) (j := 2) rfl rfl rfl ?_
    refine z_bipush (pc := 39) (v := 24) rfl (by decide) ?_
    refine z_idiv (pc := 41) rfl (by decide) ?_
    refine z_iast (pc := 42) rfl (mk_66 hm) (vp_in_nI (n := 2) (by decide) (by decide)) ?_
    refine z_aload_n (pc := 43) (i := 0) (j := 0) rfl rfl rfl ?_
    refine z_getR (pc := 44) (x := 66) rfl fl_Mod_75 hm.1 rfl (mr_66 hm) ?_
    refine z_iconst (pc := 47) (v := 3) rfl (by decide) ?_
    refine z_aload_n (pc := 48) (i := 0) (j := 0) rfl rfl rfl ?_
    refine z_getR (pc := 49) (x := 50) rfl fl_Mod_26 hm.1 rfl (mr_50 hm) ?_
    refine z_iload_n (pc := 52) (i := 1) (j := 1) rfl rfl rfl ?_
    refine z_iald (pc := 53) rfl (mk_50 hm) (vp_in_nI h48 (by decide)) ?_
    refine z_eqi (y := zI w 50 i) (by rw [nI_clamp (by omega)]; rfl) ?_
    refine z_iast (pc := 54) rfl (mk_66 hm) (vp_in_nI (n := 3) (by decide) (by decide)) ?_
    refine z_aload_n (pc := 55) (i := 0) (j := 0) rfl rfl rfl ?_
    refine z_getR (pc := 56) (x := 66) rfl fl_Mod_75 hm.1 rfl (mr_66 hm) ?_
    refine z_iconst (pc := 59) (v := 4) rfl (by decide) ?_
    refine z_iload_n (pc := 60) (i := 3) (j := 3) rfl rfl rfl ?_
    refine z_iast (pc := 61) rfl (mk_66 hm) (vp_in_nI (n := 4) (by decide) (by decide)) ?_
    refine z_aload_n (pc := 62) (i := 0) (j := 0) rfl rfl rfl ?_
    refine z_iconst (pc := 63) (v := 1) rfl (by decide) ?_
    refine z_cV (pc := 64) (mc1 := 0) (ms1 := 0) (mc2 := 0) (ms2 := 0) (as := [.int 1]) (rest := []) (o := 44) rfl rfl hm.1 ok_Mod_worked rfl rfl cl_Mod_282 (by omega) (Nat.le_of_ble_eq_true rfl) (Nat.le_of_ble_eq_true rfl) (Nat.le_refl _) (Nat.le_refl _) (c_Mod_worked (w := zuI w (z2 (z2 (z2 (z2 (zI w) 66 1 (x - x / 24 * 24)) 66 2 (x / 24)) 66 3 (zI w 50 i)) 66 4 y)) hm (li := 1) (by decide) (F := F) (zCode_c hF (z2_ro4 (zI w) 1 2 3 4 (x - x / 24 * 24) (x / 24) (zI w 50 i) y (o := 66) (a := 52) (by decide)) (z2_ro4 (zI w) 1 2 3 4 (x - x / 24 * 24) (x / 24) (zI w 50 i) y (o := 66) (a := 53) (by decide)) (z2_ro4 (zI w) 1 2 3 4 (x - x / 24 * 24) (x / 24) (zI w 50 i) y (o := 66) (a := 54) (by decide))) 2 (by decide)) (fun r1 w1 hp => ?_) rfl rfl
    obtain ⟨g, hw1, rfl, hg⟩ := hp
    rw [hw1]
    refine ⟨⟨Nat.le_refl _, Or.inl rfl⟩, ?_⟩
    obtain ⟨q1, q2, q3, q4⟩ := z2_4 (zI w) 66 (x - x / 24 * 24) (x / 24) (zI w 50 i) y
    generalize hv : F _ _ _ _ = v
    have hv : v = G x (zI w 50 i) y := by rw [← hv, ← hV]; exact cong4 F q1 q2 q3 q4
    refine z_istore (pc := 67) (i := 4) (ls' := [(0, .ref 44), (1, .int (nI i)), (2, .int x), (3, .int y), (4, .int v)]) rfl (by decide) rfl ?_
    exact j69 g v (fun o ho => (hg o (by omega)).trans (z2_ro4 (zI w) 1 2 3 4 (x - x / 24 * 24) (x / 24) (zI w 50 i) y (o := 66) (a := o) (by omega))) hv
def cell16 (C R : Nat) (x y : Int32) : Option Nat := if 0 ≤ x.toInt ∧ x.toInt < C ∧ 0 ≤ y.toInt ∧ y.toInt < R then some (16 * y.toInt.toNat + x.toInt.toNat) else none
theorem cell16_in {C R : Nat} (hC : C ≤ 12) (hR : R ≤ 12) {x y : Int32} {p : Nat} (h : cell16 C R x y = some p) : p < 192 ∧ 16 * y + x = nI p ∧ (∃ c r, c < C ∧ r < R ∧ x = nI c ∧ y = nI r ∧ p = 16 * r + c) := by
  unfold cell16 at h
  split at h
  · rename_i h1
    obtain ⟨a1, a2, a3, a4⟩ := h1
    have hp : p = 16 * y.toInt.toNat + x.toInt.toNat := (Option.some.inj h).symm
    have ex : x = nI x.toInt.toNat := by
      apply Int32.toInt_inj.mp
      rw [nI_toInt (by omega)]
      omega
    have ey : y = nI y.toInt.toNat := by
      apply Int32.toInt_inj.mp
      rw [nI_toInt (by omega)]
      omega
    refine ⟨by omega, ?_, x.toInt.toNat, y.toInt.toNat, by omega, by omega, ex, ey, hp⟩
    rw [hp]
    calc 16 * y + x = nI 16 * nI y.toInt.toNat + nI x.toInt.toNat := by rw [← ex, ← ey]; rfl
      _ = nI (16 * y.toInt.toNat + x.toInt.toNat) := by rw [pk_mul, nI_add]
  · cases h
theorem cell16_some {C R : Nat} (x y : Int32) : (cell16 C R x y).isSome = (cellP C R x y).isSome := by unfold cell16 cellP; split <;> rfl
theorem cell16_has {C R : Nat} (hC : C ≤ 12) (hR : R ≤ 12) (x y : Int32) : (if x < 0 then (0 : Int32) else if nI C ≤ x then 0 else if y < 0 then 0 else if nI R ≤ y then 0 else 1) = if (cell16 C R x y).isSome then 1 else 0 := by rw [cell16_some]; exact cell_has hC hR x y
def cellV (q : Option Nat) : Int32 := match q with
  | none => -1
  | some c => nI c
def mX (f : Nat → Nat → Int32) (i : Nat) : Int32 := f 48 i + (if f 51 i = 3 then 1 else 0)
def mcell (f : Nat → Nat → Int32) (C R i yv k : Nat) : Option Nat := cell16 C R (mX f i + nI k * zkE.getD yv 0) (f 49 i + nI k * zkS.getD yv 0)
theorem east_k : ∀ yv, yv < 8 → (if nI yv < 1 then (if nI yv < 5 then 0 else (-1)) else (if 3 < nI yv then (if nI yv < 5 then 0 else (-1)) else 1)) = zkE.getD yv 0 := by decide
theorem south_k : ∀ yv, yv < 8 → (if nI yv < 3 then (if nI yv = 2 then 0 else (if nI yv = 6 then 0 else (-1))) else (if 5 < nI yv then (if nI yv = 2 then 0 else (if nI yv = 6 then 0 else (-1))) else 1)) = zkS.getD yv 0 := by decide
set_option maxRecDepth 100000 in
set_option maxHeartbeats 4000000 in
theorem c_Mod_cellOf {w : zW} (hm : zMo w) {C R : Nat} (hC : zI w 46 0 = nI C) (hR : zI w 46 1 = nI R) (hC12 : C ≤ 12) (hR12 : R ≤ 12) {i yv k : Nat} (h48 : i < 48) (hy : yv < 8) (d : Nat) (hd : 1 ≤ d) : zS 0 0 d m_Mod_cellOf (fun rv w1 => rv = some (.int (cellV (mcell (zI w) C R i yv k))) ∧ w1 = w) 0 [(0, .ref 44), (1, .int (nI i)), (2, .int (nI k)), (3, .int (nI yv))] [] w := by
  refine z_aload_n (pc := 0) (i := 0) (j := 0) rfl rfl rfl ?_
  refine z_getR (pc := 1) (x := 48) rfl fl_Mod_20 hm.1 rfl (mr_48 hm) ?_
  refine z_iload_n (pc := 4) (i := 1) (j := 1) rfl rfl rfl ?_
  refine z_iald (pc := 5) rfl (mk_48 hm) (vp_in_nI h48 (by decide)) ?_
  refine z_eqi (y := zI w 48 i) (by rw [nI_clamp (by omega)]) ?_
  refine z_aload_n (pc := 6) (i := 0) (j := 0) rfl rfl rfl ?_
  refine z_getR (pc := 7) (x := 51) rfl fl_Mod_29 hm.1 rfl (mr_51 hm) ?_
  refine z_iload_n (pc := 10) (i := 1) (j := 1) rfl rfl rfl ?_
  refine z_iald (pc := 11) rfl (mk_51 hm) (vp_in_nI h48 (by decide)) ?_
  refine z_eqi (y := zI w 51 i) (by rw [nI_clamp (by omega)]) ?_
  have j21 : ∀ v : Int32, (v = (if zI w 51 i = 3 then 1 else 0)) → zS 0 0 d m_Mod_cellOf (fun rv w1 => rv = some (.int (cellV (mcell (zI w) C R i yv k))) ∧ w1 = w) 21 [(0, .ref 44), (1, .int (nI i)), (2, .int (nI k)), (3, .int (nI yv))] [.int v, .int (zI w 48 i)] w := by
    intro v h_j21
    refine z_iadd (pc := 21) rfl ?_
    refine z_iload_n (pc := 22) (i := 2) (j := 2) rfl rfl rfl ?_
    refine z_iload_n (pc := 23) (i := 3) (j := 3) rfl rfl rfl ?_
    refine z_cS (pc := 24) (mc1 := 0) (ms1 := 0) (mc2 := 0) (ms2 := 0) (as := [.int (nI yv)]) (rest := [.int (nI k), .int ((zI w 48 i) + v)]) ok_Mod_east rfl rfl cl_Mod_291 (by omega) (Nat.le_of_ble_eq_true rfl) (Nat.le_of_ble_eq_true rfl) (Nat.le_refl _) (Nat.le_refl _) (c_Mod_east (nI yv) 0 _) (fun r1 w1 hp => ?_) rfl rfl
    obtain ⟨rfl, hw1⟩ := hp
    rw [hw1, east_k yv hy]
    refine ⟨⟨Nat.le_refl _, Or.inl rfl⟩, ?_⟩
    refine z_imul (pc := 27) rfl ?_
    refine z_iadd (pc := 28) rfl ?_
    refine z_istore (pc := 29) (i := 4) (ls' := [(0, .ref 44), (1, .int (nI i)), (2, .int (nI k)), (3, .int (nI yv)), (4, .int (((zI w 48 i) + v) + ((nI k) * (zkE.getD yv 0))))]) rfl (by decide) rfl ?_
    refine z_aload_n (pc := 31) (i := 0) (j := 0) rfl rfl rfl ?_
    refine z_getR (pc := 32) (x := 49) rfl fl_Mod_23 hm.1 rfl (mr_49 hm) ?_
    refine z_iload_n (pc := 35) (i := 1) (j := 1) rfl rfl rfl ?_
    refine z_iald (pc := 36) rfl (mk_49 hm) (vp_in_nI h48 (by decide)) ?_
    refine z_eqi (y := zI w 49 i) (by rw [nI_clamp (by omega)]) ?_
    refine z_iload_n (pc := 37) (i := 2) (j := 2) rfl rfl rfl ?_
    refine z_iload_n (pc := 38) (i := 3) (j := 3) rfl rfl rfl ?_
    refine z_cS (pc := 39) (mc1 := 0) (ms1 := 0) (mc2 := 0) (ms2 := 0) (as := [.int (nI yv)]) (rest := [.int (nI k), .int (zI w 49 i)]) ok_Mod_south rfl rfl cl_Mod_294 (by omega) (Nat.le_of_ble_eq_true rfl) (Nat.le_of_ble_eq_true rfl) (Nat.le_refl _) (Nat.le_refl _) (c_Mod_south (nI yv) 0 _) (fun r1 w1 hp => ?_) rfl rfl
    obtain ⟨rfl, hw1⟩ := hp
    rw [hw1, south_k yv hy]
    refine ⟨⟨Nat.le_refl _, Or.inl rfl⟩, ?_⟩
    refine z_imul (pc := 42) rfl ?_
    refine z_iadd (pc := 43) rfl ?_
    refine z_istore (pc := 44) (i := 5) (ls' := [(0, .ref 44), (1, .int (nI i)), (2, .int (nI k)), (3, .int (nI yv)), (4, .int (((zI w 48 i) + v) + ((nI k) * (zkE.getD yv 0)))), (5, .int ((zI w 49 i) + ((nI k) * (zkS.getD yv 0))))]) rfl (by decide) rfl ?_
    refine z_aload_n (pc := 46) (i := 0) (j := 0) rfl rfl rfl ?_
    refine z_iload (pc := 47) (i := 4) (j := 4) rfl rfl ?_
    refine z_iload (pc := 49) (i := 5) (j := 5) rfl rfl ?_
    refine z_cV (pc := 51) (mc1 := 0) (ms1 := 0) (mc2 := 0) (ms2 := 0) (as := [.int (((zI w 48 i) + v) + ((nI k) * (zkE.getD yv 0))), .int ((zI w 49 i) + ((nI k) * (zkS.getD yv 0)))]) (rest := []) (o := 44) rfl rfl hm.1 ok_Mod_isCell rfl rfl cl_Mod_297 (by omega) (Nat.le_of_ble_eq_true rfl) (Nat.le_of_ble_eq_true rfl) (Nat.le_refl _) (Nat.le_refl _) (c_Mod_isCell (w := w) hm (((zI w 48 i) + v) + ((nI k) * (zkE.getD yv 0))) ((zI w 49 i) + ((nI k) * (zkS.getD yv 0))) 0) (fun r1 w1 hp => ?_) rfl rfl
    obtain ⟨rfl, hw1⟩ := hp
    have e51 : (if ((zI w 48 i) + v) + ((nI k) * (zkE.getD yv 0)) < 0 then (0 : Int32) else if zI w 46 (0 : Int32).toNatClampNeg ≤ ((zI w 48 i) + v) + ((nI k) * (zkE.getD yv 0)) then 0 else if (zI w 49 i) + ((nI k) * (zkS.getD yv 0)) < 0 then 0 else if zI w 46 (1 : Int32).toNatClampNeg ≤ (zI w 49 i) + ((nI k) * (zkS.getD yv 0)) then 0 else 1) = if (mcell (zI w) C R i yv k).isSome then 1 else 0 := by
      rw [show zI w 46 (0 : Int32).toNatClampNeg = nI C from hC, show zI w 46 (1 : Int32).toNatClampNeg = nI R from hR, cell16_has hC12 hR12]
      unfold mcell mX
      rw [h_j21]
    rw [hw1, e51]
    refine ⟨⟨Nat.le_refl _, Or.inl rfl⟩, ?_⟩
    rcases hq : mcell (zI w) C R i yv k with _ | q
    · refine z_if_eq (pc := 54) (tgt := 68) rfl (by decide) (fun _ => ?_) (fun h => absurd rfl h)
      refine z_iconst (pc := 68) (v := (-1)) rfl (by decide) ?_
      exact z_iret (pc := 69) rfl rfl ⟨rfl, rfl⟩
    · refine z_if_eq (pc := 54) (tgt := 68) rfl (by decide) (fun h => absurd (show (1 : Int32) = 0 from h) (by decide)) (fun _ => ?_)
      refine z_bipush (pc := 57) (v := 16) rfl (by decide) ?_
      refine z_iload (pc := 59) (i := 5) (j := 5) rfl rfl ?_
      refine z_imul (pc := 61) rfl ?_
      refine z_iload (pc := 62) (i := 4) (j := 4) rfl rfl ?_
      refine z_iadd (pc := 64) rfl ?_
      refine z_goto (pc := 65) (tgt := 69) rfl (by decide) ?_
      exact z_iret (pc := 69) rfl rfl ⟨by have e := (cell16_in hC12 hR12 hq).2.1; unfold mX at e; rw [h_j21, e]; rfl, rfl⟩
  refine z_iconst (pc := 12) (v := 3) rfl (by decide) ?_
  refine z_icmp_ne (pc := 13) (tgt := 20) rfl (by decide) (fun h13 => ?_) (fun h13 => ?_)
  · refine z_iconst (pc := 20) (v := 0) rfl (by decide) ?_
    exact j21 _ (by rw [if_neg h13] <;> rfl)
  · refine z_iconst (pc := 16) (v := 1) rfl (by decide) ?_
    refine z_goto (pc := 17) (tgt := 21) rfl (by decide) ?_
    exact j21 _ (by rw [if_pos h13] <;> rfl)
/-! WHOSE SMOKE LIES WHERE, as the model lays it -/
def smkI (cell : Nat → Option Nat) (h : Nat) (r : Nat → Int32) : Nat → Nat → Int32
  | 0 => r
  | i + 1 => match cell i with
    | none => smkI cell h r i
    | some c => upd (smkI cell h r i) c (smkI cell h r i c ||| bitI h)
def mlen (f : Nat → Nat → Int32) (G : Int32 → Int32 → Int32 → Int32) (hour burn : Int32) (yv h : Nat) : Nat := if (burn >>> (nI h &&& 31)) &&& 1 = 1 then plN (f 51 h) (G hour (f 50 h) (nI yv)) else 0
theorem mlen_le (f : Nat → Nat → Int32) (G : Int32 → Int32 → Int32 → Int32) (hour burn : Int32) (yv h : Nat) : mlen f G hour burn yv h ≤ 42 := by
  unfold mlen
  split
  · exact (plN_eq _ _).2
  · omega
def smkH (f : Nat → Nat → Int32) (C R yv : Nat) (G : Int32 → Int32 → Int32 → Int32) (hour burn : Int32) (r : Nat → Int32) : Nat → Nat → Int32
  | 0 => r
  | h + 1 => smkI (mcell f C R h yv) h (smkH f C R yv G hour burn r h) (mlen f G hour burn yv h)
def metB (x : Int32) (h : Nat) : Int32 := if (x >>> (nI h &&& 31)) &&& 1 = 1 then x &&& (bitI h ^^^ (-1)) else 0
def metI (m : Nat → Int32) (x : Int32) (i : Nat) : Nat → Int32 := fun h => if h < i ∧ 0 < x then m h ||| metB x h else m h
theorem metI_s (m : Nat → Int32) {x : Int32} (hx : 0 < x) (i : Nat) : upd (metI m x i) i (metI m x i i ||| metB x i) = metI m x (i + 1) := by
  funext k
  unfold upd metI
  by_cases hk : k = i
  · subst hk; simp [hx]
  · by_cases h2 : k < i
    · have : k < i + 1 := by omega
      simp [hk, h2, this]
    · have : ¬ k < i + 1 := by omega
      simp [hk, h2, this]
theorem metI_0 (m : Nat → Int32) (x : Int32) : metI m x 0 = m := by funext k; simp [metI]
theorem metI_n (m : Nat → Int32) {x : Int32} (hx : x ≤ 0) (i : Nat) : metI m x i = m := by
  funext k
  unfold metI
  exact if_neg (fun z => absurd z.2 (Int32.not_lt.mpr hx))
def metC (m sm : Nat → Int32) (H : Nat) : Nat → Nat → Int32
  | 0 => m
  | c + 1 => metI (metC m sm H c) (sm c) H
theorem zr_u (w : zW) (f : Nat → Nat → Int32) (g : Nat → Int32) {o a : Nat} (h : a ≠ o) : zI (zuI w (zr f o g)) a = f a := zr_o f g h
theorem zs_zr (w : zW) (f : Nat → Nat → Int32) (o k : Nat) (g : Nat → Int32) (x : Int32) : zsI (zuI w (zr f o g)) o k x = zuI w (zr f o (upd g k x)) := by
  rw [← zr_put]; rfl
theorem zs_u (w : zW) (f : Nat → Nat → Int32) (o k : Nat) (x : Int32) : zsI (zuI w f) o k x = zuI w (z2 f o k x) := rfl
theorem zr_hu (w : zW) (f : Nat → Nat → Int32) (o k : Nat) (g : Nat → Int32) : zI (zuI w (zr f o g)) o k = g k := congrFun (zr_h f o g) k
theorem mcell_c {f g : Nat → Nat → Int32} (C R i yv : Nat) (e1 : g 48 = f 48) (e2 : g 49 = f 49) (e3 : g 51 = f 51) : mcell g C R i yv = mcell f C R i yv := by
  funext k
  unfold mcell mX
  rw [e1, e2, e3]
set_option maxRecDepth 100000 in
set_option maxHeartbeats 4000000 in
theorem lA_Mod_smokes {w : zW} (hm : zMo w) {P : Option Value → zW → Prop} (lit hour : Int32) (yv d : Nat) (kx : zS 0 0 d m_Mod_smokes P 25 [(0, .ref 44), (1, .int lit), (2, .int hour), (3, .int (nI yv)), (4, .int (nI 192))] [] (zuI w (zr (zI w) 70 (fillF (zI w 70) 0 192)))) : ∀ (m i : Nat), i ≤ 192 → 192 ≤ i + m → zS 0 0 d m_Mod_smokes P 3 [(0, .ref 44), (1, .int lit), (2, .int hour), (3, .int (nI yv)), (4, .int (nI i))] [] (zuI w (zr (zI w) 70 (fillF (zI w 70) 0 i))) := by
  have hex : zS 0 0 d m_Mod_smokes P 3 [(0, .ref 44), (1, .int lit), (2, .int hour), (3, .int (nI yv)), (4, .int (nI 192))] [] (zuI w (zr (zI w) 70 (fillF (zI w 70) 0 192))) := by
    refine z_iload (pc := 3) (i := 4) (j := 4) rfl rfl ?_
    refine z_sipush (pc := 5) (v := 192) rfl (by decide) ?_
    refine z_icmp_ge (pc := 8) (tgt := 25) rfl (by decide) (fun h8 => ?_) (fun h8 => ?_)
    · exact kx
    · exact absurd (by decide) h8
  intro m
  induction m with
  | zero =>
    intro i hi hmm
    obtain rfl : i = 192 := by omega
    exact hex
  | succ m ih =>
    intro i hi hmm
    by_cases hlt : i < 192
    · have kk := ih (i + 1) (by omega) (by omega)
      refine z_iload (pc := 3) (i := 4) (j := 4) rfl rfl ?_
      refine z_sipush (pc := 5) (v := 192) rfl (by decide) ?_
      refine z_icmp_ge (pc := 8) (tgt := 25) rfl (by decide) (fun h8 => ?_) (fun h8 => ?_)
      · exact absurd h8 (nI_ge (b := 192) hlt (by decide))
      · refine z_aload_n (pc := 11) (i := 0) (j := 0) rfl rfl rfl ?_
        refine z_getR (pc := 12) (x := 70) rfl fl_Mod_87 hm.1 rfl (mr_70 hm) ?_
        refine z_iload (pc := 15) (i := 4) (j := 4) rfl rfl ?_
        refine z_iconst (pc := 17) (v := 0) rfl (by decide) ?_
        refine z_iast (pc := 18) rfl (mk_70 hm) (vp_in_nI hlt (by decide)) ?_
        refine z_iinc (pc := 19) (i := 4) (j := 4) (v := nI (i + 1)) (ls' := [(0, .ref 44), (1, .int lit), (2, .int hour), (3, .int (nI yv)), (4, .int (nI (i + 1)))]) rfl rfl (nI_1 i) (by decide) rfl ?_
        refine z_goto (pc := 22) (tgt := 3) rfl (by decide) ?_
        rw [nI_clamp (by omega), zs_zr, fillF_s]
        exact kk
    · obtain rfl : i = 192 := by omega
      exact hex
set_option maxRecDepth 100000 in
set_option maxHeartbeats 4000000 in
theorem lC_Mod_smokes {w : zW} (hm : zMo w) {P : Option Value → zW → Prop} (f : Nat → Nat → Int32) {C R : Nat} (hC : f 46 0 = nI C) (hR : f 46 1 = nI R) (hC12 : C ≤ 12) (hR12 : R ≤ 12) {h yv : Nat} (h8 : h < 8) (hy : yv < 8) (lit hour : Int32) (n d : Nat) (hn : n ≤ 42) (hd : 2 ≤ d) (kx : zS 0 0 d m_Mod_smokes P 132 [(0, .ref 44), (1, .int lit), (2, .int hour), (3, .int (nI yv)), (4, .int (nI h))] [] (zuI w (zr f 70 (smkI (mcell f C R h yv) h (f 70) n)))) : ∀ (m i : Nat), i ≤ n → n ≤ i + m → zS 0 0 d m_Mod_smokes P 89 [(0, .ref 44), (1, .int lit), (2, .int hour), (3, .int (nI yv)), (4, .int (nI h)), (5, .int (nI n)), (6, .int (nI i))] [] (zuI w (zr f 70 (smkI (mcell f C R h yv) h (f 70) i))) := by
  have hex : zS 0 0 d m_Mod_smokes P 89 [(0, .ref 44), (1, .int lit), (2, .int hour), (3, .int (nI yv)), (4, .int (nI h)), (5, .int (nI n)), (6, .int (nI n))] [] (zuI w (zr f 70 (smkI (mcell f C R h yv) h (f 70) n))) := by
    refine z_iload (pc := 89) (i := 6) (j := 6) rfl rfl ?_
    refine z_iload (pc := 91) (i := 5) (j := 5) rfl rfl ?_
    refine z_icmp_ge (pc := 93) (tgt := 132) rfl (by decide) (fun h93 => ?_) (fun h93 => ?_)
    · refine z_drop ?_ kx
      simp
    · exact absurd (Int32.le_refl _) h93
  intro m
  induction m with
  | zero =>
    intro i hi hmm
    obtain rfl : i = n := by omega
    exact hex
  | succ m ih =>
    intro i hi hmm
    by_cases hlt : i < n
    · have kk := ih (i + 1) (by omega) (by omega)
      refine z_iload (pc := 89) (i := 6) (j := 6) rfl rfl ?_
      refine z_iload (pc := 91) (i := 5) (j := 5) rfl rfl ?_
      refine z_icmp_ge (pc := 93) (tgt := 132) rfl (by decide) (fun h93 => ?_) (fun h93 => ?_)
      · exact absurd h93 (nI_ge (b := n) hlt (by omega))
      · refine z_aload_n (pc := 96) (i := 0) (j := 0) rfl rfl rfl ?_
        refine z_iload (pc := 97) (i := 4) (j := 4) rfl rfl ?_
        refine z_iload (pc := 99) (i := 6) (j := 6) rfl rfl ?_
        refine z_iload_n (pc := 101) (i := 3) (j := 3) rfl rfl rfl ?_
        refine z_cV (pc := 102) (mc1 := 0) (ms1 := 0) (mc2 := 0) (ms2 := 0) (as := [.int (nI h), .int (nI i), .int (nI yv)]) (rest := []) (o := 44) rfl rfl hm.1 ok_Mod_cellOf rfl rfl cl_Mod_304 (by omega) (Nat.le_of_ble_eq_true rfl) (Nat.le_of_ble_eq_true rfl) (Nat.le_refl _) (Nat.le_refl _) (c_Mod_cellOf (w := zuI w (zr f 70 (smkI (mcell f C R h yv) h (f 70) i))) hm (C := C) (R := R) ((congrFun (zr_u w f _ (o := 70) (a := 46) (by decide)) 0).trans hC) ((congrFun (zr_u w f _ (o := 70) (a := 46) (by decide)) 1).trans hR) hC12 hR12 (i := h) (yv := yv) (k := i) (by omega) hy 1 (by decide)) (fun r1 w1 hp => ?_) rfl rfl
        obtain ⟨rfl, hw1⟩ := hp
        rw [hw1, mcell_c (f := f) (g := zI (zuI w (zr f 70 (smkI (mcell f C R h yv) h (f 70) i)))) C R h yv (zr_u w f _ (o := 70) (a := 48) (by decide)) (zr_u w f _ (o := 70) (a := 49) (by decide)) (zr_u w f _ (o := 70) (a := 51) (by decide))]
        refine ⟨⟨Nat.le_refl _, Or.inl rfl⟩, ?_⟩
        refine z_istore (pc := 105) (i := 7) (ls' := [(0, .ref 44), (1, .int lit), (2, .int hour), (3, .int (nI yv)), (4, .int (nI h)), (5, .int (nI n)), (6, .int (nI i)), (7, .int (cellV (mcell f C R h yv i)))]) rfl (by decide) rfl ?_
        refine z_iload (pc := 107) (i := 7) (j := 7) rfl rfl ?_
        rcases hq : mcell f C R h yv i with _ | c
        · refine z_if_lt (pc := 109) (tgt := 126) rfl (by decide) (fun _ => ?_) (fun h => absurd (show (-1 : Int32) < 0 by decide) h)
          have e1 : smkI (mcell f C R h yv) h (f 70) (i + 1) = smkI (mcell f C R h yv) h (f 70) i := by show (match mcell f C R h yv i with | none => _ | some c => _) = _; rw [hq]
          show zS 0 0 d m_Mod_smokes P 126 [(0, .ref 44), (1, .int lit), (2, .int hour), (3, .int (nI yv)), (4, .int (nI h)), (5, .int (nI n)), (6, .int (nI i)), (7, .int (-1))] [] _
          refine z_iinc (pc := 126) (i := 6) (j := 6) (v := nI (i + 1)) (ls' := [(0, .ref 44), (1, .int lit), (2, .int hour), (3, .int (nI yv)), (4, .int (nI h)), (5, .int (nI n)), (6, .int (nI (i + 1))), (7, .int (-1))]) rfl rfl (nI_1 i) (by decide) rfl ?_
          refine z_goto (pc := 129) (tgt := 89) rfl (by decide) ?_
          rw [← e1]
          refine z_drop ?_ kk
          simp
        · have hc := (cell16_in hC12 hR12 hq).1
          refine z_if_lt (pc := 109) (tgt := 126) rfl (by decide) (fun h => absurd (show nI c < 0 from h) (Int32.not_lt.mpr (nI_le (Nat.zero_le c) (by omega)))) (fun _ => ?_)
          have e1 : smkI (mcell f C R h yv) h (f 70) (i + 1) = upd (smkI (mcell f C R h yv) h (f 70) i) c (smkI (mcell f C R h yv) h (f 70) i c ||| bitI h) := by show (match mcell f C R h yv i with | none => _ | some c => _) = _; rw [hq]
          show zS 0 0 d m_Mod_smokes P 112 [(0, .ref 44), (1, .int lit), (2, .int hour), (3, .int (nI yv)), (4, .int (nI h)), (5, .int (nI n)), (6, .int (nI i)), (7, .int (nI c))] [] _
          refine z_aload_n (pc := 112) (i := 0) (j := 0) rfl rfl rfl ?_
          refine z_getR (pc := 113) (x := 70) rfl fl_Mod_87 hm.1 rfl (mr_70 hm) ?_
          refine z_iload (pc := 116) (i := 7) (j := 7) rfl rfl ?_
          refine z_dup2 (pc := 118) rfl rfl rfl ?_
          refine z_iald (pc := 119) rfl (mk_70 hm) (vp_in_nI hc (by decide)) ?_
          refine z_eqi (y := smkI (mcell f C R h yv) h (f 70) i c) (by rw [nI_clamp (by omega)]; exact zr_hu w f 70 c _) ?_
          refine z_iconst (pc := 120) (v := 1) rfl (by decide) ?_
          refine z_iload (pc := 121) (i := 4) (j := 4) rfl rfl ?_
          refine z_ishl (pc := 123) rfl ?_
          refine z_ior (pc := 124) rfl ?_
          refine z_iast (pc := 125) rfl (mk_70 hm) (vp_in_nI hc (by decide)) ?_
          refine z_iinc (pc := 126) (i := 6) (j := 6) (v := nI (i + 1)) (ls' := [(0, .ref 44), (1, .int lit), (2, .int hour), (3, .int (nI yv)), (4, .int (nI h)), (5, .int (nI n)), (6, .int (nI (i + 1))), (7, .int (nI c))]) rfl rfl (nI_1 i) (by decide) rfl ?_
          refine z_goto (pc := 129) (tgt := 89) rfl (by decide) ?_
          rw [nI_clamp (by omega), zs_zr]
          rw [e1] at kk
          refine z_drop ?_ kk
          simp
    · obtain rfl : i = n := by omega
      exact hex
set_option maxRecDepth 100000 in
set_option maxHeartbeats 4000000 in
theorem lE_Mod_smokes {w : zW} (hm : zMo w) {P : Option Value → zW → Prop} (f : Nat → Nat → Int32) {H : Nat} (hH : f 46 4 = nI H) (hH8 : H ≤ 8) {c : Nat} (hc : c < 192) (hx : 0 < f 70 c) (lit hour : Int32) (yv d : Nat) (kx : zS 0 0 d m_Mod_smokes P 223 [(0, .ref 44), (1, .int lit), (2, .int hour), (3, .int (nI yv)), (4, .int (nI c))] [] (zuI w (zr f 71 (metI (f 71) (f 70 c) H)))) : ∀ (m i : Nat), i ≤ H → H ≤ i + m → zS 0 0 d m_Mod_smokes P 152 [(0, .ref 44), (1, .int lit), (2, .int hour), (3, .int (nI yv)), (4, .int (nI c)), (5, .int (nI i))] [] (zuI w (zr f 71 (metI (f 71) (f 70 c) i))) := by
  have hex : zS 0 0 d m_Mod_smokes P 152 [(0, .ref 44), (1, .int lit), (2, .int hour), (3, .int (nI yv)), (4, .int (nI c)), (5, .int (nI H))] [] (zuI w (zr f 71 (metI (f 71) (f 70 c) H))) := by
    refine z_iload (pc := 152) (i := 5) (j := 5) rfl rfl ?_
    refine z_aload_n (pc := 154) (i := 0) (j := 0) rfl rfl rfl ?_
    refine z_getR (pc := 155) (x := 46) rfl fl_Mod_13 hm.1 rfl (mr_46 hm) ?_
    refine z_iconst (pc := 158) (v := 4) rfl (by decide) ?_
    refine z_iald (pc := 159) rfl (mk_46 hm) (vp_in_nI (n := 4) (by decide) (by decide)) ?_
    refine z_eqi (y := nI H) ((congrFun (zr_u w f _ (o := 71) (a := 46) (by decide)) 4).trans hH) ?_
    refine z_icmp_ge (pc := 160) (tgt := 223) rfl (by decide) (fun h160 => ?_) (fun h160 => ?_)
    · refine z_drop ?_ kx
      simp
    · exact absurd (Int32.le_refl _) h160
  intro m
  induction m with
  | zero =>
    intro i hi hmm
    obtain rfl : i = H := by omega
    exact hex
  | succ m ih =>
    intro i hi hmm
    by_cases hlt : i < H
    · have kk := ih (i + 1) (by omega) (by omega)
      refine z_iload (pc := 152) (i := 5) (j := 5) rfl rfl ?_
      refine z_aload_n (pc := 154) (i := 0) (j := 0) rfl rfl rfl ?_
      refine z_getR (pc := 155) (x := 46) rfl fl_Mod_13 hm.1 rfl (mr_46 hm) ?_
      refine z_iconst (pc := 158) (v := 4) rfl (by decide) ?_
      refine z_iald (pc := 159) rfl (mk_46 hm) (vp_in_nI (n := 4) (by decide) (by decide)) ?_
      refine z_eqi (y := nI H) ((congrFun (zr_u w f _ (o := 71) (a := 46) (by decide)) 4).trans hH) ?_
      refine z_icmp_ge (pc := 160) (tgt := 223) rfl (by decide) (fun h160 => ?_) (fun h160 => ?_)
      · exact absurd h160 (nI_ge (b := H) hlt (by omega))
      · refine z_aload_n (pc := 163) (i := 0) (j := 0) rfl rfl rfl ?_
        refine z_getR (pc := 164) (x := 70) rfl fl_Mod_87 hm.1 rfl (mr_70 hm) ?_
        refine z_iload (pc := 167) (i := 4) (j := 4) rfl rfl ?_
        refine z_iald (pc := 169) rfl (mk_70 hm) (vp_in_nI hc (by decide)) ?_
        refine z_eqi (y := f 70 c) (by rw [nI_clamp (by omega)]; exact congrFun (zr_u w f _ (o := 71) (a := 70) (by decide)) c) ?_
        refine z_if_le (pc := 170) (tgt := 223) rfl (by decide) (fun h170 => ?_) (fun h170 => ?_)
        · exact absurd hx (Int32.not_lt.mpr h170)
        · refine z_aload_n (pc := 173) (i := 0) (j := 0) rfl rfl rfl ?_
          refine z_getR (pc := 174) (x := 71) rfl fl_Mod_90 hm.1 rfl (mr_71 hm) ?_
          refine z_iload (pc := 177) (i := 5) (j := 5) rfl rfl ?_
          refine z_dup2 (pc := 179) rfl rfl rfl ?_
          refine z_iald (pc := 180) rfl (mk_71 hm) (vp_in_nI (show i < 8 by omega) (by decide)) ?_
          refine z_eqi (y := metI (f 71) (f 70 c) i i) (by rw [nI_clamp (by omega)]; exact zr_hu w f 71 i _) ?_
          refine z_aload_n (pc := 181) (i := 0) (j := 0) rfl rfl rfl ?_
          refine z_getR (pc := 182) (x := 70) rfl fl_Mod_87 hm.1 rfl (mr_70 hm) ?_
          refine z_iload (pc := 185) (i := 4) (j := 4) rfl rfl ?_
          refine z_iald (pc := 187) rfl (mk_70 hm) (vp_in_nI hc (by decide)) ?_
          refine z_eqi (y := f 70 c) (by rw [nI_clamp (by omega)]; exact congrFun (zr_u w f _ (o := 71) (a := 70) (by decide)) c) ?_
          refine z_iload (pc := 188) (i := 5) (j := 5) rfl rfl ?_
          refine z_ishr (pc := 190) rfl ?_
          refine z_iconst (pc := 191) (v := 1) rfl (by decide) ?_
          refine z_iand (pc := 192) rfl ?_
          have j215 : ∀ u : Int32, (u = metB (f 70 c) i) → zS 0 0 d m_Mod_smokes P 215 [(0, .ref 44), (1, .int lit), (2, .int hour), (3, .int (nI yv)), (4, .int (nI c)), (5, .int (nI i))] [.int u, .int (metI (f 71) (f 70 c) i i), .int (nI i), .ref 71] (zuI w (zr f 71 (metI (f 71) (f 70 c) i))) := by
            intro u h_j215
            refine z_ior (pc := 215) rfl ?_
            refine z_iast (pc := 216) rfl (mk_71 hm) (vp_in_nI (show i < 8 by omega) (by decide)) ?_
            refine z_iinc (pc := 217) (i := 5) (j := 5) (v := nI (i + 1)) (ls' := [(0, .ref 44), (1, .int lit), (2, .int hour), (3, .int (nI yv)), (4, .int (nI c)), (5, .int (nI (i + 1)))]) rfl rfl (nI_1 i) (by decide) rfl ?_
            refine z_goto (pc := 220) (tgt := 152) rfl (by decide) ?_
            rw [h_j215, nI_clamp (by omega), zs_zr, metI_s _ hx]
            exact kk
          refine z_iconst (pc := 193) (v := 1) rfl (by decide) ?_
          refine z_icmp_ne (pc := 194) (tgt := 214) rfl (by decide) (fun h194 => ?_) (fun h194 => ?_)
          · refine z_iconst (pc := 214) (v := 0) rfl (by decide) ?_
            exact j215 _ (by unfold metB; rw [if_neg h194])
          · refine z_aload_n (pc := 197) (i := 0) (j := 0) rfl rfl rfl ?_
            refine z_getR (pc := 198) (x := 70) rfl fl_Mod_87 hm.1 rfl (mr_70 hm) ?_
            refine z_iload (pc := 201) (i := 4) (j := 4) rfl rfl ?_
            refine z_iald (pc := 203) rfl (mk_70 hm) (vp_in_nI hc (by decide)) ?_
            refine z_eqi (y := f 70 c) (by rw [nI_clamp (by omega)]; exact congrFun (zr_u w f _ (o := 71) (a := 70) (by decide)) c) ?_
            refine z_iconst (pc := 204) (v := 1) rfl (by decide) ?_
            refine z_iload (pc := 205) (i := 5) (j := 5) rfl rfl ?_
            refine z_ishl (pc := 207) rfl ?_
            refine z_iconst (pc := 208) (v := (-1)) rfl (by decide) ?_
            refine z_ixor (pc := 209) rfl ?_
            refine z_iand (pc := 210) rfl ?_
            refine z_goto (pc := 211) (tgt := 215) rfl (by decide) ?_
            exact j215 _ (by unfold metB; rw [if_pos h194]; rfl)
    · obtain rfl : i = H := by omega
      exact hex
set_option maxRecDepth 100000 in
set_option maxHeartbeats 4000000 in
theorem lD_Mod_smokes {w : zW} (hm : zMo w) {P : Option Value → zW → Prop} (f : Nat → Nat → Int32) {H : Nat} (hH : f 46 4 = nI H) (hH8 : H ≤ 8) (lit hour : Int32) (yv d : Nat) (kx : P none (zuI w (zr f 71 (metC (f 71) (f 70) H 192)))) : ∀ (m i : Nat), i ≤ 192 → 192 ≤ i + m → zS 0 0 d m_Mod_smokes P 141 [(0, .ref 44), (1, .int lit), (2, .int hour), (3, .int (nI yv)), (4, .int (nI i))] [] (zuI w (zr f 71 (metC (f 71) (f 70) H i))) := by
  intro m
  induction m with
  | zero =>
    intro i hi hmm
    obtain rfl : i = 192 := by omega
    refine z_iload (pc := 141) (i := 4) (j := 4) rfl rfl ?_
    refine z_sipush (pc := 143) (v := 192) rfl (by decide) ?_
    refine z_icmp_ge (pc := 146) (tgt := 229) rfl (by decide) (fun _ => ?_) (fun h => absurd (by decide) h)
    exact z_vret (pc := 229) rfl rfl kx
  | succ m ih =>
    intro i hi hmm
    by_cases hlt : i < 192
    · have kk := ih (i + 1) (by omega) (by omega)
      have k223 : zS 0 0 d m_Mod_smokes P 223 [(0, .ref 44), (1, .int lit), (2, .int hour), (3, .int (nI yv)), (4, .int (nI i))] [] (zuI w (zr f 71 (metC (f 71) (f 70) H (i + 1)))) := by
        refine z_iinc (pc := 223) (i := 4) (j := 4) (v := nI (i + 1)) (ls' := [(0, .ref 44), (1, .int lit), (2, .int hour), (3, .int (nI yv)), (4, .int (nI (i + 1)))]) rfl rfl (nI_1 i) (by decide) rfl ?_
        refine z_goto (pc := 226) (tgt := 141) rfl (by decide) ?_
        exact kk
      refine z_iload (pc := 141) (i := 4) (j := 4) rfl rfl ?_
      refine z_sipush (pc := 143) (v := 192) rfl (by decide) ?_
      refine z_icmp_ge (pc := 146) (tgt := 229) rfl (by decide) (fun h => absurd h (nI_ge (b := 192) hlt (by decide))) (fun _ => ?_)
      refine z_iconst (pc := 149) (v := nI 0) rfl rfl ?_
      refine z_istore (pc := 150) (i := 5) (ls' := [(0, .ref 44), (1, .int lit), (2, .int hour), (3, .int (nI yv)), (4, .int (nI i)), (5, .int (nI 0))]) rfl (by decide) rfl ?_
      have e70 : (zr f 71 (metC (f 71) (f 70) H i)) 70 i = f 70 i := congrFun (zr_o f (o := 71) (a := 70) _ (by decide)) i
      have e46 : (zr f 71 (metC (f 71) (f 70) H i)) 46 4 = nI H := (congrFun (zr_o f (o := 71) (a := 46) _ (by decide)) 4).trans hH
      have e71 : (zr f 71 (metC (f 71) (f 70) H i)) 71 = metC (f 71) (f 70) H i := zr_h _ _ _
      by_cases hx : 0 < f 70 i
      · have l := lE_Mod_smokes hm (P := P) (zr f 71 (metC (f 71) (f 70) H i)) (H := H) e46 hH8 (c := i) hlt (by rw [e70]; exact hx) lit hour yv d (by rw [e71, e70, zr_zr]; exact k223) H 0 (by omega) (by omega)
        rw [metI_0, zr_self] at l
        exact l
      · have hx : f 70 i ≤ 0 := Int32.not_lt.mp hx
        have e1 : metC (f 71) (f 70) H (i + 1) = metC (f 71) (f 70) H i := metI_n _ hx H
        rw [e1] at k223
        refine z_iload (pc := 152) (i := 5) (j := 5) rfl rfl ?_
        refine z_aload_n (pc := 154) (i := 0) (j := 0) rfl rfl rfl ?_
        refine z_getR (pc := 155) (x := 46) rfl fl_Mod_13 hm.1 rfl (mr_46 hm) ?_
        refine z_iconst (pc := 158) (v := 4) rfl (by decide) ?_
        refine z_iald (pc := 159) rfl (mk_46 hm) (vp_in_nI (n := 4) (by decide) (by decide)) ?_
        refine z_icmp_ge (pc := 160) (tgt := 223) rfl (by decide) (fun _ => z_drop (by simp) k223) (fun _ => ?_)
        refine z_aload_n (pc := 163) (i := 0) (j := 0) rfl rfl rfl ?_
        refine z_getR (pc := 164) (x := 70) rfl fl_Mod_87 hm.1 rfl (mr_70 hm) ?_
        refine z_iload (pc := 167) (i := 4) (j := 4) rfl rfl ?_
        refine z_iald (pc := 169) rfl (mk_70 hm) (vp_in_nI hlt (by decide)) ?_
        refine z_eqi (y := f 70 i) (by rw [nI_clamp (by omega)]; exact e70) ?_
        exact z_if_le (pc := 170) (tgt := 223) rfl (by decide) (fun _ => z_drop (by simp) k223) (fun h => absurd hx h)
    · obtain rfl : i = 192 := by omega
      refine z_iload (pc := 141) (i := 4) (j := 4) rfl rfl ?_
      refine z_sipush (pc := 143) (v := 192) rfl (by decide) ?_
      refine z_icmp_ge (pc := 146) (tgt := 229) rfl (by decide) (fun _ => ?_) (fun h => absurd (by decide) h)
      exact z_vret (pc := 229) rfl rfl kx
theorem mlen_1 (f : Nat → Nat → Int32) (G : Int32 → Int32 → Int32 → Int32) (hour burn : Int32) (yv h : Nat) (e : (burn >>> (nI h &&& 31)) &&& 1 = 1) : mlen f G hour burn yv h = plN (f 51 h) (G hour (f 50 h) (nI yv)) := if_pos e
theorem mlen_0 (f : Nat → Nat → Int32) (G : Int32 → Int32 → Int32 → Int32) (hour burn : Int32) (yv h : Nat) (e : ¬ (burn >>> (nI h &&& 31)) &&& 1 = 1) : mlen f G hour burn yv h = 0 := if_neg e
set_option maxRecDepth 100000 in
set_option maxHeartbeats 4000000 in
theorem lB_Mod_smokes {w : zW} (hm : zMo w) {P : Option Value → zW → Prop} {C R H : Nat} (hC : zI w 46 0 = nI C) (hR : zI w 46 1 = nI R) (hH : zI w 46 4 = nI H) (hC12 : C ≤ 12) (hR12 : R ≤ 12) (hH8 : H ≤ 8) {G : Int32 → Int32 → Int32 → Int32} (hG : zMPl (zI w) G) {yv : Nat} (hy : yv < 8) (lit hour : Int32) (d : Nat) (hd : 4 ≤ d) (kx : ∀ f : Nat → Nat → Int32, (f 70 = smkH (zI w) C R yv G hour (lit &&& (zI w 67 137 ^^^ (-1))) (fillF (zI w 70) 0 192) H ∧ f 71 = fillF (zI w 71) 0 H ∧ ∀ o, (o < 57 ∨ 66 < o) → o ≠ 70 → o ≠ 71 → f o = zI w o) → zS 0 0 d m_Mod_smokes P 138 [(0, .ref 44), (1, .int lit), (2, .int hour), (3, .int (nI yv)), (4, .int (nI H))] [] (zuI w f)) : ∀ (m i : Nat) (f : Nat → Nat → Int32), i ≤ H → H ≤ i + m → (f 70 = smkH (zI w) C R yv G hour (lit &&& (zI w 67 137 ^^^ (-1))) (fillF (zI w 70) 0 192) i ∧ f 71 = fillF (zI w 71) 0 i ∧ ∀ o, (o < 57 ∨ 66 < o) → o ≠ 70 → o ≠ 71 → f o = zI w o) → zS 0 0 d m_Mod_smokes P 28 [(0, .ref 44), (1, .int lit), (2, .int hour), (3, .int (nI yv)), (4, .int (nI i))] [] (zuI w f) := by
  have hex : ∀ f : Nat → Nat → Int32, (f 70 = smkH (zI w) C R yv G hour (lit &&& (zI w 67 137 ^^^ (-1))) (fillF (zI w 70) 0 192) H ∧ f 71 = fillF (zI w 71) 0 H ∧ ∀ o, (o < 57 ∨ 66 < o) → o ≠ 70 → o ≠ 71 → f o = zI w o) → zS 0 0 d m_Mod_smokes P 28 [(0, .ref 44), (1, .int lit), (2, .int hour), (3, .int (nI yv)), (4, .int (nI H))] [] (zuI w f) := by
    intro f hf
    refine z_iload (pc := 28) (i := 4) (j := 4) rfl rfl ?_
    refine z_aload_n (pc := 30) (i := 0) (j := 0) rfl rfl rfl ?_
    refine z_getR (pc := 31) (x := 46) rfl fl_Mod_13 hm.1 rfl (mr_46 hm) ?_
    refine z_iconst (pc := 34) (v := 4) rfl (by decide) ?_
    refine z_iald (pc := 35) rfl (mk_46 hm) (vp_in_nI (n := 4) (by decide) (by decide)) ?_
    refine z_eqi (y := nI H) ((congrFun (hf.2.2 46 (by omega) (by omega) (by omega)) 4).trans hH) ?_
    refine z_icmp_ge (pc := 36) (tgt := 138) rfl (by decide) (fun h36 => ?_) (fun h36 => ?_)
    · exact kx f hf
    · exact absurd (Int32.le_refl _) h36
  intro m
  induction m with
  | zero =>
    intro i f hi hmm hf
    obtain rfl : i = H := by omega
    exact hex f hf
  | succ m ih =>
    intro i f hi hmm hf
    by_cases hlt : i < H
    · skip
      refine z_iload (pc := 28) (i := 4) (j := 4) rfl rfl ?_
      refine z_aload_n (pc := 30) (i := 0) (j := 0) rfl rfl rfl ?_
      refine z_getR (pc := 31) (x := 46) rfl fl_Mod_13 hm.1 rfl (mr_46 hm) ?_
      refine z_iconst (pc := 34) (v := 4) rfl (by decide) ?_
      refine z_iald (pc := 35) rfl (mk_46 hm) (vp_in_nI (n := 4) (by decide) (by decide)) ?_
      refine z_eqi (y := nI H) ((congrFun (hf.2.2 46 (by omega) (by omega) (by omega)) 4).trans hH) ?_
      refine z_icmp_ge (pc := 36) (tgt := 138) rfl (by decide) (fun h36 => ?_) (fun h36 => ?_)
      · exact absurd h36 (nI_ge (b := H) hlt (by omega))
      · refine z_aload_n (pc := 39) (i := 0) (j := 0) rfl rfl rfl ?_
        refine z_getR (pc := 40) (x := 71) rfl fl_Mod_90 hm.1 rfl (mr_71 hm) ?_
        refine z_iload (pc := 43) (i := 4) (j := 4) rfl rfl ?_
        refine z_iconst (pc := 45) (v := 0) rfl (by decide) ?_
        refine z_iast (pc := 46) rfl (mk_71 hm) (vp_in_nI (show i < 8 by omega) (by decide)) ?_
        rw [nI_clamp (by omega)]
        refine z_iload_n (pc := 47) (i := 1) (j := 1) rfl rfl rfl ?_
        refine z_aload_n (pc := 48) (i := 0) (j := 0) rfl rfl rfl ?_
        refine z_getR (pc := 49) (x := 67) rfl fl_Mod_78 hm.1 rfl (mr_67 hm) ?_
        refine z_sipush (pc := 52) (v := 137) rfl (by decide) ?_
        refine z_iald (pc := 55) rfl (mk_67 hm) (vp_in_nI (n := 137) (by decide) (by decide)) ?_
        refine z_eqi (y := zI w 67 137) (congrFun ((z2_ro f (o := 71) (a := 67) i 0 (by decide)).trans (hf.2.2 67 (by omega) (by omega) (by omega))) 137) ?_
        refine z_iconst (pc := 56) (v := (-1)) rfl (by decide) ?_
        refine z_ixor (pc := 57) rfl ?_
        refine z_iand (pc := 58) rfl ?_
        refine z_iload (pc := 59) (i := 4) (j := 4) rfl rfl ?_
        refine z_ishr (pc := 61) rfl ?_
        refine z_iconst (pc := 62) (v := 1) rfl (by decide) ?_
        refine z_iand (pc := 63) rfl ?_
        refine z_istore (pc := 64) (i := 5) (ls' := [(0, .ref 44), (1, .int lit), (2, .int hour), (3, .int (nI yv)), (4, .int (nI i)), (5, .int (((lit &&& ((zI w 67 137) ^^^ (-1))) >>> ((nI i) &&& 31)) &&& 1))]) rfl (by decide) rfl ?_
        have e52 : ∀ o, (o < 57 ∨ 66 < o) → o ≠ 70 → o ≠ 71 → z2 f 71 i 0 o = zI w o := fun o h1 h2 h3 => (z2_ro f i 0 h3).trans (hf.2.2 o h1 h2 h3)
        have j84 : ∀ g : Nat → Nat → Int32, (∀ o, (o < 57 ∨ 66 < o) → g o = z2 f 71 i 0 o) → zS 0 0 d m_Mod_smokes P 84 [(0, .ref 44), (1, .int lit), (2, .int hour), (3, .int (nI yv)), (4, .int (nI i))] [.int (nI (mlen (zI w) G hour (lit &&& (zI w 67 137 ^^^ (-1))) yv i))] (zuI w g) := by
          intro g hg
          have g1 : ∀ o, (o < 57 ∨ 66 < o) → o ≠ 70 → o ≠ 71 → g o = zI w o := fun o h1 h2 h3 => (hg o h1).trans (e52 o h1 h2 h3)
          have g70 : g 70 = f 70 := (hg 70 (by omega)).trans (z2_ro f i 0 (by decide))
          have g71 : g 71 = fillF (zI w 71) 0 (i + 1) := (hg 71 (by omega)).trans ((z2_row f 71 i 0).trans (by rw [← fillF_s, hf.2.1]; rfl))
          refine z_istore (pc := 84) (i := 5) (ls' := [(0, .ref 44), (1, .int lit), (2, .int hour), (3, .int (nI yv)), (4, .int (nI i)), (5, .int (nI (mlen (zI w) G hour (lit &&& (zI w 67 137 ^^^ (-1))) yv i)))]) rfl (by decide) rfl ?_
          refine z_iconst (pc := 86) (v := nI 0) rfl rfl ?_
          refine z_istore (pc := 87) (i := 6) (ls' := [(0, .ref 44), (1, .int lit), (2, .int hour), (3, .int (nI yv)), (4, .int (nI i)), (5, .int (nI (mlen (zI w) G hour (lit &&& (zI w 67 137 ^^^ (-1))) yv i))), (6, .int (nI 0))]) rfl (by decide) rfl ?_
          have l := lC_Mod_smokes hm (P := P) g (C := C) (R := R) ((congrFun (g1 46 (by omega) (by omega) (by omega)) 0).trans hC) ((congrFun (g1 46 (by omega) (by omega) (by omega)) 1).trans hR) hC12 hR12 (h := i) (yv := yv) (by omega) hy lit hour (mlen (zI w) G hour (lit &&& (zI w 67 137 ^^^ (-1))) yv i) d (mlen_le _ _ _ _ _ _) (by omega) ?_ _ 0 (Nat.zero_le _) (Nat.le_add_left _ _)
          · rw [show smkI (mcell g C R i yv) i (g 70) 0 = g 70 from rfl, zr_self] at l
            exact l
          refine z_iinc (pc := 132) (i := 4) (j := 4) (v := nI (i + 1)) (ls' := [(0, .ref 44), (1, .int lit), (2, .int hour), (3, .int (nI yv)), (4, .int (nI (i + 1)))]) rfl rfl (nI_1 i) (by decide) rfl ?_
          refine z_goto (pc := 135) (tgt := 28) rfl (by decide) ?_
          refine ih (i + 1) _ (by omega) (by omega) ⟨?_, (zr_o g (o := 70) (a := 71) _ (by decide)).trans g71, fun o h1 h2 h3 => (zr_o g (o := 70) (a := o) _ h2).trans (g1 o h1 h2 h3)⟩
          rw [zr_h, g70, hf.1, mcell_c (f := zI w) (g := g) C R i yv (g1 48 (by omega) (by omega) (by omega)) (g1 49 (by omega) (by omega) (by omega)) (g1 51 (by omega) (by omega) (by omega))]
          rfl
        refine z_iload (pc := 66) (i := 5) (j := 5) rfl rfl ?_
        refine z_iconst (pc := 68) (v := 1) rfl (by decide) ?_
        refine z_icmp_ne (pc := 69) (tgt := 83) rfl (by decide) (fun h69 => ?_) (fun h69 => ?_)
        · refine z_iconst (pc := 83) (v := 0) rfl (by decide) ?_
          refine z_eqi (y := nI (mlen (zI w) G hour (lit &&& (zI w 67 137 ^^^ (-1))) yv i)) (by rw [mlen_0 _ _ _ _ _ _ h69]; rfl) ?_
          exact z_drop (by simp) (j84 _ (fun _ _ => rfl))
        · refine z_aload_n (pc := 72) (i := 0) (j := 0) rfl rfl rfl ?_
          refine z_iload (pc := 73) (i := 4) (j := 4) rfl rfl ?_
          refine z_iload_n (pc := 75) (i := 2) (j := 2) rfl rfl rfl ?_
          refine z_iload_n (pc := 76) (i := 3) (j := 3) rfl rfl rfl ?_
          refine z_cV (pc := 77) (mc1 := 0) (ms1 := 0) (mc2 := 0) (ms2 := 0) (as := [.int (nI i), .int hour, .int (nI yv)]) (rest := []) (o := 44) rfl rfl hm.1 ok_Mod_longOf rfl rfl cl_Mod_300 (by omega) (Nat.le_of_ble_eq_true rfl) (Nat.le_of_ble_eq_true rfl) (Nat.le_refl _) (Nat.le_refl _) (c_Mod_longOf (w := zuI w (z2 f 71 i 0)) hm (G := G) (zMPl_c hG (e52 52 (by omega) (by omega) (by omega)) (e52 53 (by omega) (by omega) (by omega)) (e52 54 (by omega) (by omega) (by omega))) (i := i) (by omega) hour (nI yv) 3 (by decide)) (fun r1 w1 hp => ?_) rfl rfl
          obtain ⟨f1, hw1, rfl, hf1⟩ := hp
          rw [hw1]
          refine ⟨⟨Nat.le_refl _, Or.inl rfl⟩, ?_⟩
          rw [show zI (zuI w (z2 f 71 i 0)) 51 = zI w 51 from e52 51 (by omega) (by omega) (by omega), show zI (zuI w (z2 f 71 i 0)) 50 = zI w 50 from e52 50 (by omega) (by omega) (by omega), (plN_eq _ _).1, ← mlen_1 (zI w) G hour (lit &&& (zI w 67 137 ^^^ (-1))) yv i h69]
          refine z_goto (pc := 80) (tgt := 84) rfl (by decide) ?_
          exact z_drop (by simp) (j84 f1 hf1)
    · obtain rfl : i = H := by omega
      exact hex f hf
def smkM (f : Nat → Nat → Int32) (C R yv : Nat) (G : Int32 → Int32 → Int32 → Int32) (hour burn : Int32) (H : Nat) : Nat → Int32 := smkH f C R yv G hour burn (fillF (f 70) 0 192) H
def metM (f : Nat → Nat → Int32) (C R yv : Nat) (G : Int32 → Int32 → Int32 → Int32) (hour burn : Int32) (H : Nat) : Nat → Int32 := metC (fillF (f 71) 0 H) (smkM f C R yv G hour burn H) H 192
set_option maxRecDepth 100000 in
set_option maxHeartbeats 4000000 in
theorem c_Mod_smokes {w : zW} (hm : zMo w) {C R H : Nat} (hC : zI w 46 0 = nI C) (hR : zI w 46 1 = nI R) (hH : zI w 46 4 = nI H) (hC12 : C ≤ 12) (hR12 : R ≤ 12) (hH8 : H ≤ 8) {G : Int32 → Int32 → Int32 → Int32} (hG : zMPl (zI w) G) {yv : Nat} (hy : yv < 8) (lit hour : Int32) (d : Nat) (hd : 4 ≤ d) : zS 0 0 d m_Mod_smokes (fun rv w1 => ∃ f, w1 = zuI w f ∧ rv = none ∧ f 70 = smkM (zI w) C R yv G hour (lit &&& (zI w 67 137 ^^^ (-1))) H ∧ f 71 = metM (zI w) C R yv G hour (lit &&& (zI w 67 137 ^^^ (-1))) H ∧ ∀ o, (o < 57 ∨ 66 < o) → o ≠ 70 → o ≠ 71 → f o = zI w o) 0 [(0, .ref 44), (1, .int lit), (2, .int hour), (3, .int (nI yv))] [] w := by
  refine z_iconst (pc := 0) (v := nI 0) rfl rfl ?_
  refine z_istore (pc := 1) (i := 4) (ls' := [(0, .ref 44), (1, .int lit), (2, .int hour), (3, .int (nI yv)), (4, .int (nI 0))]) rfl (by decide) rfl ?_
  have lA := lA_Mod_smokes hm (P := (fun rv w1 => ∃ f, w1 = zuI w f ∧ rv = none ∧ f 70 = smkM (zI w) C R yv G hour (lit &&& (zI w 67 137 ^^^ (-1))) H ∧ f 71 = metM (zI w) C R yv G hour (lit &&& (zI w 67 137 ^^^ (-1))) H ∧ ∀ o, (o < 57 ∨ 66 < o) → o ≠ 70 → o ≠ 71 → f o = zI w o)) lit hour yv d ?_ 192 0 (by omega) (by omega)
  · rw [fillF_0, zr_self] at lA
    exact lA
  refine z_iconst (pc := 25) (v := nI 0) rfl rfl ?_
  refine z_istore (pc := 26) (i := 4) (ls' := [(0, .ref 44), (1, .int lit), (2, .int hour), (3, .int (nI yv)), (4, .int (nI 0))]) rfl (by decide) rfl ?_
  have e : ∀ o, o ≠ 70 → zr (zI w) 70 (fillF (zI w 70) 0 192) o = zI w o := fun o h => zr_o (zI w) (o := 70) (a := o) _ h
  refine lB_Mod_smokes (w := w) hm hC hR hH hC12 hR12 hH8 hG hy lit hour d hd ?_ H 0 (zr (zI w) 70 (fillF (zI w 70) 0 192)) (by omega) (by omega) ⟨zr_h _ _ _, (e 71 (by decide)).trans (fillF_0 _ _).symm, fun o _ h2 _ => e o h2⟩
  intro f hf
  refine z_iconst (pc := 138) (v := nI 0) rfl rfl ?_
  refine z_istore (pc := 139) (i := 4) (ls' := [(0, .ref 44), (1, .int lit), (2, .int hour), (3, .int (nI yv)), (4, .int (nI 0))]) rfl (by decide) rfl ?_
  have lD := lD_Mod_smokes hm (P := (fun rv w1 => ∃ f, w1 = zuI w f ∧ rv = none ∧ f 70 = smkM (zI w) C R yv G hour (lit &&& (zI w 67 137 ^^^ (-1))) H ∧ f 71 = metM (zI w) C R yv G hour (lit &&& (zI w 67 137 ^^^ (-1))) H ∧ ∀ o, (o < 57 ∨ 66 < o) → o ≠ 70 → o ≠ 71 → f o = zI w o)) f (H := H) ((congrFun (hf.2.2 46 (by omega) (by omega) (by omega)) 4).trans hH) hH8 lit hour yv d ?_ 192 0 (by omega) (by omega)
  · rw [show metC (f 71) (f 70) H 0 = f 71 from rfl, zr_self] at lD
    exact lD
  refine ⟨_, rfl, rfl, (zr_o f (o := 71) (a := 70) _ (by decide)).trans hf.1, ?_, fun o h1 h2 h3 => (zr_o f (o := 71) (a := o) _ h3).trans (hf.2.2 o h1 h2 h3)⟩
  rw [zr_h, hf.1, hf.2.1]
  rfl
