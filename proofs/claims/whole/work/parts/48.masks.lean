/-! THE MODEL'S ASKS -/
def zMi (f : Nat → Nat → Int32) (C R H : Nat) (V : Int32 → Int32) (G : Int32 → Int32 → Int32 → Int32) : Prop := f 46 0 = nI C ∧ f 46 1 = nI R ∧ f 46 4 = nI H ∧ C ≤ 12 ∧ R ≤ 12 ∧ H ≤ 8 ∧ zMWind f V ∧ zMPl f G
theorem zMi_c {f g : Nat → Nat → Int32} {C R H : Nat} {V : Int32 → Int32} {G : Int32 → Int32 → Int32 → Int32} (h : zMi f C R H V G) (e0 : g 46 = f 46) (e2 : g 52 = f 52) (e3 : g 53 = f 53) (e4 : g 54 = f 54) : zMi g C R H V G :=
  ⟨by rw [e0]; exact h.1, by rw [e0]; exact h.2.1, by rw [e0]; exact h.2.2.1, h.2.2.2.1, h.2.2.2.2.1, h.2.2.2.2.2.1, zMWind_c h.2.2.2.2.2.2.1 e2 e3 e4, zMPl_c h.2.2.2.2.2.2.2 e2 e3 e4⟩
def mset (f : Nat → Nat → Int32) (C R yv : Nat) (G : Int32 → Int32 → Int32 → Int32) (hour burn : Int32) (H a : Nat) : Int32 := metC (fun _ => 0) (smkH f C R yv G hour burn (fun _ => 0) H) H 192 a
theorem smk0_tb (f : Nat → Nat → Int32) (C R yv : Nat) (G : Int32 → Int32 → Int32 → Int32) (hour burn : Int32) {H c b : Nat} (hH : H ≤ 8) (hb : b < 32) : tb (smkH f C R yv G hour burn (fun _ => 0) H c) b = (decide (b < H) && mcov f C R yv G hour burn b c) := by
  rw [smkH_tb f C R yv G hour burn _ c hb H (by omega), tb_0, Bool.false_or]
  rfl
theorem mset_tb (f : Nat → Nat → Int32) (C R yv : Nat) (G : Int32 → Int32 → Int32 → Int32) (hour burn : Int32) {H a b : Nat} (hH : H ≤ 8) (ha : a < H) (hb : b < 32) : tb (mset f C R yv G hour burn H a) b = true ↔ b ≠ a ∧ b < H ∧ ∃ c, c < 192 ∧ mcov f C R yv G hour burn a c = true ∧ mcov f C R yv G hour burn b c = true := by
  have s8 : ∀ c, c < 192 → set8 (smkH f C R yv G hour burn (fun _ => 0) H c) := fun c _ i h1 h2 => by rw [smk0_tb f C R yv G hour burn hH h2, decide_eq_false (by omega), Bool.false_and]
  unfold mset
  rw [metC_tb _ _ H hH ha hb 192 s8, tb_0, Bool.false_or, anyB_iff]
  constructor
  · rintro ⟨c, hc, h⟩
    rw [smk0_tb f C R yv G hour burn hH (by omega), smk0_tb f C R yv G hour burn hH hb, decide_eq_true ha, Bool.true_and, Bool.and_eq_true, Bool.and_eq_true, Bool.and_eq_true] at h
    obtain ⟨h1, ⟨h2, h3⟩, h4⟩ := h
    exact ⟨by simpa using h4, of_decide_eq_true h2, c, hc, h1, h3⟩
  · rintro ⟨h1, h2, c, hc, h3, h4⟩
    refine ⟨c, hc, ?_⟩
    rw [smk0_tb f C R yv G hour burn hH (by omega), smk0_tb f C R yv G hour burn hH hb, decide_eq_true ha, Bool.true_and, h3, h4, decide_eq_true h2]
    simp [h1]
theorem metM_set (f : Nat → Nat → Int32) (C R yv : Nat) (G : Int32 → Int32 → Int32 → Int32) (hour burn : Int32) {H a : Nat} (hH : H ≤ 8) (ha : a < H) : metM f C R yv G hour burn H a = mset f C R yv G hour burn H a :=
  tb_ext fun _ hi => bool_iff ((metM_tb f C R yv G hour burn hH ha hi).trans (mset_tb f C R yv G hour burn hH ha hi).symm)
theorem mset_8 (f : Nat → Nat → Int32) (C R yv : Nat) (G : Int32 → Int32 → Int32 → Int32) (hour burn : Int32) {H a : Nat} (hH : H ≤ 8) (ha : a < H) : set8 (mset f C R yv G hour burn H a) := by rw [← metM_set f C R yv G hour burn hH ha]; exact metM_8 f C R yv G hour burn hH ha
theorem mset_c {f g : Nat → Nat → Int32} (e1 : g 48 = f 48) (e2 : g 49 = f 49) (e3 : g 50 = f 50) (e4 : g 51 = f 51) (C R yv : Nat) (G : Int32 → Int32 → Int32 → Int32) (hour burn : Int32) (H : Nat) : mset g C R yv G hour burn H = mset f C R yv G hour burn H := by
  funext a
  have e : ∀ n, smkH g C R yv G hour burn (fun _ => 0) n = smkH f C R yv G hour burn (fun _ => 0) n := by
    intro n
    induction n with
    | zero => rfl
    | succ n ih =>
      show smkI _ n (smkH g C R yv G hour burn _ n) _ = smkI _ n (smkH f C R yv G hour burn _ n) _
      rw [ih, mcell_c C R n yv e1 e2 e4]
      unfold mlen
      rw [e3, e4]
  unfold mset
  rw [e]
theorem isH_eq {H : Nat} (hH8 : H ≤ 8) (b : Int32) : (if b < 0 then (0 : Int32) else if nI H ≤ b then 0 else 1) = if hOK H b = true then 1 else 0 := hOK_if hH8 b
set_option maxRecDepth 100000 in
set_option maxHeartbeats 4000000 in
theorem c_Mod_areTwo {w : zW} (hm : zMo w) {C R H : Nat} {V : Int32 → Int32} {G : Int32 → Int32 → Int32 → Int32} (hi : zMi (zI w) C R H V G) (a b : Int32) (d : Nat) (hd : 1 ≤ d) : zS 0 0 d m_Mod_areTwo (fun rv w1 => rv = some (.int (twoOK H a b)) ∧ w1 = w) 0 [(0, .ref 44), (1, .int a), (2, .int b)] [] w := by
  refine z_aload_n (pc := 0) (i := 0) (j := 0) rfl rfl rfl ?_
  refine z_iload_n (pc := 1) (i := 1) (j := 1) rfl rfl rfl ?_
  refine z_cV (pc := 2) (mc1 := 0) (ms1 := 0) (mc2 := 0) (ms2 := 0) (as := [.int a]) (rest := []) (o := 44) rfl rfl hm.1 ok_Mod_isHouse rfl rfl cl_Mod_270 (by omega) (Nat.le_of_ble_eq_true rfl) (Nat.le_of_ble_eq_true rfl) (Nat.le_refl _) (Nat.le_refl _) (c_Mod_isHouse (w := w) hm a 0) (fun r1 w1 hp => ?_) rfl rfl
  obtain ⟨rfl, hw1⟩ := hp
  rw [hw1, show zI (w) 46 (4 : Int32).toNatClampNeg = nI H from hi.2.2.1, hOK_if hi.2.2.2.2.2.1]
  refine ⟨⟨Nat.le_refl _, Or.inl rfl⟩, ?_⟩
  refine z_if_eq (pc := 5) (tgt := 25) rfl (by decide) (fun h5 => ?_) (fun h5 => ?_)
  · refine z_iconst (pc := 25) (v := 0) rfl (by decide) ?_
    exact z_zret (pc := 26) rfl rfl (by decide) ⟨by unfold twoOK; rw [if_neg (ite_eq h5)], rfl⟩
  · refine z_aload_n (pc := 8) (i := 0) (j := 0) rfl rfl rfl ?_
    refine z_iload_n (pc := 9) (i := 2) (j := 2) rfl rfl rfl ?_
    refine z_cV (pc := 10) (mc1 := 0) (ms1 := 0) (mc2 := 0) (ms2 := 0) (as := [.int b]) (rest := []) (o := 44) rfl rfl hm.1 ok_Mod_isHouse rfl rfl cl_Mod_270 (by omega) (Nat.le_of_ble_eq_true rfl) (Nat.le_of_ble_eq_true rfl) (Nat.le_refl _) (Nat.le_refl _) (c_Mod_isHouse (w := w) hm b 0) (fun r1 w1 hp => ?_) rfl rfl
    obtain ⟨rfl, hw1⟩ := hp
    rw [hw1, show zI (w) 46 (4 : Int32).toNatClampNeg = nI H from hi.2.2.1, hOK_if hi.2.2.2.2.2.1]
    refine ⟨⟨Nat.le_refl _, Or.inl rfl⟩, ?_⟩
    refine z_if_eq (pc := 13) (tgt := 25) rfl (by decide) (fun h13 => ?_) (fun h13 => ?_)
    · refine z_iconst (pc := 25) (v := 0) rfl (by decide) ?_
      exact z_zret (pc := 26) rfl rfl (by decide) ⟨by unfold twoOK; rw [if_pos (ite_ne h5), if_neg (ite_eq h13)], rfl⟩
    · refine z_iload_n (pc := 16) (i := 1) (j := 1) rfl rfl rfl ?_
      refine z_iload_n (pc := 17) (i := 2) (j := 2) rfl rfl rfl ?_
      refine z_icmp_eq (pc := 18) (tgt := 25) rfl (by decide) (fun h18 => ?_) (fun h18 => ?_)
      · refine z_iconst (pc := 25) (v := 0) rfl (by decide) ?_
        exact z_zret (pc := 26) rfl rfl (by decide) ⟨by unfold twoOK; rw [if_pos (ite_ne h5), if_pos (ite_ne h13), if_pos h18], rfl⟩
      · refine z_iconst (pc := 21) (v := 1) rfl (by decide) ?_
        refine z_goto (pc := 22) (tgt := 26) rfl (by decide) ?_
        exact z_zret (pc := 26) rfl rfl (by decide) ⟨by unfold twoOK; rw [if_pos (ite_ne h5), if_pos (ite_ne h13), if_neg h18], rfl⟩
def orN (g : Nat → Int32) : Nat → Int32
  | 0 => 0
  | n + 1 => orN g n ||| g n
def wedTo (r : Nat → Int32) (i o : Nat) : Int32 := if r (8 * i + o) ≤ 0 then 0 else bitI o
set_option maxRecDepth 100000 in
set_option maxHeartbeats 4000000 in
theorem l_Mod_wedTo {w : zW} (hm : zMo w) {j : Nat} (hj : j < 8) (d : Nat) : ∀ (m i : Nat), i ≤ 8 → 8 ≤ i + m → zS 0 0 d m_Mod_wedTo (fun rv w1 => rv = some (.int (orN (wedTo (zI w 67) j) 8)) ∧ w1 = w) 4 [(0, .ref 44), (1, .int (nI j)), (2, .int (orN (wedTo (zI w 67) j) i)), (3, .int (nI i))] [] w := by
  have hex : zS 0 0 d m_Mod_wedTo (fun rv w1 => rv = some (.int (orN (wedTo (zI w 67) j) 8)) ∧ w1 = w) 4 [(0, .ref 44), (1, .int (nI j)), (2, .int (orN (wedTo (zI w 67) j) 8)), (3, .int (nI 8))] [] w := by
    refine z_iload_n (pc := 4) (i := 3) (j := 3) rfl rfl rfl ?_
    refine z_bipush (pc := 5) (v := 8) rfl (by decide) ?_
    refine z_icmp_ge (pc := 7) (tgt := 40) rfl (by decide) (fun h7 => ?_) (fun h7 => ?_)
    · refine z_iload_n (pc := 40) (i := 2) (j := 2) rfl rfl rfl ?_
      exact z_iret (pc := 41) rfl rfl ⟨rfl, rfl⟩
    · exact absurd (by decide) h7
  intro m
  induction m with
  | zero =>
    intro i hi hmm
    obtain rfl : i = 8 := by omega
    exact hex
  | succ m ih =>
    intro i hi hmm
    by_cases hlt : i < 8
    · have kk := ih (i + 1) (by omega) (by omega)
      refine z_iload_n (pc := 4) (i := 3) (j := 3) rfl rfl rfl ?_
      refine z_bipush (pc := 5) (v := 8) rfl (by decide) ?_
      refine z_icmp_ge (pc := 7) (tgt := 40) rfl (by decide) (fun h7 => ?_) (fun h7 => ?_)
      · exact absurd h7 (nI_ge (b := 8) hlt (by decide))
      · refine z_iload_n (pc := 10) (i := 2) (j := 2) rfl rfl rfl ?_
        refine z_aload_n (pc := 11) (i := 0) (j := 0) rfl rfl rfl ?_
        refine z_getR (pc := 12) (x := 67) rfl fl_Mod_78 hm.1 rfl (mr_67 hm) ?_
        refine z_bipush (pc := 15) (v := 8) rfl (by decide) ?_
        refine z_iload_n (pc := 17) (i := 1) (j := 1) rfl rfl rfl ?_
        refine z_imul (pc := 18) rfl ?_
        refine z_iload_n (pc := 19) (i := 3) (j := 3) rfl rfl rfl ?_
        refine z_iadd (pc := 20) rfl ?_
        refine z_eqi (y := nI (8 * j + i)) (by rw [show (8 : Int32) = nI 8 from rfl, pk_mul, nI_add]) ?_
        refine z_iald (pc := 21) rfl (mk_67 hm) (vp_in_nI (show 8 * j + i < 1344 by omega) (by decide)) ?_
        refine z_eqi (y := zI w 67 (8 * j + i)) (by rw [nI_clamp (by omega)]) ?_
        have j32 : ∀ u : Int32, (u = wedTo (zI w 67) j i) → zS 0 0 d m_Mod_wedTo (fun rv w1 => rv = some (.int (orN (wedTo (zI w 67) j) 8)) ∧ w1 = w) 32 [(0, .ref 44), (1, .int (nI j)), (2, .int (orN (wedTo (zI w 67) j) i)), (3, .int (nI i))] [.int u, .int (orN (wedTo (zI w 67) j) i)] w := by
          intro u h_j32
          refine z_ior (pc := 32) rfl ?_
          refine z_istore_n (pc := 33) (i := 2) (ls' := [(0, .ref 44), (1, .int (nI j)), (2, .int ((orN (wedTo (zI w 67) j) i) ||| u)), (3, .int (nI i))]) rfl rfl (by decide) rfl ?_
          refine z_iinc (pc := 34) (i := 3) (j := 3) (v := nI (i + 1)) (ls' := [(0, .ref 44), (1, .int (nI j)), (2, .int ((orN (wedTo (zI w 67) j) i) ||| u)), (3, .int (nI (i + 1)))]) rfl rfl (nI_1 i) (by decide) rfl ?_
          refine z_goto (pc := 37) (tgt := 4) rfl (by decide) ?_
          rw [h_j32]
          exact kk
        refine z_if_le (pc := 22) (tgt := 31) rfl (by decide) (fun h22 => ?_) (fun h22 => ?_)
        · refine z_iconst (pc := 31) (v := 0) rfl (by decide) ?_
          exact j32 _ (by unfold wedTo; rw [if_pos h22])
        · refine z_iconst (pc := 25) (v := 1) rfl (by decide) ?_
          refine z_iload_n (pc := 26) (i := 3) (j := 3) rfl rfl rfl ?_
          refine z_ishl (pc := 27) rfl ?_
          refine z_goto (pc := 28) (tgt := 32) rfl (by decide) ?_
          exact j32 _ (by unfold wedTo; rw [if_neg h22]; rfl)
    · obtain rfl : i = 8 := by omega
      exact hex
set_option maxRecDepth 100000 in
set_option maxHeartbeats 4000000 in
theorem c_Mod_wedTo {w : zW} (hm : zMo w) {j : Nat} (hj : j < 8) (d : Nat) : zS 0 0 d m_Mod_wedTo (fun rv w1 => rv = some (.int (orN (wedTo (zI w 67) j) 8)) ∧ w1 = w) 0 [(0, .ref 44), (1, .int (nI j))] [] w := by
  refine z_iconst (pc := 0) (v := 0) rfl (by decide) ?_
  refine z_istore_n (pc := 1) (i := 2) (ls' := [(0, .ref 44), (1, .int (nI j)), (2, .int 0)]) rfl rfl (by decide) rfl ?_
  refine z_iconst (pc := 2) (v := nI 0) rfl rfl ?_
  refine z_istore_n (pc := 3) (i := 3) (ls' := [(0, .ref 44), (1, .int (nI j)), (2, .int 0), (3, .int (nI 0))]) rfl rfl (by decide) rfl ?_
  exact l_Mod_wedTo hm hj d 8 0 (by omega) (by omega)
def sootA (r : Nat → Int32) (p : Nat) (x : Int32) (h : Nat) : Int32 := if x < 0 then r (176 + 8 * p + h) else if nI h = x then r (176 + 8 * p + h) else 0
set_option maxRecDepth 100000 in
set_option maxHeartbeats 4000000 in
theorem l_Mod_sootOf {w : zW} (hm : zMo w) {p : Nat} (hp1 : p < 144) (x : Int32) (d : Nat) : ∀ (m i : Nat), i ≤ 8 → 8 ≤ i + m → zS 0 0 d m_Mod_sootOf (fun rv w1 => rv = some (.int (rsum (sootA (zI w 67) p x) 8)) ∧ w1 = w) 5 [(0, .ref 44), (1, .int (nI p)), (2, .int x), (3, .int (rsum (sootA (zI w 67) p x) i)), (4, .int (nI i))] [] w := by
  have hex : zS 0 0 d m_Mod_sootOf (fun rv w1 => rv = some (.int (rsum (sootA (zI w 67) p x) 8)) ∧ w1 = w) 5 [(0, .ref 44), (1, .int (nI p)), (2, .int x), (3, .int (rsum (sootA (zI w 67) p x) 8)), (4, .int (nI 8))] [] w := by
    refine z_iload (pc := 5) (i := 4) (j := 4) rfl rfl ?_
    refine z_bipush (pc := 7) (v := 8) rfl (by decide) ?_
    refine z_icmp_ge (pc := 9) (tgt := 51) rfl (by decide) (fun h9 => ?_) (fun h9 => ?_)
    · refine z_iload_n (pc := 51) (i := 3) (j := 3) rfl rfl rfl ?_
      exact z_iret (pc := 52) rfl rfl ⟨rfl, rfl⟩
    · exact absurd (by decide) h9
  intro m
  induction m with
  | zero =>
    intro i hi hmm
    obtain rfl : i = 8 := by omega
    exact hex
  | succ m ih =>
    intro i hi hmm
    by_cases hlt : i < 8
    · have kk := ih (i + 1) (by omega) (by omega)
      refine z_iload (pc := 5) (i := 4) (j := 4) rfl rfl ?_
      refine z_bipush (pc := 7) (v := 8) rfl (by decide) ?_
      refine z_icmp_ge (pc := 9) (tgt := 51) rfl (by decide) (fun h9 => ?_) (fun h9 => ?_)
      · exact absurd h9 (nI_ge (b := 8) hlt (by decide))
      · refine z_iload_n (pc := 12) (i := 3) (j := 3) rfl rfl rfl ?_
        refine z_iload_n (pc := 13) (i := 2) (j := 2) rfl rfl rfl ?_
        have j43 : ∀ u : Int32, (u = sootA (zI w 67) p x i) → zS 0 0 d m_Mod_sootOf (fun rv w1 => rv = some (.int (rsum (sootA (zI w 67) p x) 8)) ∧ w1 = w) 43 [(0, .ref 44), (1, .int (nI p)), (2, .int x), (3, .int (rsum (sootA (zI w 67) p x) i)), (4, .int (nI i))] [.int u, .int (rsum (sootA (zI w 67) p x) i)] w := by
          intro u h_j43
          refine z_iadd (pc := 43) rfl ?_
          refine z_istore_n (pc := 44) (i := 3) (ls' := [(0, .ref 44), (1, .int (nI p)), (2, .int x), (3, .int ((rsum (sootA (zI w 67) p x) i) + u)), (4, .int (nI i))]) rfl rfl (by decide) rfl ?_
          refine z_iinc (pc := 45) (i := 4) (j := 4) (v := nI (i + 1)) (ls' := [(0, .ref 44), (1, .int (nI p)), (2, .int x), (3, .int ((rsum (sootA (zI w 67) p x) i) + u)), (4, .int (nI (i + 1)))]) rfl rfl (nI_1 i) (by decide) rfl ?_
          refine z_goto (pc := 48) (tgt := 5) rfl (by decide) ?_
          rw [h_j43]
          exact kk
        refine z_if_lt (pc := 14) (tgt := 23) rfl (by decide) (fun h14 => ?_) (fun h14 => ?_)
        · refine z_aload_n (pc := 23) (i := 0) (j := 0) rfl rfl rfl ?_
          refine z_getR (pc := 24) (x := 67) rfl fl_Mod_78 hm.1 rfl (mr_67 hm) ?_
          refine z_sipush (pc := 27) (v := 176) rfl (by decide) ?_
          refine z_bipush (pc := 30) (v := 8) rfl (by decide) ?_
          refine z_iload_n (pc := 32) (i := 1) (j := 1) rfl rfl rfl ?_
          refine z_imul (pc := 33) rfl ?_
          refine z_iadd (pc := 34) rfl ?_
          refine z_iload (pc := 35) (i := 4) (j := 4) rfl rfl ?_
          refine z_iadd (pc := 37) rfl ?_
          refine z_eqi (y := nI (176 + 8 * p + i)) (by rw [show (8 : Int32) = nI 8 from rfl, show (176 : Int32) = nI 176 from rfl, pk_mul, nI_add, nI_add]) ?_
          refine z_iald (pc := 38) rfl (mk_67 hm) (vp_in_nI (show 176 + 8 * p + i < 1344 by omega) (by decide)) ?_
          refine z_eqi (y := zI w 67 (176 + 8 * p + i)) (by rw [nI_clamp (by omega)]) ?_
          refine z_goto (pc := 39) (tgt := 43) rfl (by decide) ?_
          exact j43 _ (by unfold sootA; rw [if_pos h14])
        · refine z_iload (pc := 17) (i := 4) (j := 4) rfl rfl ?_
          refine z_iload_n (pc := 19) (i := 2) (j := 2) rfl rfl rfl ?_
          refine z_icmp_ne (pc := 20) (tgt := 42) rfl (by decide) (fun h20 => ?_) (fun h20 => ?_)
          · refine z_iconst (pc := 42) (v := 0) rfl (by decide) ?_
            exact j43 _ (by unfold sootA; rw [if_neg h14, if_neg h20])
          · refine z_aload_n (pc := 23) (i := 0) (j := 0) rfl rfl rfl ?_
            refine z_getR (pc := 24) (x := 67) rfl fl_Mod_78 hm.1 rfl (mr_67 hm) ?_
            refine z_sipush (pc := 27) (v := 176) rfl (by decide) ?_
            refine z_bipush (pc := 30) (v := 8) rfl (by decide) ?_
            refine z_iload_n (pc := 32) (i := 1) (j := 1) rfl rfl rfl ?_
            refine z_imul (pc := 33) rfl ?_
            refine z_iadd (pc := 34) rfl ?_
            refine z_iload (pc := 35) (i := 4) (j := 4) rfl rfl ?_
            refine z_iadd (pc := 37) rfl ?_
            refine z_eqi (y := nI (176 + 8 * p + i)) (by rw [show (8 : Int32) = nI 8 from rfl, show (176 : Int32) = nI 176 from rfl, pk_mul, nI_add, nI_add]) ?_
            refine z_iald (pc := 38) rfl (mk_67 hm) (vp_in_nI (show 176 + 8 * p + i < 1344 by omega) (by decide)) ?_
            refine z_eqi (y := zI w 67 (176 + 8 * p + i)) (by rw [nI_clamp (by omega)]) ?_
            refine z_goto (pc := 39) (tgt := 43) rfl (by decide) ?_
            exact j43 _ (by unfold sootA; rw [if_neg h14, if_pos h20])
    · obtain rfl : i = 8 := by omega
      exact hex
set_option maxRecDepth 100000 in
set_option maxHeartbeats 4000000 in
theorem c_Mod_sootOf {w : zW} (hm : zMo w) {p : Nat} (hp1 : p < 144) (x : Int32) (d : Nat) : zS 0 0 d m_Mod_sootOf (fun rv w1 => rv = some (.int (rsum (sootA (zI w 67) p x) 8)) ∧ w1 = w) 0 [(0, .ref 44), (1, .int (nI p)), (2, .int x)] [] w := by
  refine z_iconst (pc := 0) (v := 0) rfl (by decide) ?_
  refine z_istore_n (pc := 1) (i := 3) (ls' := [(0, .ref 44), (1, .int (nI p)), (2, .int x), (3, .int 0)]) rfl rfl (by decide) rfl ?_
  refine z_iconst (pc := 2) (v := nI 0) rfl rfl ?_
  refine z_istore (pc := 3) (i := 4) (ls' := [(0, .ref 44), (1, .int (nI p)), (2, .int x), (3, .int 0), (4, .int (nI 0))]) rfl (by decide) rfl ?_
  exact l_Mod_sootOf hm hp1 x d 8 0 (by omega) (by omega)
