def mSoot (f : Nat → Nat → Int32) (C R H : Nat) (x y v : Int32) : Int32 × Int32 := match cellP C R x y with
  | none => (1, 0)
  | some p => if (if v < -1 then 0 else if nI H - 1 < v then 0 else 1 : Int32) = 0 then (1, 0) else (0, rsum (sootA (f 67) p v) 8)
set_option maxRecDepth 100000 in
set_option maxHeartbeats 4000000 in
theorem c_Mod_soot {w : zW} (hm : zMo w) {C R H : Nat} {V : Int32 → Int32} {G : Int32 → Int32 → Int32 → Int32} (hi : zMi (zI w) C R H V G) (x y v : Int32) (d : Nat) (hd : 1 ≤ d) : zS 0 0 d m_Mod_soot (fun rv w1 => ∃ f, w1 = zuI w f ∧ rv = some (.int (mSoot (zI w) C R H x y v).2) ∧ (∀ o, o ≠ 44 → f o = zI w o) ∧ (∀ k, k ≠ 0 → f 44 k = zI w 44 k) ∧ f 44 0 = (mSoot (zI w) C R H x y v).1) 0 [(0, .ref 44), (1, .int x), (2, .int y), (3, .int v)] [] w := by
  rcases hq : cellP C R x y with _ | p
  · skip
    refine z_aload_n (pc := 0) (i := 0) (j := 0) rfl rfl rfl ?_
    refine z_aload_n (pc := 1) (i := 0) (j := 0) rfl rfl rfl ?_
    refine z_iload_n (pc := 2) (i := 1) (j := 1) rfl rfl rfl ?_
    refine z_iload_n (pc := 3) (i := 2) (j := 2) rfl rfl rfl ?_
    refine z_cV (pc := 4) (mc1 := 0) (ms1 := 0) (mc2 := 0) (ms2 := 0) (as := [.int x, .int y]) (rest := [.ref 44]) (o := 44) rfl rfl hm.1 ok_Mod_isCell rfl rfl cl_Mod_297 (by omega) (Nat.le_of_ble_eq_true rfl) (Nat.le_of_ble_eq_true rfl) (Nat.le_refl _) (Nat.le_refl _) (c_Mod_isCell (w := w) hm x y 0) (fun r1 w1 hp => ?_) rfl rfl
    obtain ⟨rfl, hw1⟩ := hp
    rw [hw1, show zI w 46 (0 : Int32).toNatClampNeg = nI C from hi.1, show zI w 46 (1 : Int32).toNatClampNeg = nI R from hi.2.1, cell_has hi.2.2.2.1 hi.2.2.2.2.1, hq]
    refine ⟨⟨Nat.le_refl _, Or.inl rfl⟩, ?_⟩
    show zS _ _ _ _ _ _ _ (.int 0 :: _) _
    refine z_if_eq (pc := 7) (tgt := 30) rfl (by decide) (fun h7 => ?_) (fun h7 => ?_)
    · refine z_iconst (pc := 30) (v := 1) rfl (by decide) ?_
      refine z_putI (pc := 31) rfl fl_Mod_100 hm.1 rfl  ?_
      refine z_aload_n (pc := 34) (i := 0) (j := 0) rfl rfl rfl ?_
      refine z_getI (pc := 35) rfl fl_Mod_100 hm.1 rfl ?_
      refine z_eqi (y := 1) (zI_hit w 44 0 _) ?_
      refine z_iconst (pc := 38) (v := 1) rfl (by decide) ?_
      refine z_icmp_ne (pc := 39) (tgt := 46) rfl (by decide) (fun h39 => ?_) (fun h39 => ?_)
      · exact absurd rfl h39
      · refine z_iconst (pc := 42) (v := 0) rfl (by decide) ?_
        refine z_goto (pc := 43) (tgt := 57) rfl (by decide) ?_
        exact z_iret (pc := 57) rfl rfl ⟨z2 (zI w) 44 0 1, rfl, by unfold mSoot; rw [hq], fun o ho => z2_ro _ _ _ ho, fun k hk => z2_k _ _ _ hk, by unfold mSoot; rw [hq]; exact z2_hit _ _ _ _⟩
    · exact absurd rfl h7
  · skip
    refine z_aload_n (pc := 0) (i := 0) (j := 0) rfl rfl rfl ?_
    refine z_aload_n (pc := 1) (i := 0) (j := 0) rfl rfl rfl ?_
    refine z_iload_n (pc := 2) (i := 1) (j := 1) rfl rfl rfl ?_
    refine z_iload_n (pc := 3) (i := 2) (j := 2) rfl rfl rfl ?_
    refine z_cV (pc := 4) (mc1 := 0) (ms1 := 0) (mc2 := 0) (ms2 := 0) (as := [.int x, .int y]) (rest := [.ref 44]) (o := 44) rfl rfl hm.1 ok_Mod_isCell rfl rfl cl_Mod_297 (by omega) (Nat.le_of_ble_eq_true rfl) (Nat.le_of_ble_eq_true rfl) (Nat.le_refl _) (Nat.le_refl _) (c_Mod_isCell (w := w) hm x y 0) (fun r1 w1 hp => ?_) rfl rfl
    obtain ⟨rfl, hw1⟩ := hp
    rw [hw1, show zI w 46 (0 : Int32).toNatClampNeg = nI C from hi.1, show zI w 46 (1 : Int32).toNatClampNeg = nI R from hi.2.1, cell_has hi.2.2.2.1 hi.2.2.2.2.1, hq]
    refine ⟨⟨Nat.le_refl _, Or.inl rfl⟩, ?_⟩
    show zS _ _ _ _ _ _ _ (.int 1 :: _) _
    refine z_if_eq (pc := 7) (tgt := 30) rfl (by decide) (fun h7 => ?_) (fun h7 => ?_)
    · exact absurd h7 (by decide)
    · refine z_iload_n (pc := 10) (i := 3) (j := 3) rfl rfl rfl ?_
      refine z_iconst (pc := 11) (v := (-1)) rfl (by decide) ?_
      refine z_aload_n (pc := 12) (i := 0) (j := 0) rfl rfl rfl ?_
      refine z_getR (pc := 13) (x := 46) rfl fl_Mod_13 hm.1 rfl (mr_46 hm) ?_
      refine z_iconst (pc := 16) (v := 4) rfl (by decide) ?_
      refine z_iald (pc := 17) rfl (mk_46 hm) (vp_in_nI (n := 4) (by decide) (by decide)) ?_
      refine z_eqi (y := nI H) hi.2.2.1 ?_
      refine z_iconst (pc := 18) (v := 1) rfl (by decide) ?_
      refine z_isub (pc := 19) rfl ?_
      refine z_cS (pc := 20) (mc1 := 0) (ms1 := 0) (mc2 := 0) (ms2 := 0) (as := [.int v, .int (-1), .int ((nI H) - 1)]) (rest := [.ref 44]) ok_Mod_within rfl rfl cl_Mod_214 (by omega) (Nat.le_of_ble_eq_true rfl) (Nat.le_of_ble_eq_true rfl) (Nat.le_refl _) (Nat.le_refl _) (c_Mod_within v (-1) ((nI H) - 1) 0 _) (fun r1 w1 hp => ?_) rfl rfl
      obtain ⟨rfl, hw1⟩ := hp
      rw [hw1]
      refine ⟨⟨Nat.le_refl _, Or.inl rfl⟩, ?_⟩
      refine z_if_eq (pc := 23) (tgt := 30) rfl (by decide) (fun h23 => ?_) (fun h23 => ?_)
      · refine z_iconst (pc := 30) (v := 1) rfl (by decide) ?_
        refine z_putI (pc := 31) rfl fl_Mod_100 hm.1 rfl  ?_
        refine z_aload_n (pc := 34) (i := 0) (j := 0) rfl rfl rfl ?_
        refine z_getI (pc := 35) rfl fl_Mod_100 hm.1 rfl ?_
        refine z_eqi (y := 1) (zI_hit w 44 0 _) ?_
        refine z_iconst (pc := 38) (v := 1) rfl (by decide) ?_
        refine z_icmp_ne (pc := 39) (tgt := 46) rfl (by decide) (fun h39 => ?_) (fun h39 => ?_)
        · exact absurd rfl h39
        · refine z_iconst (pc := 42) (v := 0) rfl (by decide) ?_
          refine z_goto (pc := 43) (tgt := 57) rfl (by decide) ?_
          exact z_iret (pc := 57) rfl rfl ⟨z2 (zI w) 44 0 1, rfl, by unfold mSoot; rw [hq]; show _ = some (Value.int (if _ then _ else _ : Int32 × Int32).2); rw [if_pos h23], fun o ho => z2_ro _ _ _ ho, fun k hk => z2_k _ _ _ hk, by unfold mSoot; rw [hq]; show _ = (if _ then _ else _ : Int32 × Int32).1; rw [if_pos h23]; exact z2_hit _ _ _ _⟩
      · refine z_iconst (pc := 26) (v := 0) rfl (by decide) ?_
        refine z_goto (pc := 27) (tgt := 31) rfl (by decide) ?_
        refine z_putI (pc := 31) rfl fl_Mod_100 hm.1 rfl  ?_
        refine z_aload_n (pc := 34) (i := 0) (j := 0) rfl rfl rfl ?_
        refine z_getI (pc := 35) rfl fl_Mod_100 hm.1 rfl ?_
        refine z_eqi (y := 0) (zI_hit w 44 0 _) ?_
        refine z_iconst (pc := 38) (v := 1) rfl (by decide) ?_
        refine z_icmp_ne (pc := 39) (tgt := 46) rfl (by decide) (fun h39 => ?_) (fun h39 => ?_)
        · refine z_aload_n (pc := 46) (i := 0) (j := 0) rfl rfl rfl ?_
          refine z_bipush (pc := 47) (v := 12) rfl (by decide) ?_
          refine z_iload_n (pc := 49) (i := 2) (j := 2) rfl rfl rfl ?_
          refine z_imul (pc := 50) rfl ?_
          refine z_iload_n (pc := 51) (i := 1) (j := 1) rfl rfl rfl ?_
          refine z_iadd (pc := 52) rfl ?_
          refine z_eqi (y := nI p) (by rw [Int32.mul_comm]; exact (cell_in hi.2.2.2.1 hi.2.2.2.2.1 hq).2.1) ?_
          refine z_iload_n (pc := 53) (i := 3) (j := 3) rfl rfl rfl ?_
          refine z_cV (pc := 54) (mc1 := 0) (ms1 := 0) (mc2 := 0) (ms2 := 0) (as := [.int (nI p), .int v]) (rest := []) (o := 44) rfl rfl hm.1 ok_Mod_sootOf rfl rfl cl_Mod_333 (by omega) (Nat.le_of_ble_eq_true rfl) (Nat.le_of_ble_eq_true rfl) (Nat.le_refl _) (Nat.le_refl _) (c_Mod_sootOf (w := zuI w (z2 (zI w) 44 0 0)) hm (cell_in hi.2.2.2.1 hi.2.2.2.2.1 hq).1 v 0) (fun r1 w1 hp => ?_) rfl rfl
          obtain ⟨rfl, hw1⟩ := hp
          rw [hw1, show zI (zuI w (z2 (zI w) 44 0 0)) 67 = zI w 67 from z2_ro (zI w) (o := 44) (a := 67) 0 0 (by decide)]
          refine ⟨⟨Nat.le_refl _, Or.inl rfl⟩, ?_⟩
          exact z_iret (pc := 57) rfl rfl ⟨z2 (zI w) 44 0 0, rfl, by unfold mSoot; rw [hq]; show _ = some (Value.int (if _ then _ else _ : Int32 × Int32).2); rw [if_neg h23], fun o ho => z2_ro _ _ _ ho, fun k hk => z2_k _ _ _ hk, by unfold mSoot; rw [hq]; show _ = (if _ then _ else _ : Int32 × Int32).1; rw [if_neg h23]; exact z2_hit _ _ _ _⟩
        · exact absurd h39 (by decide)
set_option maxRecDepth 100000 in
set_option maxHeartbeats 4000000 in
theorem l_Mod_gcd (w : zW) (d : Nat) (l0 l1 : Int32) {P : Option Value → zW → Prop} : ∀ (n a b : Nat), b < n → a < 2 ^ 31 → b < 2 ^ 31 → P (some (.int (nI (Nat.gcd b a)))) w → zS 0 0 d m_Mod_gcd P 4 [(0, .int l0), (1, .int l1), (2, .int (nI a)), (3, .int (nI b))] [] w := by
  intro n
  induction n with
  | zero => intro a b h; exact absurd h (Nat.not_lt_zero b)
  | succ n ih =>
    intro a b hb ha hb2 hP
    refine z_iload_n (pc := 4) (i := 3) (j := 3) rfl rfl rfl ?_
    refine z_if_eq (pc := 5) (tgt := 21) rfl (by decide) (fun h5 => ?_) (fun h5 => ?_)
    · have hb0 : b = 0 := (nI_eq hb2 (by decide)).mp h5
      subst hb0
      rw [Nat.gcd_zero_left] at hP
      refine z_iload_n (pc := 21) (i := 2) (j := 2) rfl rfl rfl ?_
      exact z_iret (pc := 22) rfl rfl hP
    · have hb0 : 0 < b := Nat.pos_of_ne_zero (fun z => h5 (by rw [z]; rfl))
      refine z_iload_n (pc := 8) (i := 2) (j := 2) rfl rfl rfl ?_
      refine z_iload_n (pc := 9) (i := 3) (j := 3) rfl rfl rfl ?_
      refine z_irem (pc := 10) rfl h5 ?_
      refine z_eqi (y := nI (a % b)) (pk_rem ha hb0 hb2) ?_
      refine z_istore (pc := 11) (i := 4) (ls' := [(0, .int l0), (1, .int l1), (2, .int (nI a)), (3, .int (nI b)), (4, .int (nI (a % b)))]) rfl (by decide) rfl ?_
      refine z_iload_n (pc := 13) (i := 3) (j := 3) rfl rfl rfl ?_
      refine z_istore_n (pc := 14) (i := 2) (ls' := [(0, .int l0), (1, .int l1), (2, .int (nI b)), (3, .int (nI b)), (4, .int (nI (a % b)))]) rfl rfl (by decide) rfl ?_
      refine z_iload (pc := 15) (i := 4) (j := 4) rfl rfl ?_
      refine z_istore_n (pc := 17) (i := 3) (ls' := [(0, .int l0), (1, .int l1), (2, .int (nI b)), (3, .int (nI (a % b))), (4, .int (nI (a % b)))]) rfl rfl (by decide) rfl ?_
      refine z_goto (pc := 18) (tgt := 4) rfl (by decide) ?_
      have hlt := Nat.mod_lt a hb0
      refine z_drop ?_ (ih b (a % b) (by omega) hb2 (by omega) (by rw [← Nat.gcd_rec]; exact hP))
      simp
set_option maxRecDepth 100000 in
set_option maxHeartbeats 4000000 in
theorem c_Mod_gcd (w : zW) (d : Nat) {a b : Nat} (ha : a < 2 ^ 31) (hb : b < 2 ^ 31) : zS 0 0 d m_Mod_gcd (fun rv w1 => rv = some (.int (nI (Nat.gcd b a))) ∧ w1 = w) 0 [(0, .int (nI a)), (1, .int (nI b))] [] w := by
  refine z_iload_n (pc := 0) (i := 0) (j := 0) rfl rfl rfl ?_
  refine z_istore_n (pc := 1) (i := 2) (ls' := [(0, .int (nI a)), (1, .int (nI b)), (2, .int (nI a))]) rfl rfl (by decide) rfl ?_
  refine z_iload_n (pc := 2) (i := 1) (j := 1) rfl rfl rfl ?_
  refine z_istore_n (pc := 3) (i := 3) (ls' := [(0, .int (nI a)), (1, .int (nI b)), (2, .int (nI a)), (3, .int (nI b))]) rfl rfl (by decide) rfl ?_
  exact l_Mod_gcd w d (nI a) (nI b) (b + 1) a b (by omega) ha hb ⟨rfl, rfl⟩
def mShare (r : Nat → Int32) (C R H : Nat) (x y b v : Int32) : Int32 := match cellP C R x y with
  | none => -1
  | some p => if hOK H b = true then (if (if v < 0 then 0 else if 1 < v then 0 else 1 : Int32) = 0 then -1 else if rsum (sootA r p (-1)) 8 = 0 then -1 else (if v = 0 then rsum (sootA r p b) 8 else rsum (sootA r p (-1)) 8) / nI (Nat.gcd (rsum (sootA r p (-1)) 8).toNatClampNeg (rsum (sootA r p b) 8).toNatClampNeg)) else -1
set_option maxRecDepth 100000 in
set_option maxHeartbeats 4000000 in
theorem c_Mod_share {w : zW} (hm : zMo w) {C R H : Nat} {V : Int32 → Int32} {G : Int32 → Int32 → Int32 → Int32} (hi : zMi (zI w) C R H V G) (hso : ∀ p b, p < 144 → ∃ n : Nat, n < 2 ^ 31 ∧ rsum (sootA (zI w 67) p b) 8 = nI n) (x y b v : Int32) (d : Nat) (hd : 1 ≤ d) : zS 0 0 d m_Mod_share (fun rv w1 => ∃ f, w1 = zuI w f ∧ rv = some (.int (mShare (zI w 67) C R H x y b v)) ∧ zFr w f) 0 [(0, .ref 44), (1, .int x), (2, .int y), (3, .int b), (4, .int v)] [] w := by
  rcases hq : cellP C R x y with _ | p
  · skip
    refine z_aload_n (pc := 0) (i := 0) (j := 0) rfl rfl rfl ?_
    refine z_iconst (pc := 1) (v := 0) rfl (by decide) ?_
    refine z_putI (pc := 2) rfl fl_Mod_100 hm.1 rfl  ?_
    change zS _ _ _ _ _ _ _ _ (zuI w (z2 (zI w) 44 0 0))
    obtain ⟨f0, hf0⟩ : ∃ f0, f0 = z2 (zI w) 44 0 0 := ⟨_, rfl⟩
    rw [← hf0]
    have F_f0 : zFr w f0 := hf0 ▸ zFr_0 w
    refine z_aload_n (pc := 5) (i := 0) (j := 0) rfl rfl rfl ?_
    refine z_iload_n (pc := 6) (i := 1) (j := 1) rfl rfl rfl ?_
    refine z_iload_n (pc := 7) (i := 2) (j := 2) rfl rfl rfl ?_
    refine z_cV (pc := 8) (mc1 := 0) (ms1 := 0) (mc2 := 0) (ms2 := 0) (as := [.int x, .int y]) (rest := []) (o := 44) rfl rfl hm.1 ok_Mod_isCell rfl rfl cl_Mod_297 (by omega) (Nat.le_of_ble_eq_true rfl) (Nat.le_of_ble_eq_true rfl) (Nat.le_refl _) (Nat.le_refl _) (c_Mod_isCell (w := zuI w f0) hm x y 0) (fun r1 w1 hp => ?_) rfl rfl
    obtain ⟨rfl, hw1⟩ := hp
    rw [hw1, show zI (zuI w f0) 46 (0 : Int32).toNatClampNeg = nI C from (zFr_i F_f0 hi).1, show zI (zuI w f0) 46 (1 : Int32).toNatClampNeg = nI R from (zFr_i F_f0 hi).2.1, cell_has hi.2.2.2.1 hi.2.2.2.2.1, hq]
    refine ⟨⟨Nat.le_refl _, Or.inl rfl⟩, ?_⟩
    show zS _ _ _ _ _ _ _ (.int 0 :: _) _
    refine z_if_eq (pc := 11) (tgt := 32) rfl (by decide) (fun h11 => ?_) (fun h11 => ?_)
    · refine z_iconst (pc := 32) (v := (-1)) rfl (by decide) ?_
      exact z_iret (pc := 33) rfl rfl ⟨f0, rfl, by unfold mShare; rw [hq], F_f0⟩
    · exact absurd rfl h11
  · skip
    refine z_aload_n (pc := 0) (i := 0) (j := 0) rfl rfl rfl ?_
    refine z_iconst (pc := 1) (v := 0) rfl (by decide) ?_
    refine z_putI (pc := 2) rfl fl_Mod_100 hm.1 rfl  ?_
    change zS _ _ _ _ _ _ _ _ (zuI w (z2 (zI w) 44 0 0))
    obtain ⟨f0, hf0⟩ : ∃ f0, f0 = z2 (zI w) 44 0 0 := ⟨_, rfl⟩
    rw [← hf0]
    have F_f0 : zFr w f0 := hf0 ▸ zFr_0 w
    refine z_aload_n (pc := 5) (i := 0) (j := 0) rfl rfl rfl ?_
    refine z_iload_n (pc := 6) (i := 1) (j := 1) rfl rfl rfl ?_
    refine z_iload_n (pc := 7) (i := 2) (j := 2) rfl rfl rfl ?_
    refine z_cV (pc := 8) (mc1 := 0) (ms1 := 0) (mc2 := 0) (ms2 := 0) (as := [.int x, .int y]) (rest := []) (o := 44) rfl rfl hm.1 ok_Mod_isCell rfl rfl cl_Mod_297 (by omega) (Nat.le_of_ble_eq_true rfl) (Nat.le_of_ble_eq_true rfl) (Nat.le_refl _) (Nat.le_refl _) (c_Mod_isCell (w := zuI w f0) hm x y 0) (fun r1 w1 hp => ?_) rfl rfl
    obtain ⟨rfl, hw1⟩ := hp
    rw [hw1, show zI (zuI w f0) 46 (0 : Int32).toNatClampNeg = nI C from (zFr_i F_f0 hi).1, show zI (zuI w f0) 46 (1 : Int32).toNatClampNeg = nI R from (zFr_i F_f0 hi).2.1, cell_has hi.2.2.2.1 hi.2.2.2.2.1, hq]
    refine ⟨⟨Nat.le_refl _, Or.inl rfl⟩, ?_⟩
    show zS _ _ _ _ _ _ _ (.int 1 :: _) _
    refine z_if_eq (pc := 11) (tgt := 32) rfl (by decide) (fun h11 => ?_) (fun h11 => ?_)
    · exact absurd h11 (by decide)
    · refine z_aload_n (pc := 14) (i := 0) (j := 0) rfl rfl rfl ?_
      refine z_iload_n (pc := 15) (i := 3) (j := 3) rfl rfl rfl ?_
      refine z_cV (pc := 16) (mc1 := 0) (ms1 := 0) (mc2 := 0) (ms2 := 0) (as := [.int b]) (rest := []) (o := 44) rfl rfl hm.1 ok_Mod_isHouse rfl rfl cl_Mod_270 (by omega) (Nat.le_of_ble_eq_true rfl) (Nat.le_of_ble_eq_true rfl) (Nat.le_refl _) (Nat.le_refl _) (c_Mod_isHouse (w := zuI w f0) hm b 0) (fun r1 w1 hp => ?_) rfl rfl
      obtain ⟨rfl, hw1⟩ := hp
      rw [hw1, show zI (zuI w f0) 46 (4 : Int32).toNatClampNeg = nI H from (zFr_i F_f0 hi).2.2.1, hOK_if hi.2.2.2.2.2.1]
      refine ⟨⟨Nat.le_refl _, Or.inl rfl⟩, ?_⟩
      refine z_if_eq (pc := 19) (tgt := 32) rfl (by decide) (fun h19 => ?_) (fun h19 => ?_)
      · refine z_iconst (pc := 32) (v := (-1)) rfl (by decide) ?_
        exact z_iret (pc := 33) rfl rfl ⟨f0, rfl, by unfold mShare; rw [hq]; show _ = some (Value.int (if _ then _ else _)); rw [if_neg (ite_eq h19)], F_f0⟩
      · refine z_iload (pc := 22) (i := 4) (j := 4) rfl rfl ?_
        refine z_iconst (pc := 24) (v := 0) rfl (by decide) ?_
        refine z_iconst (pc := 25) (v := 1) rfl (by decide) ?_
        refine z_cS (pc := 26) (mc1 := 0) (ms1 := 0) (mc2 := 0) (ms2 := 0) (as := [.int v, .int 0, .int 1]) (rest := []) ok_Mod_within rfl rfl cl_Mod_214 (by omega) (Nat.le_of_ble_eq_true rfl) (Nat.le_of_ble_eq_true rfl) (Nat.le_refl _) (Nat.le_refl _) (c_Mod_within v 0 1 0 _) (fun r1 w1 hp => ?_) rfl rfl
        obtain ⟨rfl, hw1⟩ := hp
        rw [hw1]
        refine ⟨⟨Nat.le_refl _, Or.inl rfl⟩, ?_⟩
        refine z_if_ne (pc := 29) (tgt := 34) rfl (by decide) (fun h29 => ?_) (fun h29 => ?_)
        · refine z_aload_n (pc := 34) (i := 0) (j := 0) rfl rfl rfl ?_
          refine z_bipush (pc := 35) (v := 12) rfl (by decide) ?_
          refine z_iload_n (pc := 37) (i := 2) (j := 2) rfl rfl rfl ?_
          refine z_imul (pc := 38) rfl ?_
          refine z_iload_n (pc := 39) (i := 1) (j := 1) rfl rfl rfl ?_
          refine z_iadd (pc := 40) rfl ?_
          refine z_eqi (y := nI p) (by rw [Int32.mul_comm]; exact (cell_in hi.2.2.2.1 hi.2.2.2.2.1 hq).2.1) ?_
          refine z_iconst (pc := 41) (v := (-1)) rfl (by decide) ?_
          refine z_cV (pc := 42) (mc1 := 0) (ms1 := 0) (mc2 := 0) (ms2 := 0) (as := [.int (nI p), .int (-1)]) (rest := []) (o := 44) rfl rfl hm.1 ok_Mod_sootOf rfl rfl cl_Mod_333 (by omega) (Nat.le_of_ble_eq_true rfl) (Nat.le_of_ble_eq_true rfl) (Nat.le_refl _) (Nat.le_refl _) (c_Mod_sootOf (w := zuI w f0) hm (cell_in hi.2.2.2.1 hi.2.2.2.2.1 hq).1 (-1) 0) (fun r1 w1 hp => ?_) rfl rfl
          obtain ⟨rfl, hw1⟩ := hp
          rw [hw1, show zI (zuI w f0) 67 = zI w 67 from F_f0.1 67 (by omega) (by decide) (by decide) (by decide)]
          refine ⟨⟨Nat.le_refl _, Or.inl rfl⟩, ?_⟩
          obtain ⟨A, hA, eA⟩ := hso p (-1) (cell_in hi.2.2.2.1 hi.2.2.2.2.1 hq).1
          rw [eA]
          refine z_istore (pc := 45) (i := 5) (ls' := [(0, .ref 44), (1, .int x), (2, .int y), (3, .int b), (4, .int v), (5, .int (nI A))]) rfl (by decide) rfl ?_
          refine z_iload (pc := 47) (i := 5) (j := 5) rfl rfl ?_
          refine z_if_ne (pc := 49) (tgt := 54) rfl (by decide) (fun h49 => ?_) (fun h49 => ?_)
          · refine z_aload_n (pc := 54) (i := 0) (j := 0) rfl rfl rfl ?_
            refine z_bipush (pc := 55) (v := 12) rfl (by decide) ?_
            refine z_iload_n (pc := 57) (i := 2) (j := 2) rfl rfl rfl ?_
            refine z_imul (pc := 58) rfl ?_
            refine z_iload_n (pc := 59) (i := 1) (j := 1) rfl rfl rfl ?_
            refine z_iadd (pc := 60) rfl ?_
            refine z_eqi (y := nI p) (by rw [Int32.mul_comm]; exact (cell_in hi.2.2.2.1 hi.2.2.2.2.1 hq).2.1) ?_
            refine z_iload_n (pc := 61) (i := 3) (j := 3) rfl rfl rfl ?_
            refine z_cV (pc := 62) (mc1 := 0) (ms1 := 0) (mc2 := 0) (ms2 := 0) (as := [.int (nI p), .int b]) (rest := []) (o := 44) rfl rfl hm.1 ok_Mod_sootOf rfl rfl cl_Mod_333 (by omega) (Nat.le_of_ble_eq_true rfl) (Nat.le_of_ble_eq_true rfl) (Nat.le_refl _) (Nat.le_refl _) (c_Mod_sootOf (w := zuI w f0) hm (cell_in hi.2.2.2.1 hi.2.2.2.2.1 hq).1 b 0) (fun r1 w1 hp => ?_) rfl rfl
            obtain ⟨rfl, hw1⟩ := hp
            rw [hw1, show zI (zuI w f0) 67 = zI w 67 from F_f0.1 67 (by omega) (by decide) (by decide) (by decide)]
            refine ⟨⟨Nat.le_refl _, Or.inl rfl⟩, ?_⟩
            obtain ⟨Bv, hB, eB⟩ := hso p b (cell_in hi.2.2.2.1 hi.2.2.2.2.1 hq).1
            rw [eB]
            refine z_istore (pc := 65) (i := 6) (ls' := [(0, .ref 44), (1, .int x), (2, .int y), (3, .int b), (4, .int v), (5, .int (nI A)), (6, .int (nI Bv))]) rfl (by decide) rfl ?_
            refine z_iload (pc := 67) (i := 4) (j := 4) rfl rfl ?_
            have j79 : ∀ u : Int32, (u = (if v = 0 then nI Bv else nI A)) → zS 0 0 d m_Mod_share (fun rv w1 => ∃ f, w1 = zuI w f ∧ rv = some (.int (mShare (zI w 67) C R H x y b v)) ∧ zFr w f) 79 [(0, .ref 44), (1, .int x), (2, .int y), (3, .int b), (4, .int v), (5, .int (nI A)), (6, .int (nI Bv))] [.int u] (zuI w f0) := by
              intro u h_j79
              refine z_iload (pc := 79) (i := 6) (j := 6) rfl rfl ?_
              refine z_iload (pc := 81) (i := 5) (j := 5) rfl rfl ?_
              refine z_cS (pc := 83) (mc1 := 0) (ms1 := 0) (mc2 := 0) (ms2 := 0) (as := [.int (nI Bv), .int (nI A)]) (rest := [.int u]) ok_Mod_gcd rfl rfl cl_Mod_339 (by omega) (Nat.le_of_ble_eq_true rfl) (Nat.le_of_ble_eq_true rfl) (Nat.le_refl _) (Nat.le_refl _) (c_Mod_gcd _ 0 hB hA) (fun r1 w1 hp => ?_) rfl rfl
              obtain ⟨rfl, hw1⟩ := hp
              rw [hw1]
              refine ⟨⟨Nat.le_refl _, Or.inl rfl⟩, ?_⟩
              refine z_idiv (pc := 86) rfl (nI_ne0 (Nat.gcd_pos_of_pos_left Bv (Nat.pos_of_ne_zero (fun z => h49 (by rw [z]; rfl)))) (Nat.lt_of_le_of_lt (Nat.gcd_le_left Bv (Nat.pos_of_ne_zero (fun z => h49 (by rw [z]; rfl)))) hA)) ?_
              exact z_iret (pc := 87) rfl rfl ⟨f0, rfl, by unfold mShare; rw [hq]; show _ = some (Value.int (if _ then _ else _)); rw [if_pos (ite_ne h19), if_neg h29, eA, if_neg h49, eB, nI_clamp hA, nI_clamp hB, h_j79], F_f0⟩
            refine z_if_ne (pc := 69) (tgt := 77) rfl (by decide) (fun h69 => ?_) (fun h69 => ?_)
            · refine z_iload (pc := 77) (i := 5) (j := 5) rfl rfl ?_
              exact j79 _ (by rw [if_neg h69] <;> rfl)
            · refine z_iload (pc := 72) (i := 6) (j := 6) rfl rfl ?_
              refine z_goto (pc := 74) (tgt := 79) rfl (by decide) ?_
              exact j79 _ (by rw [if_pos h69] <;> rfl)
          · refine z_iconst (pc := 52) (v := (-1)) rfl (by decide) ?_
            exact z_iret (pc := 53) rfl rfl ⟨f0, rfl, by unfold mShare; rw [hq]; show _ = some (Value.int (if _ then _ else _)); rw [if_pos (ite_ne h19), if_neg h29, eA, if_pos h49], F_f0⟩
        · refine z_iconst (pc := 32) (v := (-1)) rfl (by decide) ?_
          exact z_iret (pc := 33) rfl rfl ⟨f0, rfl, by unfold mShare; rw [hq]; show _ = some (Value.int (if _ then _ else _)); rw [if_pos (ite_ne h19), if_pos h29], F_f0⟩
