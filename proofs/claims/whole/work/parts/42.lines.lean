set_option maxRecDepth 100000 in
set_option maxHeartbeats 4000000 in
theorem l_Mod_worked {w : zW} (hm : zMo w) {P : Option Value → zW → Prop} (cd : Nat → Int32) (li b : Nat) (hli : li < 12) (hb6 : b ≤ 6000) (d : Nat) (hd : 2 ≤ d) : ∀ (m k : Nat) (q : wkQ), q.2 < 7 → wkOK cd k m q → q.1 54 = cd → q.1 53 li = nI b → k + m = b → P (some (.int (testsF (wkRun cd k m q).1 0 57 0))) (zuI w (testsF (wkRun cd k m q).1 0)) → zS 0 0 d m_Mod_worked P 14 [(0, .ref 44), (1, .int (nI li)), (2, .int (nI q.2)), (3, .int (nI k))] [] (zuI w q.1) := by
  intro m
  induction m with
  | zero =>
    intro k q hd7 hok hcd hb hkm hP
    obtain rfl : k = b := by omega
    refine z_iload_n (pc := 14) (i := 3) (j := 3) rfl rfl rfl ?_
    refine z_aload_n (pc := 15) (i := 0) (j := 0) rfl rfl rfl ?_
    refine z_getR (pc := 16) (x := 53) rfl fl_Mod_35 hm.1 rfl (mr_53 hm) ?_
    refine z_iload_n (pc := 19) (i := 1) (j := 1) rfl rfl rfl ?_
    refine z_iald (pc := 20) rfl (mk_53 hm) (vp_in_nI hli (by decide)) ?_
    refine z_eqi (y := nI k) (by rw [nI_clamp (by omega)]; exact hb) ?_
    refine z_icmp_ge (pc := 21) (tgt := 335) rfl (by decide) (fun h21 => ?_) (fun h21 => ?_)
    · refine z_aload_n (pc := 335) (i := 0) (j := 0) rfl rfl rfl ?_
      refine z_iconst (pc := 336) (v := 0) rfl (by decide) ?_
      refine z_cV (pc := 337) (mc1 := 0) (ms1 := 0) (mc2 := 0) (ms2 := 0) (as := [.int 0]) (rest := []) (o := 44) rfl rfl hm.1 ok_Mod_tests rfl rfl cl_Mod_187 (by omega) (Nat.le_of_ble_eq_true rfl) (Nat.le_of_ble_eq_true rfl) (Nat.le_refl _) (Nat.le_refl _) (c_Mod_tests (w := zuI w q.1) hm (i := 0) (by decide) 1 (by decide)) (fun r1 w1 hp => ?_) rfl rfl
      obtain ⟨rfl, hw1⟩ := hp
      rw [hw1]
      refine ⟨⟨Nat.le_refl _, Or.inl rfl⟩, ?_⟩
      refine z_aload_n (pc := 340) (i := 0) (j := 0) rfl rfl rfl ?_
      refine z_getR (pc := 341) (x := 57) rfl fl_Mod_48 hm.1 rfl (mr_57 hm) ?_
      refine z_iconst (pc := 344) (v := 0) rfl (by decide) ?_
      refine z_iald (pc := 345) rfl (mk_57 hm) (vp_in_nI (n := 0) (by decide) (by decide)) ?_
      refine z_eqi (y := testsF q.1 0 57 0) rfl ?_
      exact z_iret (pc := 346) rfl rfl hP
    · exact absurd (Int32.le_refl _) h21
  | succ m ih =>
    intro k q hd7 hok hcd hb hkm hP
    refine z_iload_n (pc := 14) (i := 3) (j := 3) rfl rfl rfl ?_
    refine z_aload_n (pc := 15) (i := 0) (j := 0) rfl rfl rfl ?_
    refine z_getR (pc := 16) (x := 53) rfl fl_Mod_35 hm.1 rfl (mr_53 hm) ?_
    refine z_iload_n (pc := 19) (i := 1) (j := 1) rfl rfl rfl ?_
    refine z_iald (pc := 20) rfl (mk_53 hm) (vp_in_nI hli (by decide)) ?_
    refine z_eqi (y := nI b) (by rw [nI_clamp (by omega)]; exact hb) ?_
    refine z_icmp_ge (pc := 21) (tgt := 335) rfl (by decide) (fun h21 => ?_) (fun h21 => ?_)
    · exact absurd h21 (nI_ge (b := b) (by omega) (by omega))
    · refine l_Mod_worked1 hm q hd7 li k (by omega) (by rw [hcd]; exact hok.1) d hd ?_
      rw [hcd]
      exact ih (k + 1) (wkStep (cd k) q) (wkStep_d hok.1 hd7) hok.2 ((wkStep_o _ _ (o := 54) (by omega)).trans hcd) ((congrFun (wkStep_o _ _ (o := 53) (by omega)) li).trans hb) (by omega) hP
/-- the line li of the model is the function F of its four facts -/
def zCode (f : Nat → Nat → Int32) (li : Nat) (F : Int32 → Int32 → Int32 → Int32 → Int32) : Prop := ∃ a n : Nat, a + n ≤ 6000 ∧ f 52 li = nI a ∧ f 53 li = nI (a + n) ∧ ∀ g : Nat → Nat → Int32, wkOK (f 54) a n (opensF g 0, 0) ∧ testsF (wkRun (f 54) a n (opensF g 0, 0)).1 0 57 0 = F (g 66 1) (g 66 2) (g 66 3) (g 66 4)
theorem wkRun_o (cd : Nat → Int32) {o : Nat} (h : o < 57 ∨ 65 < o) : ∀ (m k : Nat) (q : wkQ), (wkRun cd k m q).1 o = q.1 o
  | 0, _, _ => rfl
  | m + 1, k, q => (wkRun_o cd h m (k + 1) _).trans (wkStep_o _ _ h)
set_option maxRecDepth 100000 in
set_option maxHeartbeats 4000000 in
theorem c_Mod_worked {w : zW} (hm : zMo w) {li : Nat} (hli : li < 12) {F : Int32 → Int32 → Int32 → Int32 → Int32} (hF : zCode (zI w) li F) (d : Nat) (hd : 2 ≤ d) : zS 0 0 d m_Mod_worked (fun rv w1 => ∃ f, w1 = zuI w f ∧ rv = some (.int (F (zI w 66 1) (zI w 66 2) (zI w 66 3) (zI w 66 4))) ∧ ∀ o, (o < 57 ∨ 65 < o) → f o = zI w o) 0 [(0, .ref 44), (1, .int (nI li))] [] w := by
  obtain ⟨a0, n, hn, e1, e2, hF⟩ := hF
  refine z_iconst (pc := 0) (v := 0) rfl (by decide) ?_
  refine z_istore_n (pc := 1) (i := 2) (ls' := [(0, .ref 44), (1, .int (nI li)), (2, .int 0)]) rfl rfl (by decide) rfl ?_
  refine z_aload_n (pc := 2) (i := 0) (j := 0) rfl rfl rfl ?_
  refine z_iconst (pc := 3) (v := 0) rfl (by decide) ?_
  refine z_cV (pc := 4) (mc1 := 0) (ms1 := 0) (mc2 := 0) (ms2 := 0) (as := [.int 0]) (rest := []) (o := 44) rfl rfl hm.1 ok_Mod_opens rfl rfl cl_Mod_184 (by omega) (Nat.le_of_ble_eq_true rfl) (Nat.le_of_ble_eq_true rfl) (Nat.le_refl _) (Nat.le_refl _) (c_Mod_opens (w := w) hm (i := 0) (by decide) 0) (fun r1 w1 hp => ?_) rfl rfl
  obtain ⟨rfl, hw1⟩ := hp
  rw [hw1]
  refine ⟨⟨Nat.le_refl _, Or.inl rfl⟩, ?_⟩
  refine z_aload_n (pc := 7) (i := 0) (j := 0) rfl rfl rfl ?_
  refine z_getR (pc := 8) (x := 52) rfl fl_Mod_32 hm.1 rfl (mr_52 hm) ?_
  refine z_iload_n (pc := 11) (i := 1) (j := 1) rfl rfl rfl ?_
  refine z_iald (pc := 12) rfl (mk_52 hm) (vp_in_nI hli (by decide)) ?_
  refine z_eqi (y := nI a0) (by rw [nI_clamp (by omega)]; exact (congrFun (opensF_o (zI w) 0 (o := 52) (by omega)) li).trans e1) ?_
  refine z_istore_n (pc := 13) (i := 3) (ls' := [(0, .ref 44), (1, .int (nI li)), (2, .int 0), (3, .int (nI a0))]) rfl rfl (by decide) rfl ?_
  obtain ⟨hok, hv⟩ := hF (zI w)
  refine l_Mod_worked hm (zI w 54) li (a0 + n) hli hn d hd n a0 (opensF (zI w) 0, 0) (show 0 < 7 by decide) hok (opensF_o (zI w) 0 (o := 54) (by omega)) ((congrFun (opensF_o (zI w) 0 (o := 53) (by omega)) li).trans e2) rfl ?_
  exact ⟨_, rfl, by rw [hv], fun o ho => (testsF_o _ _ ho).trans ((wkRun_o _ ho _ _ _).trans (opensF_o _ _ ho))⟩
def zMWind (f : Nat → Nat → Int32) (V : Int32 → Int32) : Prop := (f 53 0 = f 52 0 ∧ ∀ x, V x = 0) ∨ (¬ f 53 0 = f 52 0 ∧ ∃ F, zCode f 0 F ∧ ∀ x y z, F (x - x / 24 * 24) (x / 24) y z = V x)
def zMPl (f : Nat → Nat → Int32) (G : Int32 → Int32 → Int32 → Int32) : Prop := (f 53 1 ≤ f 52 1 ∧ ∀ x y z, G x y z = y) ∨ (¬ f 53 1 ≤ f 52 1 ∧ ∃ F, zCode f 1 F ∧ ∀ x y z, F (x - x / 24 * 24) (x / 24) y z = G x y z)
theorem zCode_c {f g : Nat → Nat → Int32} {li : Nat} {F : Int32 → Int32 → Int32 → Int32 → Int32} (h : zCode f li F) (e2 : g 52 = f 52) (e3 : g 53 = f 53) (e4 : g 54 = f 54) : zCode g li F := by
  obtain ⟨a, n, h1, h2, h3, h4⟩ := h
  exact ⟨a, n, h1, by rw [e2]; exact h2, by rw [e3]; exact h3, by rw [e4]; exact h4⟩
theorem zMWind_c {f g : Nat → Nat → Int32} {V : Int32 → Int32} (h : zMWind f V) (e2 : g 52 = f 52) (e3 : g 53 = f 53) (e4 : g 54 = f 54) : zMWind g V := by
  rcases h with ⟨h1, h2⟩ | ⟨h1, F, h2, h3⟩
  · exact Or.inl ⟨by rw [e2, e3]; exact h1, h2⟩
  · exact Or.inr ⟨by rw [e2, e3]; exact h1, F, zCode_c h2 e2 e3 e4, h3⟩
theorem zMPl_c {f g : Nat → Nat → Int32} {G : Int32 → Int32 → Int32 → Int32} (h : zMPl f G) (e2 : g 52 = f 52) (e3 : g 53 = f 53) (e4 : g 54 = f 54) : zMPl g G := by
  rcases h with ⟨h1, h2⟩ | ⟨h1, F, h2, h3⟩
  · exact Or.inl ⟨by rw [e2, e3]; exact h1, h2⟩
  · exact Or.inr ⟨by rw [e2, e3]; exact h1, F, zCode_c h2 e2 e3 e4, h3⟩
theorem z2_ro2 (f : Nat → Nat → Int32) (k1 k2 : Nat) (x1 x2 : Int32) {o a : Nat} (h : a ≠ o) : z2 (z2 f o k1 x1) o k2 x2 a = f a := (z2_ro _ _ _ h).trans (z2_ro _ _ _ h)
set_option maxRecDepth 100000 in
set_option maxHeartbeats 4000000 in
theorem c_Mod_windAt {w : zW} (hm : zMo w) {V : Int32 → Int32} (hW : zMWind (zI w) V) (x : Int32) (d : Nat) (hd : 3 ≤ d) : zS 0 0 d m_Mod_windAt (fun rv w1 => ∃ f, w1 = zuI w f ∧ rv = some (.int (V x &&& 7)) ∧ ∀ o, (o < 57 ∨ 66 < o) → f o = zI w o) 0 [(0, .ref 44), (1, .int x)] [] w := by
  refine z_aload_n (pc := 0) (i := 0) (j := 0) rfl rfl rfl ?_
  refine z_getR (pc := 1) (x := 53) rfl fl_Mod_35 hm.1 rfl (mr_53 hm) ?_
  refine z_iconst (pc := 4) (v := 0) rfl (by decide) ?_
  refine z_iald (pc := 5) rfl (mk_53 hm) (vp_in_nI (n := 0) (by decide) (by decide)) ?_
  refine z_aload_n (pc := 6) (i := 0) (j := 0) rfl rfl rfl ?_
  refine z_getR (pc := 7) (x := 52) rfl fl_Mod_32 hm.1 rfl (mr_52 hm) ?_
  refine z_iconst (pc := 10) (v := 0) rfl (by decide) ?_
  refine z_iald (pc := 11) rfl (mk_52 hm) (vp_in_nI (n := 0) (by decide) (by decide)) ?_
  refine z_icmp_ne (pc := 12) (tgt := 17) rfl (by decide) (fun h12 => ?_) (fun h12 => ?_)
  · rcases hW with ⟨h1, h2⟩ | ⟨-, F, hF, hV⟩
    · exact absurd h1 h12
    refine z_aload_n (pc := 17) (i := 0) (j := 0) rfl rfl rfl ?_
    refine z_getR (pc := 18) (x := 66) rfl fl_Mod_75 hm.1 rfl (mr_66 hm) ?_
    refine z_iconst (pc := 21) (v := 1) rfl (by decide) ?_
    refine z_iload_n (pc := 22) (i := 1) (j := 1) rfl rfl rfl ?_
    refine z_bipush (pc := 23) (v := 24) rfl (by decide) ?_
    refine z_irem (pc := 25) rfl (by decide) ?_
    refine z_iast (pc := 26) rfl (mk_66 hm) (vp_in_nI (n := 1) (by decide) (by decide)) ?_
    refine z_aload_n (pc := 27) (i := 0) (j := 0) rfl rfl rfl ?_
    refine z_getR (pc := 28) (x := 66) rfl fl_Mod_75 hm.1 rfl (mr_66 hm) ?_
    refine z_iconst (pc := 31) (v := 2) rfl (by decide) ?_
    refine z_iload_n (pc := 32) (i := 1) (j := 1) rfl rfl rfl ?_
    refine z_bipush (pc := 33) (v := 24) rfl (by decide) ?_
    refine z_idiv (pc := 35) rfl (by decide) ?_
    refine z_iast (pc := 36) rfl (mk_66 hm) (vp_in_nI (n := 2) (by decide) (by decide)) ?_
    refine z_aload_n (pc := 37) (i := 0) (j := 0) rfl rfl rfl ?_
    refine z_iconst (pc := 38) (v := 0) rfl (by decide) ?_
    refine z_cV (pc := 39) (mc1 := 0) (ms1 := 0) (mc2 := 0) (ms2 := 0) (as := [.int 0]) (rest := []) (o := 44) rfl rfl hm.1 ok_Mod_worked rfl rfl cl_Mod_282 (by omega) (Nat.le_of_ble_eq_true rfl) (Nat.le_of_ble_eq_true rfl) (Nat.le_refl _) (Nat.le_refl _) (c_Mod_worked (w := zuI w (z2 (z2 (zI w) 66 1 (x - x / 24 * 24)) 66 2 (x / 24))) hm (li := 0) (by decide) (F := F) (zCode_c hF (z2_ro2 (zI w) 1 2 (x - x / 24 * 24) (x / 24) (o := 66) (a := 52) (by decide)) (z2_ro2 (zI w) 1 2 (x - x / 24 * 24) (x / 24) (o := 66) (a := 53) (by decide)) (z2_ro2 (zI w) 1 2 (x - x / 24 * 24) (x / 24) (o := 66) (a := 54) (by decide))) 2 (by decide)) (fun r1 w1 hp => ?_) rfl rfl
    obtain ⟨g, hw1, rfl, hg⟩ := hp
    rw [hw1]
    refine ⟨⟨Nat.le_refl _, Or.inl rfl⟩, ?_⟩
    rw [show zI (zuI w (z2 (z2 (zI w) 66 1 (x - x / 24 * 24)) 66 2 (x / 24))) 66 1 = x - x / 24 * 24 from (z2_k (z2 (zI w) 66 1 (x - x / 24 * 24)) 66 (b := 1) (k := 2) (x / 24) (by decide)).trans (z2_hit (zI w) 66 1 _), show zI (zuI w (z2 (z2 (zI w) 66 1 (x - x / 24 * 24)) 66 2 (x / 24))) 66 2 = x / 24 from z2_hit (z2 (zI w) 66 1 (x - x / 24 * 24)) 66 2 _, hV]
    refine z_bipush (pc := 42) (v := 7) rfl (by decide) ?_
    refine z_iand (pc := 44) rfl ?_
    exact z_iret (pc := 45) rfl rfl ⟨g, rfl, rfl, fun o ho => (hg o (by omega)).trans (z2_ro2 (zI w) 1 2 (x - x / 24 * 24) (x / 24) (o := 66) (a := o) (by omega))⟩
  · rcases hW with ⟨-, h2⟩ | ⟨h1, -⟩
    case inr => exact absurd h12 h1
    refine z_iconst (pc := 15) (v := 0) rfl (by decide) ?_
    exact z_iret (pc := 16) rfl rfl ⟨zI w, rfl, by rw [h2 x]; rfl, fun _ _ => rfl⟩
