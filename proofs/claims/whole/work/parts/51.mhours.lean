/-! HOURS of the model -/
def yvO (V : Int32 → Int32) (x : Int32) : Nat := (V x &&& 7).toNatClampNeg
theorem yvO_lt (V : Int32 → Int32) (x : Int32) : yvO V x < 8 := by
  obtain ⟨k, hk, e⟩ := and7_n (V x)
  unfold yvO
  rw [e, nI_clamp (by omega)]
  exact hk
theorem yvO_eq (V : Int32 → Int32) (x : Int32) : V x &&& 7 = nI (yvO V x) := by
  obtain ⟨k, hk, e⟩ := and7_n (V x)
  unfold yvO
  rw [e, nI_clamp (by omega)]
def sset (f : Nat → Nat → Int32) (C R yv : Nat) (G : Int32 → Int32 → Int32 → Int32) (hour burn : Int32) (H : Nat) : Nat → Int32 := smkH f C R yv G hour burn (fun _ => 0) H
theorem smkM_set (f : Nat → Nat → Int32) (C R yv : Nat) (G : Int32 → Int32 → Int32 → Int32) (hour burn : Int32) {H c : Nat} (hH : H ≤ 8) (hc : c < 192) : smkM f C R yv G hour burn H c = sset f C R yv G hour burn H c :=
  tb_ext fun i hi => (smkM_tb f C R yv G hour burn hH hc hi).trans (smk0_tb f C R yv G hour burn hH hi).symm
theorem wedS_m (t ch : Int32) {m m2 : Nat → Int32} {a : Nat} (b : Nat) (e : m a = m2 a) (q : (Nat → Int32) × Int32) : wedS t ch m a b q = wedS t ch m2 a b q := by unfold wedS; rw [e]
theorem wedN_m (t ch : Int32) {m m2 : Nat → Int32} {a : Nat} (e : m a = m2 a) (q : (Nat → Int32) × Int32) : ∀ n, wedN t ch m a q n = wedN t ch m2 a q n
  | 0 => rfl
  | n + 1 => by show wedS t ch m a n (wedN t ch m a q n) = wedS t ch m2 a n (wedN t ch m2 a q n); rw [wedN_m t ch e q n, wedS_m t ch n e]
theorem wedA_m (t ch : Int32) {m m2 : Nat → Int32} {H : Nat} (e : ∀ a, a < H → m a = m2 a) (q : (Nat → Int32) × Int32) : ∀ n, n ≤ H → wedA t ch m H q n = wedA t ch m2 H q n
  | 0, _ => rfl
  | n + 1, h => by show wedN t ch m n (wedA t ch m H q n) H = wedN t ch m2 n (wedA t ch m2 H q n) H; rw [wedA_m t ch e q n (by omega), wedN_m t ch (e n (by omega))]
theorem wedN_2 (t ch : Int32) (m : Nat → Int32) (a : Nat) (r : Nat → Int32) (x y : Int32) : ∀ n, (wedN t ch m a (r, x) n).1 = (wedN t ch m a (r, y) n).1
  | 0 => rfl
  | n + 1 => by show (wedS t ch m a n (wedN t ch m a (r, x) n)).1 = (wedS t ch m a n (wedN t ch m a (r, y) n)).1; unfold wedS; rw [wedN_2 t ch m a r x y n]
theorem wedN_2' (t ch : Int32) (m : Nat → Int32) (a : Nat) {p q : (Nat → Int32) × Int32} (e : p.1 = q.1) (n : Nat) : (wedN t ch m a p n).1 = (wedN t ch m a q n).1 := by
  obtain ⟨p1, p2⟩ := p
  obtain ⟨q1, q2⟩ := q
  have e : p1 = q1 := e
  subst e
  exact wedN_2 t ch m a p1 p2 q2 n
theorem wedA_2 (t ch : Int32) (m : Nat → Int32) (H : Nat) (r : Nat → Int32) (x y : Int32) : ∀ n, (wedA t ch m H (r, x) n).1 = (wedA t ch m H (r, y) n).1
  | 0 => rfl
  | n + 1 => wedN_2' t ch m n (wedA_2 t ch m H r x y n) H
theorem sootN_m {s1 s2 : Nat → Int32} (h : Nat) (r : Nat → Int32) : ∀ n, (∀ c, c < n → s1 c = s2 c) → sootN s1 h r n = sootN s2 h r n
  | 0, _ => rfl
  | n + 1, e => by rw [sootN_s, sootN_s, sootN_m h r n (fun c hc => e c (by omega)), e n (by omega)]
theorem payN_m {f g : Nat → Nat → Int32} (e1 : g 67 = f 67) (e2 : ∀ c, c < 192 → g 70 c = f 70 c) (e3 : g 46 = f 46) (e4 : g 51 = f 51) : ∀ n, payN g n = payN f n
  | 0 => e1
  | n + 1 => by
    show sootN (g 70) n _ 192 = sootN (f 70) n _ 192
    rw [payN_m e1 e2 e3 e4 n, sootN_m n _ 192 e2]
    unfold payV
    rw [e1, e3, e4]
/-- the row behind an hour: of the row, the field and the houses alone -/
def burnR (r : Nat → Int32) : Int32 := r 136 &&& (r 137 ^^^ (-1))
def passX (f : Nat → Nat → Int32) (C R H yv : Nat) (G : Int32 → Int32 → Int32 → Int32) (r : Nat → Int32) : Nat → Int32 := upd (wedA (turnM (r 139) yv) 1 (mset f C R yv G (r 138) (burnR r) H) H (r, 0) H).1 139 (1 + nI yv)
def passY (f : Nat → Nat → Int32) (C R H yv : Nat) (G : Int32 → Int32 → Int32 → Int32) (r : Nat → Int32) : Nat → Nat → Int32 := zr (zr f 70 (sset f C R yv G (r 138) (burnR r) H)) 67 (passX f C R H yv G r)
def passR (f : Nat → Nat → Int32) (C R H yv : Nat) (G : Int32 → Int32 → Int32 → Int32) (r : Nat → Int32) : Nat → Int32 := upd (payN (passY f C R H yv G r) H) 138 (r 138 + 1)
theorem passRow_R (f : Nat → Nat → Int32) (C R : Nat) {H : Nat} (yv : Nat) (G : Int32 → Int32 → Int32 → Int32) (hH : H ≤ 8) : passRow f C R H yv G = passR f C R H yv G (f 67) := by
  unfold passRow passR
  refine congrArg (fun q => upd q 138 _) ?_
  have eW : (passW f C R H yv G).1 = (wedA (turnM (f 67 139) yv) 1 (mset f C R yv G (f 67 138) (burnR (f 67)) H) H (f 67, 0) H).1 := by
    unfold passW
    rw [wedA_m _ _ (m := metM f C R yv G (f 67 138) (f 67 136 &&& (f 67 137 ^^^ (-1))) H) (m2 := mset f C R yv G (f 67 138) (burnR (f 67)) H) (fun a ha => metM_set f C R yv G _ _ hH ha) _ H (Nat.le_refl _)]
    exact wedA_2 _ _ _ _ _ _ _ _
  refine payN_m ?_ ?_ ?_ ?_ H
  · unfold passI passY passX
    rw [zr_h, zr_h, eW]
  · intro c hc
    unfold passI passY
    rw [zr_o _ (o := 67) (a := 70) _ (by decide), zr_h, zr_o _ (o := 67) (a := 70) _ (by decide), zr_h]
    exact smkM_set f C R yv G _ _ hH hc
  · unfold passI passY
    rw [zr_o _ (o := 67) (a := 46) _ (by decide), zr_o _ (o := 70) (a := 46) _ (by decide), zr_o _ (o := 67) (a := 46) _ (by decide), zr_o _ (o := 70) (a := 46) _ (by decide)]
  · unfold passI passY
    rw [zr_o _ (o := 67) (a := 51) _ (by decide), zr_o _ (o := 70) (a := 51) _ (by decide), zr_o _ (o := 67) (a := 51) _ (by decide), zr_o _ (o := 70) (a := 51) _ (by decide)]
theorem sset_c {f g : Nat → Nat → Int32} (e1 : g 48 = f 48) (e2 : g 49 = f 49) (e3 : g 50 = f 50) (e4 : g 51 = f 51) (C R yv : Nat) (G : Int32 → Int32 → Int32 → Int32) (hour burn : Int32) (H : Nat) : sset g C R yv G hour burn H = sset f C R yv G hour burn H := by
  unfold sset
  induction H with
  | zero => rfl
  | succ n ih =>
    show smkI _ n (smkH g C R yv G hour burn _ n) _ = smkI _ n (smkH f C R yv G hour burn _ n) _
    rw [ih, mcell_c C R n yv e1 e2 e4]
    unfold mlen
    rw [e3, e4]
theorem passR_c {f g : Nat → Nat → Int32} (e0 : g 46 = f 46) (e1 : g 48 = f 48) (e2 : g 49 = f 49) (e3 : g 50 = f 50) (e4 : g 51 = f 51) (C R H yv : Nat) (G : Int32 → Int32 → Int32 → Int32) (r : Nat → Int32) : passR g C R H yv G r = passR f C R H yv G r := by
  unfold passR
  refine congrArg (fun q => upd q 138 _) ?_
  have ex : passX g C R H yv G r = passX f C R H yv G r := by unfold passX; rw [mset_c e1 e2 e3 e4]
  refine payN_m ?_ ?_ ?_ ?_ H
  · unfold passY; rw [zr_h, zr_h, ex]
  · intro c _
    unfold passY
    rw [zr_o _ (o := 67) (a := 70) _ (by decide), zr_h, zr_o _ (o := 67) (a := 70) _ (by decide), zr_h, sset_c e1 e2 e3 e4]
  · unfold passY
    rw [zr_o _ (o := 67) (a := 46) _ (by decide), zr_o _ (o := 70) (a := 46) _ (by decide), zr_o _ (o := 67) (a := 46) _ (by decide), zr_o _ (o := 70) (a := 46) _ (by decide), e0]
  · unfold passY
    rw [zr_o _ (o := 67) (a := 51) _ (by decide), zr_o _ (o := 70) (a := 51) _ (by decide), zr_o _ (o := 67) (a := 51) _ (by decide), zr_o _ (o := 70) (a := 51) _ (by decide), e4]
def hrsR (f : Nat → Nat → Int32) (C R H : Nat) (V : Int32 → Int32) (G : Int32 → Int32 → Int32 → Int32) : Nat → Nat → Int32
  | 0 => f 67
  | n + 1 => passR f C R H (yvO V (hrsR f C R H V G n 138)) G (hrsR f C R H V G n)
/-- as zFs, but the counter of weddings may have changed -/
def zFh (w : zW) (f : Nat → Nat → Int32) (r : Nat → Int32) : Prop := (∀ o, (o < 57 ∨ 66 < o) → o ≠ 44 → o ≠ 67 → o ≠ 70 → o ≠ 71 → f o = zI w o) ∧ f 67 = r ∧ (∀ k, k ≠ 0 → k ≠ 40 → f 44 k = zI w 44 k) ∧ f 44 0 = 0
theorem zFh_i {w : zW} {f : Nat → Nat → Int32} {r : Nat → Int32} {C R H : Nat} {V : Int32 → Int32} {G : Int32 → Int32 → Int32 → Int32} (h : zFh w f r) (hi : zMi (zI w) C R H V G) : zMi f C R H V G := zMi_c hi (h.1 46 (by omega) (by decide) (by decide) (by decide) (by decide)) (h.1 52 (by omega) (by decide) (by decide) (by decide) (by decide)) (h.1 53 (by omega) (by decide) (by decide) (by decide) (by decide)) (h.1 54 (by omega) (by decide) (by decide) (by decide) (by decide))
theorem zFh_s {w : zW} {f : Nat → Nat → Int32} {r : Nat → Int32} (h : zFs w f r) : zFh w f r := ⟨h.1, h.2.1, fun k h1 _ => h.2.2.1 k h1, h.2.2.2⟩
set_option maxRecDepth 100000 in
set_option maxHeartbeats 4000000 in
theorem l_Mod_hours {w : zW} (hm : zMo w) {C R H : Nat} {V : Int32 → Int32} {G : Int32 → Int32 → Int32 → Int32} (hi : zMi (zI w) C R H V G) (n : Nat) (hn : n ≤ 1000) (d : Nat) (hd : 6 ≤ d) : ∀ (m i : Nat) (f : Nat → Nat → Int32), i ≤ n → n ≤ i + m → (zFh w f (hrsR (zI w) C R H V G i)) → zS 0 0 d m_Mod_hours (fun rv w1 => ∃ f, w1 = zuI w f ∧ rv = some (.int (hrsR (zI w) C R H V G n 138)) ∧ zFh w f (hrsR (zI w) C R H V G n)) 20 [(0, .ref 44), (1, .int (nI n)), (2, .int (nI i))] [] (zuI w f) := by
  have hex : ∀ f : Nat → Nat → Int32, (zFh w f (hrsR (zI w) C R H V G n)) → zS 0 0 d m_Mod_hours (fun rv w1 => ∃ f, w1 = zuI w f ∧ rv = some (.int (hrsR (zI w) C R H V G n 138)) ∧ zFh w f (hrsR (zI w) C R H V G n)) 20 [(0, .ref 44), (1, .int (nI n)), (2, .int (nI n))] [] (zuI w f) := by
    intro f hf
    refine z_iload_n (pc := 20) (i := 2) (j := 2) rfl rfl rfl ?_
    refine z_iload_n (pc := 21) (i := 1) (j := 1) rfl rfl rfl ?_
    refine z_icmp_ge (pc := 22) (tgt := 35) rfl (by decide) (fun h22 => ?_) (fun h22 => ?_)
    · refine z_aload_n (pc := 35) (i := 0) (j := 0) rfl rfl rfl ?_
      refine z_getR (pc := 36) (x := 67) rfl fl_Mod_78 hm.1 rfl (mr_67 hm) ?_
      refine z_sipush (pc := 39) (v := 138) rfl (by decide) ?_
      refine z_iald (pc := 42) rfl (mk_67 hm) (vp_in_nI (n := 138) (by decide) (by decide)) ?_
      refine z_eqi (y := hrsR (zI w) C R H V G n 138) (congrFun hf.2.1 138) ?_
      exact z_iret (pc := 43) rfl rfl ⟨f, rfl, rfl, hf⟩
    · exact absurd (Int32.le_refl _) h22
  intro m
  induction m with
  | zero =>
    intro i f hii hmm hf
    obtain rfl : i = n := by omega
    exact hex f hf
  | succ m ih =>
    intro i f hii hmm hf
    by_cases hlt : i < n
    · skip
      refine z_iload_n (pc := 20) (i := 2) (j := 2) rfl rfl rfl ?_
      refine z_iload_n (pc := 21) (i := 1) (j := 1) rfl rfl rfl ?_
      refine z_icmp_ge (pc := 22) (tgt := 35) rfl (by decide) (fun h22 => ?_) (fun h22 => ?_)
      · exact absurd h22 (nI_ge (b := n) hlt (by omega))
      · refine z_aload_n (pc := 25) (i := 0) (j := 0) rfl rfl rfl ?_
        refine z_cV (pc := 26) (mc1 := 0) (ms1 := 0) (mc2 := 0) (ms2 := 0) (as := []) (rest := []) (o := 44) rfl rfl hm.1 ok_Mod_passes rfl rfl cl_Mod_327 (by omega) (Nat.le_of_ble_eq_true rfl) (Nat.le_of_ble_eq_true rfl) (Nat.le_refl _) (Nat.le_refl _) (c_Mod_passes (w := zuI w f) hm (zFh_i hf hi).1 (zFh_i hf hi).2.1 (zFh_i hf hi).2.2.1 hi.2.2.2.1 hi.2.2.2.2.1 hi.2.2.2.2.2.1 (V := V) (zFh_i hf hi).2.2.2.2.2.2.1 (G := G) (zFh_i hf hi).2.2.2.2.2.2.2 (yv := yvO V (f 67 138)) (yvO_lt _ _) (yvO_eq _ _) 5 (by decide)) (fun r1 w1 hp => ?_) rfl rfl
        obtain ⟨g, hw1, rfl, g67, hg, hk⟩ := hp
        rw [hw1]
        refine ⟨⟨Nat.le_refl _, Or.inl rfl⟩, ?_⟩
        refine z_iinc (pc := 29) (i := 2) (j := 2) (v := nI (i + 1)) (ls' := [(0, .ref 44), (1, .int (nI n)), (2, .int (nI (i + 1)))]) rfl rfl (nI_1 i) (by decide) rfl ?_
        refine z_goto (pc := 32) (tgt := 20) rfl (by decide) ?_
        refine ih (i + 1) g (by omega) (by omega) ⟨fun o h1 h2 h3 h4 h5 => (hg o h1 h2 h3 h4 h5).trans (hf.1 o h1 h2 h3 h4 h5), ?_, fun k h1 h2 => (hk k h2).trans (hf.2.2.1 k h1 h2), (hk 0 (by decide)).trans hf.2.2.2⟩
        rw [g67, passRow_R _ _ _ _ _ hi.2.2.2.2.2.1]
        show passR f C R H (yvO V (f 67 138)) G (f 67) = passR (zI w) C R H (yvO V (hrsR (zI w) C R H V G i 138)) G (hrsR (zI w) C R H V G i)
        rw [hf.2.1, passR_c (f := zI w) (g := f) (hf.1 46 (by omega) (by decide) (by decide) (by decide) (by decide)) (hf.1 48 (by omega) (by decide) (by decide) (by decide) (by decide)) (hf.1 49 (by omega) (by decide) (by decide) (by decide) (by decide)) (hf.1 50 (by omega) (by decide) (by decide) (by decide) (by decide)) (hf.1 51 (by omega) (by decide) (by decide) (by decide) (by decide))]
    · obtain rfl : i = n := by omega
      exact hex f hf
theorem zS_P {mc ms d : Nat} {M : zM} {P Q : Option Value → zW → Prop} {pc : Nat} {ls : List (Nat × Value)} {st : List Value} {w : zW} (h : ∀ r w1, P r w1 → Q r w1) (k : zS mc ms d M P pc ls st w) : zS mc ms d M Q pc ls st w := fun p l e R s m args below meth c Q D cA h0 ad0 n0 C => k p l e R s m args below meth c Q D cA h0 ad0 n0 ⟨C.1, C.2.1, C.2.2.1, C.2.2.2.1, C.2.2.2.2.1, C.2.2.2.2.2.1, C.2.2.2.2.2.2.1, C.2.2.2.2.2.2.2.1, C.2.2.2.2.2.2.2.2.1, C.2.2.2.2.2.2.2.2.2.1, C.2.2.2.2.2.2.2.2.2.2.1, C.2.2.2.2.2.2.2.2.2.2.2.1, fun r w' hp => C.2.2.2.2.2.2.2.2.2.2.2.2 r w' (h r w' hp)⟩
theorem wi1_of {x a b : Int32} (h : ¬ (if x < a then 0 else if b < x then 0 else 1 : Int32) = 0) : a.toInt ≤ x.toInt ∧ x.toInt ≤ b.toInt := by
  by_cases h1 : x < a
  · rw [if_pos h1] at h; exact absurd rfl h
  · rw [if_neg h1] at h
    by_cases h2 : b < x
    · rw [if_pos h2] at h; exact absurd rfl h
    · rw [fa_lt] at h1 h2; omega
set_option maxRecDepth 100000 in
set_option maxHeartbeats 4000000 in
theorem c_Mod_hours {w : zW} (hm : zMo w) {C R H : Nat} {V : Int32 → Int32} {G : Int32 → Int32 → Int32 → Int32} (hi : zMi (zI w) C R H V G) (b : Int32) (d : Nat) (hd : 6 ≤ d) : zS 0 0 d m_Mod_hours (fun rv w1 => ∃ f, w1 = zuI w f ∧ rv = some (.int (if (if b < 1 then 0 else if 1000 < b then 0 else 1 : Int32) = 0 then -1 else hrsR (zI w) C R H V G b.toNatClampNeg 138)) ∧ zFh w f (if (if b < 1 then 0 else if 1000 < b then 0 else 1 : Int32) = 0 then zI w 67 else hrsR (zI w) C R H V G b.toNatClampNeg)) 0 [(0, .ref 44), (1, .int b)] [] w := by
  refine z_aload_n (pc := 0) (i := 0) (j := 0) rfl rfl rfl ?_
  refine z_iconst (pc := 1) (v := 0) rfl (by decide) ?_
  refine z_putI (pc := 2) rfl fl_Mod_100 hm.1 rfl  ?_
  change zS _ _ _ _ _ _ _ _ (zuI w (z2 (zI w) 44 0 0))
  obtain ⟨f0, hf0⟩ : ∃ f0, f0 = z2 (zI w) 44 0 0 := ⟨_, rfl⟩
  rw [← hf0]
  have F_f0 : zFr w f0 := hf0 ▸ zFr_0 w
  refine z_iload_n (pc := 5) (i := 1) (j := 1) rfl rfl rfl ?_
  refine z_iconst (pc := 6) (v := 1) rfl (by decide) ?_
  refine z_sipush (pc := 7) (v := 1000) rfl (by decide) ?_
  refine z_cS (pc := 10) (mc1 := 0) (ms1 := 0) (mc2 := 0) (ms2 := 0) (as := [.int b, .int 1, .int 1000]) (rest := []) ok_Mod_within rfl rfl cl_Mod_214 (by omega) (Nat.le_of_ble_eq_true rfl) (Nat.le_of_ble_eq_true rfl) (Nat.le_refl _) (Nat.le_refl _) (c_Mod_within b 1 1000 0 _) (fun r1 w1 hp => ?_) rfl rfl
  obtain ⟨rfl, hw1⟩ := hp
  rw [hw1]
  refine ⟨⟨Nat.le_refl _, Or.inl rfl⟩, ?_⟩
  refine z_if_ne (pc := 13) (tgt := 18) rfl (by decide) (fun h13 => ?_) (fun h13 => ?_)
  · obtain ⟨n, hn, rfl⟩ : ∃ n : Nat, n ≤ 1000 ∧ b = nI n := by
      have z1 : (1 : Int32).toInt = 1 := rfl
      have zk : (1000 : Int32).toInt = 1000 := rfl
      have := wi1_of h13
      exact ⟨b.toInt.toNat, by omega, by apply Int32.toInt_inj.mp; rw [nI_toInt (by omega)]; omega⟩
    refine z_iconst (pc := 18) (v := 0) rfl (by decide) ?_
    refine z_istore_n (pc := 19) (i := 2) (ls' := [(0, .ref 44), (1, .int (nI n)), (2, .int 0)]) rfl rfl (by decide) rfl ?_
    refine zS_P ?_ (l_Mod_hours hm hi n hn d hd n 0 f0 (by omega) (by omega) (zFh_s (zFs_r F_f0)))
    intro r1 w1 hp
    rw [if_neg h13, nI_clamp (by omega), if_neg h13]
    exact hp
  · refine z_iconst (pc := 16) (v := (-1)) rfl (by decide) ?_
    exact z_iret (pc := 17) rfl rfl ⟨f0, rfl, by rw [if_pos h13], by rw [if_pos h13]; exact zFh_s (zFs_r F_f0)⟩
