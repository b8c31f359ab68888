/-! THE SAME ANSWERS: only -/
theorem rsum_n {g : Nat → Int32} {v : Nat → Nat} : ∀ n, (∀ k, k < n → g k = nI (v k)) → rsum g n = nI (fb_sm v n) := by
  intro n
  induction n with
  | zero => intro _; rfl
  | succ n ih =>
    intro h
    rw [rsum, fb_sm_succ, ih (fun k hk => h k (by omega)), h n (by omega), nI_add]
/-- who meets whom: of both, never of itself -/
def symM (c : Nat → Int32) : Prop := (∀ a, a < 8 → set8 (c a)) ∧ (∀ a b, a < 8 → b < 8 → tb (c a) b = true → tb (c b) a = true) ∧ ∀ a, a < 8 → tb (c a) a = false
theorem cset_sym {f : Nat → Nat → Int32} {s C R H K U : Nat} (h : SRn f s 0 C R H K U) {yv : Nat} {G : Int32 → Int32 → Int32 → Int32} {hour burn : Int32} : symM (cset f s C R yv G hour burn H) := by
  have hH := h.1.2.2.1
  have lo : ∀ a, H ≤ a → cset f s C R yv G hour burn H a = 0 := fun a ha => if_neg (by omega)
  refine ⟨fun a ha => ?_, fun a b ha hb t => ?_, fun a ha => ?_⟩
  · by_cases q : a < H
    · rw [cset_m h q]; exact mset_8 _ _ _ _ _ _ _ hH q
    · rw [lo a (by omega)]; exact set8_0
  · by_cases q : a < H
    · rw [cset_m h q, mset_tb _ _ _ _ _ _ _ hH q (by omega)] at t
      obtain ⟨t1, t2, x, t3, t4, t5⟩ := t
      rw [cset_m h t2, mset_tb _ _ _ _ _ _ _ hH t2 (by omega)]
      exact ⟨fun e => t1 e.symm, q, x, t3, t5, t4⟩
    · rw [lo a (by omega), tb_0] at t
      cases t
  · by_cases q : a < H
    · rw [cset_m h q]
      cases e : tb (mset f C R yv G hour burn H a) a with
      | false => rfl
      | true => exact absurd rfl ((mset_tb _ _ _ _ _ _ _ hH q (by omega)).mp e).1
    · rw [lo a (by omega), tb_0]
theorem set8_z {x : Int32} (h : set8 x) (hx : ¬ x = 0) : ∃ b, b < 8 ∧ tb x b = true := by
  apply Decidable.byContradiction
  intro z
  refine hx (set8_ext h set8_0 (fun i hi => ?_))
  rw [tb_0]
  cases e : tb x i with
  | false => rfl
  | true => exact absurd ⟨i, hi, e⟩ z
def ctM (c : Nat → Int32) (k : Nat) : Nat := fb_ct (tb (c k)) 8
theorem ct_bit : ∀ j : Fin 8, fb_ct (tb (bitI j)) 8 = 1 := by decide +kernel
theorem sm_take {v : Nat → Nat} {i : Nat} (hi : i < 8) : fb_sm v 8 = v i + fb_sm (fun k => if k = i then 0 else v k) 8 := by
  have := fb_sm_upd v 0 hi
  omega
theorem only_ct {c : Nat → Int32} (h : symM c) {i j : Nat} (hi : i < 8) (hj : j < 8) (hij : i ≠ j) (e1 : c i = bitI j) (e2 : c j = bitI i) : rsum (fun k => bitc (c k)) 8 / 2 = 1 ↔ ∀ a, a < 8 → a = i ∨ a = j ∨ c a = 0 := by
  have c1 : ctM c i = 1 := by unfold ctM; rw [e1]; exact ct_bit ⟨j, hj⟩
  have c2 : ctM c j = 1 := by unfold ctM; rw [e2]; exact ct_bit ⟨i, hi⟩
  have eS : rsum (fun k => bitc (c k)) 8 = nI (fb_sm (ctM c) 8) := rsum_n 8 (fun k hk => bitc_8 (h.1 k hk))
  have b8 : fb_sm (ctM c) 8 ≤ 8 * 8 := fb_sm_bound (fun k _ => fb_ct_le _ _)
  have t1 := sm_take (v := ctM c) hi
  have t2 := sm_take (v := fun k => if k = i then 0 else ctM c k) hj
  have x2 : (if j = i then 0 else ctM c j) = ctM c j := if_neg (fun e => hij e.symm)
  rw [eS, show (2 : Int32) = nI 2 from rfl, pk_div (by omega) (by decide) (by decide), show (1 : Int32) = nI 1 from rfl, nI_eq (by omega) (by decide)]
  constructor
  · intro hs a ha
    apply Decidable.byContradiction
    intro z
    have z1 : a ≠ i := fun y => z (Or.inl y)
    have z2 : a ≠ j := fun y => z (Or.inr (Or.inl y))
    have z3 : ¬ c a = 0 := fun y => z (Or.inr (Or.inr y))
    obtain ⟨b, hb, tab⟩ := set8_z (h.1 a ha) z3
    have tba := h.2.1 a b ha hb tab
    have ba : b ≠ a := fun y => by rw [y, h.2.2 a ha] at tab; cases tab
    have bi : b ≠ i := fun y => by
      rw [y, e1, tb_bitI (by omega) (by omega)] at tba
      exact z2 (of_decide_eq_true tba)
    have bj : b ≠ j := fun y => by
      rw [y, e2, tb_bitI (by omega) (by omega)] at tba
      exact z1 (of_decide_eq_true tba)
    have pa : 0 < ctM c a := fb_ct_pos.mpr ⟨b, hb, tab⟩
    have pb : 0 < ctM c b := fb_ct_pos.mpr ⟨a, ha, tba⟩
    have t3 := sm_take (v := fun k => if k = j then 0 else if k = i then 0 else ctM c k) ha
    have t4 := sm_take (v := fun k => if k = a then 0 else if k = j then 0 else if k = i then 0 else ctM c k) hb
    have x3 : (if a = j then 0 else if a = i then 0 else ctM c a) = ctM c a := by rw [if_neg z2, if_neg z1]
    have x4 : (if b = a then 0 else if b = j then 0 else if b = i then 0 else ctM c b) = ctM c b := by rw [if_neg ba, if_neg bj, if_neg bi]
    skip
    omega
  · intro hz
    have t0 : fb_sm (fun k => if k = j then 0 else if k = i then 0 else ctM c k) 8 = fb_sm (fun _ => 0) 8 := fb_sm_cong (fun k hk => by
      show (if k = j then 0 else if k = i then 0 else ctM c k) = 0
      rcases hz k hk with y | y | y
      · by_cases q : k = j
        · rw [if_pos q]
        · rw [if_neg q, if_pos y]
      · rw [if_pos y]
      · by_cases q : k = j
        · rw [if_pos q]
        · rw [if_neg q]
          by_cases q2 : k = i
          · rw [if_pos q2]
          · rw [if_neg q2]
            unfold ctM
            rw [y]
            exact fb_ct_zero.mpr (fun b _ => tb_0 b))
    have t00 : fb_sm (fun _ => 0) 8 = 0 := by rw [fb_sm_const]
    skip
    omega
theorem onlyN_iff {m : Nat → Int32} {i j : Nat} (hi : i < 8) (hj : j < 8) : ∀ n, n ≤ 8 → (¬ onlyN m i j n = 0 ↔ ((m i = bitI j ∧ m j = bitI i) ∧ ∀ a, a < n → a = i ∨ a = j ∨ m a = 0)) := by
  intro n
  induction n with
  | zero =>
    intro _
    rw [onlyN]
    unfold only0
    by_cases a : m i = bitI j
    · rw [if_pos a]
      by_cases b : m j = bitI i
      · rw [if_pos b]; exact ⟨fun _ => ⟨⟨a, b⟩, fun x hx => absurd hx (Nat.not_lt_zero x)⟩, fun _ => by decide⟩
      · rw [if_neg b]; exact ⟨fun z => absurd rfl z, fun z => absurd z.1.2 b⟩
    · rw [if_neg a]; exact ⟨fun z => absurd rfl z, fun z => absurd z.1.1 a⟩
  | succ n ih =>
    intro hn
    have ih := ih (by omega)
    rw [onlyN]
    by_cases z : onlyN m i j n = 0
    · rw [if_pos z]
      exact ⟨fun y => absurd rfl y, fun y => absurd z (ih.mpr ⟨y.1, fun a ha => y.2 a (by omega)⟩)⟩
    · rw [if_neg z]
      obtain ⟨p1, p2⟩ := ih.mp z
      have last : (¬ (if nI n = nI i then 1 else if nI n = nI j then 1 else if m n = 0 then 1 else 0 : Int32) = 0) ↔ (n = i ∨ n = j ∨ m n = 0) := by
        by_cases a : n = i
        · rw [if_pos (by rw [a])]; exact ⟨fun _ => Or.inl a, fun _ => by decide⟩
        rw [if_neg (fun y => a ((nI_eq (by omega) (by omega)).mp y))]
        by_cases b : n = j
        · rw [if_pos (by rw [b])]; exact ⟨fun _ => Or.inr (Or.inl b), fun _ => by decide⟩
        rw [if_neg (fun y => b ((nI_eq (by omega) (by omega)).mp y))]
        by_cases e : m n = 0
        · rw [if_pos e]; exact ⟨fun _ => Or.inr (Or.inr e), fun _ => by decide⟩
        · rw [if_neg e]; exact ⟨fun y => absurd rfl y, fun y => by rcases y with y | y | y; exact absurd y a; exact absurd y b; exact absurd y e⟩
      rw [last]
      refine ⟨fun y => ⟨p1, fun a ha => ?_⟩, fun y => y.2 n (by omega)⟩
      by_cases q : a = n
      · rw [q]; exact y
      · exact p2 a (by omega)
theorem firstR_c {p q : Nat → Int32} (h : ∀ t, p t = 0 ↔ q t = 0) : ∀ m t, firstR p m t = firstR q m t := by
  intro m
  induction m with
  | zero => intro t; rfl
  | succ m ih =>
    intro t
    rw [firstR, firstR]
    by_cases z : p t = 0
    · rw [if_pos z, if_pos ((h t).mp z), ih]
    · rw [if_neg z, if_neg (fun y => z ((h t).mpr y))]
theorem an_only {f : Nat → Nat → Int32} {s C R H K U N : Nat} {V : Int32 → Int32} {F G : Int32 → Int32 → Int32 → Int32} (h : SRn f s 0 C R H K U) (k : LR f 21 (f 67) H N) (hF : ∀ x y z, F x y z = V x) (a b : Int32) : (if twoOK H a b = 0 then -1 else firstR (onlyT f s C R H F G a.toNatClampNeg b.toNatClampNeg) 24 0) = (if twoOK H a b = 0 then -1 else firstR (onlyAt f C R H V G a.toNatClampNeg b.toNatClampNeg) 24 0) := by
  have hH := h.1.2.2.1
  by_cases z : twoOK H a b = 0
  · rw [if_pos z, if_pos z]
  rw [if_neg z, if_neg z]
  obtain ⟨i, j, hi, hj, hij, rfl, rfl⟩ := two_of hH z
  rw [nI_clamp (show i < 2 ^ 31 by omega), nI_clamp (show j < 2 ^ 31 by omega)]
  refine firstR_c (fun t => ?_) 24 0
  unfold onlyT onlyAt
  rw [LR_hour k, k.2.2.1.1, k.2.2.1.2, ← cyv_e hF]
  have sy := cset_sym (yv := cyv F (f 21 8 + nI t)) (G := G) (hour := f 21 8 + nI t) (burn := ((f 21 10 ||| bitI i) ||| bitI j) &&& (f 21 11 ^^^ (-1))) h
  have em : ∀ a, a < H → cset f s C R (cyv F (f 21 8 + nI t)) G (f 21 8 + nI t) (((f 21 10 ||| bitI i) ||| bitI j) &&& (f 21 11 ^^^ (-1))) H a = mset f C R (cyv F (f 21 8 + nI t)) G (f 21 8 + nI t) (((f 21 10 ||| bitI i) ||| bitI j) &&& (f 21 11 ^^^ (-1))) H a := fun a ha => cset_m h ha
  have lo : ∀ a, H ≤ a → cset f s C R (cyv F (f 21 8 + nI t)) G (f 21 8 + nI t) (((f 21 10 ||| bitI i) ||| bitI j) &&& (f 21 11 ^^^ (-1))) H a = 0 := fun a ha => if_neg (by omega)
  generalize cset f s C R (cyv F (f 21 8 + nI t)) G (f 21 8 + nI t) (((f 21 10 ||| bitI i) ||| bitI j) &&& (f 21 11 ^^^ (-1))) H = c at sy em lo
  generalize mset f C R (cyv F (f 21 8 + nI t)) G (f 21 8 + nI t) (((f 21 10 ||| bitI i) ||| bitI j) &&& (f 21 11 ^^^ (-1))) H = m at em
  have en := onlyN_iff (m := m) (i := i) (j := j) (by omega) (by omega) H hH
  have ec : ¬ onlyC c i j = 0 ↔ ((c i = bitI j ∧ c j = bitI i) ∧ ∀ a, a < 8 → a = i ∨ a = j ∨ c a = 0) := by
    unfold onlyC
    by_cases x1 : c i = bitI j
    · rw [if_pos x1]
      by_cases x2 : c j = bitI i
      · rw [if_pos x2]
        have o := only_ct sy (by omega) (by omega) hij x1 x2
        by_cases x3 : rsum (fun k => bitc (c k)) 8 / 2 = 1
        · rw [if_pos x3]; exact ⟨fun _ => ⟨⟨x1, x2⟩, o.mp x3⟩, fun _ => by decide⟩
        · rw [if_neg x3]; exact ⟨fun y => absurd rfl y, fun y => absurd (o.mpr y.2) x3⟩
      · rw [if_neg x2]; exact ⟨fun y => absurd rfl y, fun y => absurd y.1.2 x2⟩
    · rw [if_neg x1]; exact ⟨fun y => absurd rfl y, fun y => absurd y.1.1 x1⟩
  have eq : (¬ onlyC c i j = 0) ↔ ¬ onlyN m i j H = 0 := by
    rw [ec, en, em i hi, em j hj]
    refine ⟨fun y => ⟨y.1, fun a ha => by rw [← em a ha]; exact y.2 a (by omega)⟩, fun y => ⟨y.1, fun a ha => ?_⟩⟩
    by_cases q : a < H
    · rw [em a q]; exact y.2 a q
    · exact Or.inr (Or.inr (lo a (by omega)))
  constructor
  · intro y
    exact Decidable.byContradiction (fun w => (eq.mpr w) y)
  · intro y
    exact Decidable.byContradiction (fun w => (eq.mp w) y)
