/-! THE SAME ANSWERS: feast -/
theorem mcov_sub (f : Nat → Nat → Int32) (C R yv : Nat) (G : Int32 → Int32 → Int32 → Int32) (hour : Int32) {burn op : Int32} {a : Nat} (ha : a < 32) (h : tb burn a = true → tb op a = true) (c : Nat) : mcov f C R yv G hour burn a c = (tb burn a && mcov f C R yv G hour op a c) := by
  unfold mcov mlen
  cases t : tb burn a with
  | true => rw [if_pos ((sh_1 ha burn).mpr t), if_pos ((sh_1 ha op).mpr (h t)), Bool.true_and]
  | false =>
    rw [if_neg (fun y => by rw [(sh_1 ha burn).mp y] at t; cases t), Bool.false_and]
    rfl
theorem mset_sub (f : Nat → Nat → Int32) (C R yv : Nat) (G : Int32 → Int32 → Int32 → Int32) (hour : Int32) {burn op : Int32} {H a b : Nat} (hH : H ≤ 8) (ha : a < H) (hb : b < 8) (h : ∀ i, i < 8 → tb burn i = true → tb op i = true) : tb (mset f C R yv G hour burn H a) b = (tb burn a && (tb burn b && tb (mset f C R yv G hour op H a) b)) := by
  rw [Bool.eq_iff_iff, Bool.and_eq_true, Bool.and_eq_true, mset_tb f C R yv G hour burn hH ha (by omega), mset_tb f C R yv G hour op hH ha (by omega)]
  have ea := fun c => mcov_sub f C R yv G hour (burn := burn) (op := op) (a := a) (by omega) (h a (by omega)) c
  have eb := fun c => mcov_sub f C R yv G hour (burn := burn) (op := op) (a := b) (by omega) (h b (by omega)) c
  constructor
  · rintro ⟨h1, h2, c, h3, h4, h5⟩
    rw [ea c, Bool.and_eq_true] at h4
    rw [eb c, Bool.and_eq_true] at h5
    exact ⟨h4.1, h5.1, h1, h2, c, h3, h4.2, h5.2⟩
  · rintro ⟨t1, t2, h1, h2, c, h3, h4, h5⟩
    exact ⟨h1, h2, c, h3, by rw [ea c, t1, h4]; rfl, by rw [eb c, t2, h5]; rfl⟩
theorem and_0 {x y : Int32} : x &&& y = 0 ↔ ∀ i, i < 32 → tb x i = true → tb y i = false := by
  constructor
  · intro h i _ t
    have := congrArg (fun z => tb z i) h
    simp only [tb_and, tb_0, t, Bool.true_and] at this
    exact this
  · intro h
    apply tb_ext
    intro i hi
    rw [tb_and, tb_0]
    cases t : tb x i with
    | false => rfl
    | true => rw [h i hi t]; rfl
theorem op_tb {H : Nat} (hH : H ≤ 8) (cl : Int32) {i : Nat} (hi : i < 32) : tb (((1 <<< (nI H &&& 31)) - 1) &&& (cl ^^^ (-1))) i = (decide (i < H) && !tb cl i) := by
  have p : 2 ^ H ≤ 2 ^ 8 := Nat.pow_le_pow_right (by decide) hH
  have q : 1 ≤ 2 ^ H := Nat.one_le_two_pow
  rw [tb_and, tb_not cl hi, sh_H hH, nI_m1 q, tb_n (by omega) hi, Nat.testBit_two_pow_sub_one]
theorem g_lt {H g i : Nat} (hg : g < 2 ^ H) (hH : H ≤ 8) (hi : i < 32) (t : tb (nI g) i = true) : i < H := by
  have p : 2 ^ H ≤ 2 ^ 8 := Nat.pow_le_pow_right (by decide) hH
  rw [tb_n (by omega) hi] at t
  apply Decidable.byContradiction
  intro z
  rw [Nat.testBit_lt_two_pow (Nat.lt_of_lt_of_le hg (Nat.pow_le_pow_right (by decide) (by omega)))] at t
  cases t
theorem g_open {H g : Nat} (hg : g < 2 ^ H) (hH : H ≤ 8) (cl : Int32) : nI g &&& ((((1 <<< (nI H &&& 31)) - 1) &&& (cl ^^^ (-1))) ^^^ (-1)) = 0 ↔ nI g &&& cl = 0 := by
  rw [and_0, and_0]
  constructor
  · intro h i hi t
    have := h i hi t
    rw [tb_not _ hi, op_tb hH cl hi, decide_eq_true (g_lt hg hH hi t)] at this
    cases q : tb cl i with
    | false => rfl
    | true => rw [q] at this; cases this
  · intro h i hi t
    rw [tb_not _ hi, op_tb hH cl hi, decide_eq_true (g_lt hg hH hi t), h i hi t]
    rfl
theorem g_shut {H g : Nat} (hg : ¬ g < 2 ^ H) (g8 : g < 256) (hH : H ≤ 8) (cl : Int32) : ¬ nI g &&& ((((1 <<< (nI H &&& 31)) - 1) &&& (cl ^^^ (-1))) ^^^ (-1)) = 0 := fun z => by
  rw [and_0] at z
  refine hg (Nat.lt_pow_two_of_testBit g (fun i hi => ?_))
  by_cases i8 : i < 32
  · cases t : g.testBit i with
    | false => rfl
    | true =>
      have := z i i8 (by rw [tb_n (by omega) i8]; exact t)
      rw [tb_not _ i8, op_tb hH cl i8, decide_eq_false (by omega)] at this
      cases this
  · exact Nat.testBit_lt_two_pow (Nat.lt_of_lt_of_le g8 (Nat.le_trans (show 256 ≤ 2 ^ 8 by decide) (Nat.pow_le_pow_right (by decide) (by omega))))
theorem xor_lt : ∀ g : Fin 256, ∀ a : Fin 8, g.val.testBit a.val = true → g.val ^^^ 2 ^ a.val < g.val := by decide +kernel
/-- the first with so many pairs has nobody alone -/
theorem g_first {c : Nat → Int32} (h : symM c) {cl : Int32} {g M : Nat} (g8 : g < 256) (o : nI g &&& cl = 0) (v : gV c (nI g) 8) (hM : M < upS (gE c (nI g)) 8) (all : ∀ k, k < g → nI k &&& cl = 0 → gV c (nI k) 8 → upS (gE c (nI k)) 8 ≤ M) : fb_ct (tb (nI g)) 8 = 2 * upS (gE c (nI g)) 8 := by
  have u := gE_up h (nI g)
  have le := gD_ct v
  apply Decidable.byContradiction
  intro z
  obtain ⟨a, ha, ta, da⟩ := gD_lone v (by omega)
  have tg : g.testBit a = true := by rw [← tb_n (by omega) (by omega)]; exact ta
  have t2 : ∀ i, (g ^^^ 2 ^ a).testBit i = (g.testBit i ^^ decide (a = i)) := fun i => by rw [Nat.testBit_xor, Nat.testBit_two_pow]
  have lt : g ^^^ 2 ^ a < g := xor_lt ⟨g, g8⟩ ⟨a, ha⟩ tg
  have e : ∀ i, i < 32 → tb (nI (g ^^^ 2 ^ a)) i = (tb (nI g) i && !decide (i = a)) := fun i hi => by
    rw [tb_n (by omega) hi, tb_n (by omega) hi, t2]
    by_cases q : a = i
    · rw [← q, tg, decide_eq_true rfl]; rfl
    · rw [decide_eq_false q, decide_eq_false (fun y => q y.symm), Bool.xor_false]
      cases g.testBit i <;> rfl
  have eE := gE_lone h ha da (fun i hi => e i (by omega))
  have eD : ∀ x, x < 8 → gD c (nI (g ^^^ 2 ^ a)) x = gD c (nI g) x := fun x hx => fb_sm_cong (fun y hy => eE x y hx hy)
  have eU : upS (gE c (nI (g ^^^ 2 ^ a))) 8 = upS (gE c (nI g)) 8 := fb_sm_cong (fun x hx => fb_sm_cong (fun y hy => by
    show (if x < y then _ else 0) = (if x < y then _ else 0)
    rw [eE x y hx hy]))
  have := all _ lt (and_0.mpr (fun i hi t => by
    rw [e i hi, Bool.and_eq_true] at t
    exact and_0.mp o i hi t.1)) (fun x hx => by rw [eD x hx]; exact v x hx)
  omega
theorem bts_g {g : Nat} (g8 : g < 256) : bts (nI g) = nI (fb_ct (tb (nI g)) 8) := bits_8 (set8_of g8)
