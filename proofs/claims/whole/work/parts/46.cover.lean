/-! WHERE SMOKE LIES AND WHO MEETS, by bits: the model's side -/
def anyB (p : Nat → Bool) : Nat → Bool
  | 0 => false
  | n + 1 => anyB p n || p n
theorem anyB_iff (p : Nat → Bool) : ∀ n, anyB p n = true ↔ ∃ k, k < n ∧ p k = true
  | 0 => ⟨fun h => (by cases h), fun ⟨k, hk, _⟩ => absurd hk (Nat.not_lt_zero k)⟩
  | n + 1 => by
    show (anyB p n || p n) = true ↔ _
    rw [Bool.or_eq_true, anyB_iff p n]
    constructor
    · rintro (⟨k, hk, h⟩ | h)
      · exact ⟨k, by omega, h⟩
      · exact ⟨n, by omega, h⟩
    · rintro ⟨k, hk, h⟩
      by_cases e : k = n
      · subst e; exact Or.inr h
      · exact Or.inl ⟨k, by omega, h⟩
theorem anyB_cong {p q : Nat → Bool} : ∀ {n : Nat}, (∀ k, k < n → p k = q k) → anyB p n = anyB q n
  | 0, _ => rfl
  | n + 1, h => by show (anyB p n || p n) = (anyB q n || q n); rw [anyB_cong (fun k hk => h k (by omega)), h n (by omega)]
theorem bool_iff {a b : Bool} (h : a = true ↔ b = true) : a = b := by cases a <;> cases b <;> simp_all
def covB (cell : Nat → Option Nat) (c n : Nat) : Bool := anyB (fun i => decide (cell i = some c)) n
theorem covB_s (cell : Nat → Option Nat) (c n : Nat) : covB cell c (n + 1) = (covB cell c n || decide (cell n = some c)) := rfl
theorem covB_iff {cell : Nat → Option Nat} {c n : Nat} : covB cell c n = true ↔ ∃ i, i < n ∧ cell i = some c := by
  unfold covB
  rw [anyB_iff]
  constructor
  · rintro ⟨k, hk, h⟩; exact ⟨k, hk, of_decide_eq_true h⟩
  · rintro ⟨k, hk, h⟩; exact ⟨k, hk, decide_eq_true h⟩
theorem smkI_tb (cell : Nat → Option Nat) {h : Nat} (hh : h < 32) (r : Nat → Int32) (c : Nat) {b : Nat} (hb : b < 32) : ∀ n, tb (smkI cell h r n c) b = (tb (r c) b || (decide (b = h) && covB cell c n))
  | 0 => by show tb (r c) b = _; rw [show covB cell c 0 = false from rfl, Bool.and_false, Bool.or_false]
  | n + 1 => by
    have ih := smkI_tb cell hh r c hb n
    rw [covB_s]
    rcases hq : cell n with _ | p
    · have e : smkI cell h r (n + 1) = smkI cell h r n := by show (match cell n with | none => _ | some c => _) = _; rw [hq]
      rw [e, ih]; simp
    · have e : smkI cell h r (n + 1) = upd (smkI cell h r n) p (smkI cell h r n p ||| bitI h) := by show (match cell n with | none => _ | some c => _) = _; rw [hq]
      rw [e]
      by_cases hp : c = p
      · subst hp
        rw [pk_us, tb_or, ih, tb_bitI hh hb]
        cases tb (r c) b <;> cases decide (b = h) <;> cases covB cell c n <;> simp
      · rw [pk_un hp, ih, decide_eq_false (show ¬ some p = some c from fun z => hp (Option.some.inj z).symm), Bool.or_false]
theorem smkH_tb (f : Nat → Nat → Int32) (C R yv : Nat) (G : Int32 → Int32 → Int32 → Int32) (hour burn : Int32) (r : Nat → Int32) (c : Nat) {b : Nat} (hb : b < 32) : ∀ n, n ≤ 32 → tb (smkH f C R yv G hour burn r n c) b = (tb (r c) b || (decide (b < n) && covB (mcell f C R b yv) c (mlen f G hour burn yv b)))
  | 0, _ => by show tb (r c) b = _; simp
  | n + 1, hn => by
    show tb (smkI _ n (smkH f C R yv G hour burn r n) _ c) b = _
    rw [smkI_tb _ (by omega) _ _ hb, smkH_tb f C R yv G hour burn r c hb n (by omega), Bool.or_assoc]
    refine congrArg (fun z => tb (r c) b || z) ?_
    by_cases e : b = n
    · subst e
      rw [decide_eq_false (Nat.lt_irrefl b), decide_eq_true (Nat.lt_succ_self b), decide_eq_true rfl]; simp
    · rw [decide_eq_false e, Bool.false_and, Bool.or_false]
      by_cases h2 : b < n
      · rw [decide_eq_true h2, decide_eq_true (show b < n + 1 by omega)]
      · rw [decide_eq_false h2, decide_eq_false (show ¬ b < n + 1 by omega)]
def mcov (f : Nat → Nat → Int32) (C R yv : Nat) (G : Int32 → Int32 → Int32 → Int32) (hour burn : Int32) (b c : Nat) : Bool := covB (mcell f C R b yv) c (mlen f G hour burn yv b)
theorem smkM_tb (f : Nat → Nat → Int32) (C R yv : Nat) (G : Int32 → Int32 → Int32 → Int32) (hour burn : Int32) {H c b : Nat} (hH : H ≤ 8) (hc : c < 192) (hb : b < 32) : tb (smkM f C R yv G hour burn H c) b = (decide (b < H) && mcov f C R yv G hour burn b c) := by
  unfold smkM
  rw [smkH_tb f C R yv G hour burn _ c hb H (by omega)]
  rw [show fillF (f 70) 0 192 c = 0 from if_pos hc, tb_0, Bool.false_or]
  rfl
theorem smkM_8 (f : Nat → Nat → Int32) (C R yv : Nat) (G : Int32 → Int32 → Int32 → Int32) (hour burn : Int32) {H c : Nat} (hH : H ≤ 8) (hc : c < 192) : set8 (smkM f C R yv G hour burn H c) := fun i h1 h2 => by
  rw [smkM_tb f C R yv G hour burn hH hc h2, decide_eq_false (by omega), Bool.false_and]
theorem mcov_in {f : Nat → Nat → Int32} {C R yv : Nat} {G : Int32 → Int32 → Int32 → Int32} {hour burn : Int32} {b c : Nat} (hC : C ≤ 12) (hR : R ≤ 12) (h : mcov f C R yv G hour burn b c = true) : c / 16 < R ∧ c % 16 < C := by
  obtain ⟨i, _, hi⟩ := covB_iff.mp h
  obtain ⟨_, _, x, y, hx, hy, _, _, e⟩ := cell16_in hC hR hi
  omega
theorem metB_tb {x : Int32} {h b : Nat} (hh : h < 32) (hb : b < 32) : tb (metB x h) b = (tb x h && (tb x b && !decide (b = h))) := by
  unfold metB
  by_cases e : tb x h = true
  · rw [if_pos ((sh_1 hh x).mpr e), tb_and, tb_not _ hb, tb_bitI hh hb, e, Bool.true_and]
  · rw [if_neg (fun z => e ((sh_1 hh x).mp z)), tb_0, Bool.eq_false_iff.mpr e, Bool.false_and]
theorem metC_tb (m sm : Nat → Int32) (H : Nat) (hH : H ≤ 8) {h b : Nat} (hh : h < H) (hb : b < 32) : ∀ n, (∀ c, c < n → set8 (sm c)) → tb (metC m sm H n h) b = (tb (m h) b || anyB (fun c => tb (sm c) h && (tb (sm c) b && !decide (b = h))) n)
  | 0, _ => by show tb (m h) b = (_ || false); rw [Bool.or_false]
  | n + 1, hs => by
    have ih := metC_tb m sm H hH hh hb n (fun c hc => hs c (by omega))
    show tb (metI (metC m sm H n) (sm n) H h) b = (tb (m h) b || (anyB _ n || _))
    rw [← Bool.or_assoc, ← ih]
    unfold metI
    by_cases hx : 0 < sm n
    · rw [if_pos ⟨hh, hx⟩, tb_or, metB_tb (by omega) hb]
    · rw [if_neg (fun z => hx z.2)]
      have : tb (sm n) h = false := by
        cases e : tb (sm n) h with
        | false => rfl
        | true => exact absurd (set8_gt (hs n (by omega)) (by omega) e) hx
      show _ = (_ || (tb (sm n) h && _))
      rw [this, Bool.false_and, Bool.or_false]
theorem metM_tb (f : Nat → Nat → Int32) (C R yv : Nat) (G : Int32 → Int32 → Int32 → Int32) (hour burn : Int32) {H a b : Nat} (hH : H ≤ 8) (ha : a < H) (hb : b < 32) : tb (metM f C R yv G hour burn H a) b = true ↔ b ≠ a ∧ b < H ∧ ∃ c, c < 192 ∧ mcov f C R yv G hour burn a c = true ∧ mcov f C R yv G hour burn b c = true := by
  unfold metM
  rw [metC_tb _ _ H hH ha hb 192 (fun c hc => smkM_8 f C R yv G hour burn hH hc)]
  rw [show fillF (f 71) 0 H a = 0 from if_pos ha, tb_0, Bool.false_or, anyB_iff]
  constructor
  · rintro ⟨c, hc, h⟩
    rw [smkM_tb f C R yv G hour burn hH hc (by omega), smkM_tb f C R yv G hour burn hH hc hb, decide_eq_true ha, Bool.true_and, Bool.and_eq_true, Bool.and_eq_true, Bool.and_eq_true] at h
    obtain ⟨h1, ⟨h2, h3⟩, h4⟩ := h
    exact ⟨by simpa using h4, of_decide_eq_true h2, c, hc, h1, h3⟩
  · rintro ⟨h1, h2, c, hc, h3, h4⟩
    refine ⟨c, hc, ?_⟩
    rw [smkM_tb f C R yv G hour burn hH hc (by omega), smkM_tb f C R yv G hour burn hH hc hb, decide_eq_true ha, Bool.true_and, h3, h4, decide_eq_true h2]
    simp [h1]
theorem metM_8 (f : Nat → Nat → Int32) (C R yv : Nat) (G : Int32 → Int32 → Int32 → Int32) (hour burn : Int32) {H a : Nat} (hH : H ≤ 8) (ha : a < H) : set8 (metM f C R yv G hour burn H a) := fun i h1 h2 => by
  cases e : tb (metM f C R yv G hour burn H a) i with
  | false => rfl
  | true => have := ((metM_tb f C R yv G hour burn hH ha h2).mp e).2.1; omega
