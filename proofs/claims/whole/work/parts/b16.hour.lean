/-! THE MODEL'S HOUR, PLACE BY PLACE -/
def tk (x : Int32) (h : Nat) : Prop := (x >>> (nI h &&& 31)) &&& 1 = 1
theorem sootN_x {sm : Nat → Int32} {h h2 p : Nat} (r : Nat → Int32) (h8 : h < 8) (k8 : h2 < 8) (hh : h2 ≠ h) : ∀ n, sootN sm h r n (176 + 8 * p + h2) = r (176 + 8 * p + h2)
  | 0 => rfl
  | n + 1 => by
    rw [sootN_s]
    split
    · rw [pk_un (by omega)]; exact sootN_x r h8 k8 hh n
    · exact sootN_x r h8 k8 hh n
theorem sootN_p {sm : Nat → Int32} {h p : Nat} (r : Nat → Int32) (hs : ∀ c, c < 192 → (sm c >>> (nI h &&& 31)) &&& 1 = 1 → c % 16 < 12) : ∀ n, n ≤ 192 → ((16 * (p / 12) + p % 12 < n ∧ (sm (16 * (p / 12) + p % 12) >>> (nI h &&& 31)) &&& 1 = 1) → sootN sm h r n (176 + 8 * p + h) = r (176 + 8 * p + h) + 1) ∧ (¬ (16 * (p / 12) + p % 12 < n ∧ (sm (16 * (p / 12) + p % 12) >>> (nI h &&& 31)) &&& 1 = 1) → sootN sm h r n (176 + 8 * p + h) = r (176 + 8 * p + h)) := by
  intro n
  induction n with
  | zero => intro _; exact ⟨fun z => absurd z.1 (Nat.not_lt_zero _), fun _ => rfl⟩
  | succ n ih =>
    intro hn
    obtain ⟨i1, i2⟩ := ih (by omega)
    rw [sootN_s]
    by_cases b : (sm n >>> (nI h &&& 31)) &&& 1 = 1
    · rw [if_pos b]
      have n12 := hs n (by omega) b
      by_cases q : 16 * (p / 12) + p % 12 = n
      · have e : plc n = p := by unfold plc; omega
        rw [e, pk_us, q]
        rw [q] at i2
        rw [i2 (fun z => absurd z.1 (Nat.lt_irrefl n))]
        exact ⟨fun _ => rfl, fun z => absurd ⟨Nat.lt_succ_self n, b⟩ z⟩
      · have e : 176 + 8 * p + h ≠ 176 + 8 * plc n + h := by unfold plc; omega
        rw [pk_un e]
        exact ⟨fun z => i1 ⟨by omega, z.2⟩, fun z => i2 (fun y => z ⟨by omega, y.2⟩)⟩
    · rw [if_neg b]
      refine ⟨fun z => i1 ⟨?_, z.2⟩, fun z => i2 (fun y => z ⟨by omega, y.2⟩)⟩
      have : 16 * (p / 12) + p % 12 ≠ n := fun y => b (by rw [← y]; exact z.2)
      omega
theorem payN_pay (f : Nat → Nat → Int32) {h : Nat} (h8 : h < 8) : ∀ n, n ≤ 8 → payN f n (128 + h) = f 67 (128 + h) + (if h < n then payV f h else 0) := by
  intro n
  induction n with
  | zero => intro _; rw [if_neg (Nat.not_lt_zero h), Int32.add_zero]; rfl
  | succ n ih =>
    intro hn
    have e : payN f (n + 1) (128 + h) = upd (payN f n) (128 + n) (payN f n (128 + n) + payV f n) (128 + h) := by
      show sootN (f 70) n _ 192 (128 + h) = _
      rw [sootN_o _ _ _ (by omega)]
    rw [e]
    by_cases q : h = n
    · rw [q] at ih ⊢
      rw [pk_us, ih (by omega), if_neg (Nat.lt_irrefl n), Int32.add_zero, if_pos (Nat.lt_succ_self n)]
    · rw [pk_un (by omega), ih (by omega)]
      by_cases y : h < n
      · rw [if_pos y, if_pos (by omega)]
      · rw [if_neg y, if_neg (by omega)]
theorem payN_soot (f : Nat → Nat → Int32) {h p : Nat} (h8 : h < 8) (hp : p < 144) (hs : ∀ h c, h < 8 → c < 192 → (f 70 c >>> (nI h &&& 31)) &&& 1 = 1 → c % 16 < 12) : ∀ n, n ≤ 8 → payN f n (176 + 8 * p + h) = f 67 (176 + 8 * p + h) + (if h < n ∧ (f 70 (16 * (p / 12) + p % 12) >>> (nI h &&& 31)) &&& 1 = 1 then 1 else 0) := by
  intro n
  induction n with
  | zero => intro _; rw [if_neg (fun z => Nat.not_lt_zero h z.1), Int32.add_zero]; rfl
  | succ n ih =>
    intro hn
    have e : payN f (n + 1) (176 + 8 * p + h) = sootN (f 70) n (upd (payN f n) (128 + n) (payN f n (128 + n) + payV f n)) 192 (176 + 8 * p + h) := rfl
    have u : upd (payN f n) (128 + n) (payN f n (128 + n) + payV f n) (176 + 8 * p + h) = payN f n (176 + 8 * p + h) := pk_un (by omega)
    rw [e]
    by_cases q : h = n
    · obtain ⟨s1, s2⟩ := sootN_p (sm := f 70) (h := h) (p := p) (upd (payN f n) (128 + n) (payN f n (128 + n) + payV f n)) (fun c hc => hs h c h8 hc) 192 (Nat.le_refl _)
      rw [← q] at s1 s2 u ⊢
      rw [← q] at ih
      rw [u, ih (by omega), if_neg (fun z => Nat.lt_irrefl h z.1), Int32.add_zero] at s1 s2
      by_cases b : (f 70 (16 * (p / 12) + p % 12) >>> (nI h &&& 31)) &&& 1 = 1
      · rw [s1 ⟨by omega, b⟩, if_pos ⟨Nat.lt_succ_self h, b⟩]
      · rw [s2 (fun z => b z.2), if_neg (fun z => b z.2), Int32.add_zero]
    · rw [sootN_x _ (by omega) h8 q, u, ih (by omega)]
      congr 1
      by_cases b : h < n ∧ (f 70 (16 * (p / 12) + p % 12) >>> (nI h &&& 31)) &&& 1 = 1
      · rw [if_pos b, if_pos ⟨by omega, b.2⟩]
      · rw [if_neg b, if_neg (fun z => b ⟨by omega, z.2⟩)]
/-! weddings, place by place -/
def wdV (t : Int32) (met r : Nat → Int32) (a b : Nat) : Int32 := wedV (if t = 0 then r (8 * a + b) else 0) (mbit (met a) b)
theorem wedN_p (t ch : Int32) (met : Nat → Int32) {a : Nat} (a8 : a < 8) (q : (Nat → Int32) × Int32) : ∀ n, n ≤ 8 → (∀ k, 128 ≤ k → (wedN t ch met a q n).1 k = q.1 k) ∧ ∀ x y, x < 8 → y < 8 → ((x = a ∧ y < n) → (wedN t ch met a q n).1 (8 * x + y) = wdV t met q.1 x y ∧ (wedN t ch met a q n).1 (64 + (8 * x + y)) = q.1 (64 + (8 * x + y)) + wedE ch (wdV t met q.1 x y)) ∧ (¬ (x = a ∧ y < n) → (wedN t ch met a q n).1 (8 * x + y) = q.1 (8 * x + y) ∧ (wedN t ch met a q n).1 (64 + (8 * x + y)) = q.1 (64 + (8 * x + y))) := by
  intro n
  induction n with
  | zero => intro _; exact ⟨fun _ _ => rfl, fun x y _ _ => ⟨fun z => absurd z.2 (Nat.not_lt_zero y), fun _ => ⟨rfl, rfl⟩⟩⟩
  | succ n ih =>
    intro hn
    obtain ⟨i1, i2⟩ := ih (by omega)
    have own := (i2 a n a8 (by omega)).2 (fun z => Nat.lt_irrefl n z.2)
    have s : (wedN t ch met a q (n + 1)).1 = upd (upd (wedN t ch met a q n).1 (8 * a + n) (wdV t met q.1 a n)) (64 + (8 * a + n)) (q.1 (64 + (8 * a + n)) + wedE ch (wdV t met q.1 a n)) := by
      show (wedS t ch met a n (wedN t ch met a q n)).1 = _
      unfold wedS wdV
      rw [own.1, own.2]
    rw [s]
    refine ⟨fun k hk => ?_, fun x y hx hy => ?_⟩
    · rw [pk_un (by omega), pk_un (by omega)]; exact i1 k hk
    · by_cases e : x = a ∧ y = n
      · obtain ⟨rfl, rfl⟩ := e
        rw [pk_un (show 8 * x + y ≠ 64 + (8 * x + y) by omega), pk_us, pk_us]
        exact ⟨fun _ => ⟨rfl, rfl⟩, fun z => absurd ⟨rfl, Nat.lt_succ_self y⟩ z⟩
      · have n1 : 8 * x + y ≠ 8 * a + n := fun z => e (by omega)
        rw [pk_un (show 8 * x + y ≠ 64 + (8 * a + n) by omega), pk_un n1, pk_un (show 64 + (8 * x + y) ≠ 64 + (8 * a + n) by omega), pk_un (show 64 + (8 * x + y) ≠ 8 * a + n by omega)]
        obtain ⟨j1, j2⟩ := i2 x y hx hy
        exact ⟨fun z => j1 (by omega), fun z => j2 (by omega)⟩
theorem wedA_p (t ch : Int32) (met : Nat → Int32) {H : Nat} (hH : H ≤ 8) (q : (Nat → Int32) × Int32) : ∀ n, n ≤ H → (∀ k, 128 ≤ k → (wedA t ch met H q n).1 k = q.1 k) ∧ ∀ x y, x < 8 → y < 8 → ((x < n ∧ y < H) → (wedA t ch met H q n).1 (8 * x + y) = wdV t met q.1 x y ∧ (wedA t ch met H q n).1 (64 + (8 * x + y)) = q.1 (64 + (8 * x + y)) + wedE ch (wdV t met q.1 x y)) ∧ (¬ (x < n ∧ y < H) → (wedA t ch met H q n).1 (8 * x + y) = q.1 (8 * x + y) ∧ (wedA t ch met H q n).1 (64 + (8 * x + y)) = q.1 (64 + (8 * x + y))) := by
  intro n
  induction n with
  | zero => intro _; exact ⟨fun _ _ => rfl, fun x y _ _ => ⟨fun z => absurd z.1 (Nat.not_lt_zero x), fun _ => ⟨rfl, rfl⟩⟩⟩
  | succ n ih =>
    intro hn
    obtain ⟨i1, i2⟩ := ih (by omega)
    obtain ⟨w1, w2⟩ := wedN_p t ch met (a := n) (by omega) (wedA t ch met H q n) H hH
    have s : wedA t ch met H q (n + 1) = wedN t ch met n (wedA t ch met H q n) H := rfl
    rw [s]
    refine ⟨fun k hk => (w1 k hk).trans (i1 k hk), fun x y hx hy => ?_⟩
    obtain ⟨j1, j2⟩ := i2 x y hx hy
    obtain ⟨v1, v2⟩ := w2 x y hx hy
    by_cases e : x = n ∧ y < H
    · obtain ⟨e1, e2⟩ := v1 e
      obtain ⟨o1, o2⟩ := j2 (fun z => by omega)
      have ew : wdV t met (wedA t ch met H q n).1 x y = wdV t met q.1 x y := by unfold wdV; rw [o1]
      rw [e1, e2, ew, o2]
      exact ⟨fun _ => ⟨rfl, rfl⟩, fun z => absurd ⟨by omega, e.2⟩ z⟩
    · obtain ⟨e1, e2⟩ := v2 e
      rw [e1, e2]
      exact ⟨fun z => j1 (by omega), fun z => j2 (by omega)⟩
