section Z15
variable {mc ms d : Nat} {M : zM} {P : Option Value → zW → Prop} {pc : Nat} {ls : List (Nat × Value)} {st : List Value} {w : zW}
theorem z_aload_nA {q : Fin 4} {i j : Nat} {x : Option Nat} (hf : zM.f M pc = some (.aload_n q, 1)) (hi : (q : Nat) = i) (hj : ls[j]? = some (i, va_rf x)) (k : zS mc ms d M P (pc + 1) ls (va_rf x :: st) w) : zS mc ms d M P pc ls st w := by
  cases x with
  | none => exact z_aload_nN hf hi hj k
  | some x => exact z_aload_n hf hi hj k
theorem z_astore_nA {q : Fin 4} {i : Nat} {x : Option Nat} {ls' : List (Nat × Value)} (hf : zM.f M pc = some (.astore_n q, 1)) (hi : (q : Nat) = i) (hn : i < zM.mx M) (he : zst1 i (va_rf x) ls = ls') (k : zS mc ms d M P (pc + 1) ls' st w) : zS mc ms d M P pc ls (va_rf x :: st) w := by
  cases x with
  | none => exact z_astore_nN hf hi hn he k
  | some x => exact z_astore_n hf hi hn he k
theorem z_aloadA {i j : Nat} {x : Option Nat} (hf : zM.f M pc = some (.aload i, 2)) (hj : ls[j]? = some (i, va_rf x)) (k : zS mc ms d M P (pc + 2) ls (va_rf x :: st) w) : zS mc ms d M P pc ls st w := by
  cases x with
  | none => exact z_aloadN hf hj k
  | some x => exact z_aload hf hj k
theorem z_astoreA {i : Nat} {x : Option Nat} {ls' : List (Nat × Value)} (hf : zM.f M pc = some (.astore i, 2)) (hn : i < zM.mx M) (he : zst1 i (va_rf x) ls = ls') (k : zS mc ms d M P (pc + 2) ls' st w) : zS mc ms d M P pc ls (va_rf x :: st) w := by
  cases x with
  | none => exact z_astoreN hf hn he k
  | some x => exact z_astore hf hn he k
end Z15
theorem zI_hit (w : zW) (o k : Nat) (x : Int32) : zI (zsI w o k x) o k = x := by show z2 _ _ _ _ _ _ = _; simp [z2]
theorem zI_o {w : zW} {o a : Nat} (k b : Nat) (x : Int32) (h : a ≠ o) : zI (zsI w o k x) a b = zI w a b := by show z2 _ _ _ _ _ _ = _; simp [z2, h]
theorem zI_k {w : zW} (o : Nat) {k b : Nat} (x : Int32) (h : b ≠ k) : zI (zsI w o k x) o b = zI w o b := by show z2 _ _ _ _ _ _ = _; simp [z2, h]
theorem zL_hit (w : zW) (o k : Nat) (x : Int64) : zL (zsL w o k x) o k = x := by show z2 _ _ _ _ _ _ = _; simp [z2]
theorem zL_o {w : zW} {o a : Nat} (k b : Nat) (x : Int64) (h : a ≠ o) : zL (zsL w o k x) a b = zL w a b := by show z2 _ _ _ _ _ _ = _; simp [z2, h]
theorem zR_hit (w : zW) (o k : Nat) (x : Option Nat) : zR (zsR w o k x) o k = x := by show z2 _ _ _ _ _ _ = _; simp [z2]
theorem zR_o {w : zW} {o a : Nat} (k b : Nat) (x : Option Nat) (h : a ≠ o) : zR (zsR w o k x) a b = zR w a b := by show z2 _ _ _ _ _ _ = _; simp [z2, h]
theorem zR_k {w : zW} (o : Nat) {k b : Nat} (x : Option Nat) (h : b ≠ k) : zR (zsR w o k x) o b = zR w o b := by show z2 _ _ _ _ _ _ = _; simp [z2, h]
theorem zI_ro {w : zW} {o a : Nat} (f : Nat → Int32) (h : a ≠ o) : zI (zrI w o f) a = zI w a := if_neg h
theorem zI_rh (w : zW) (o : Nat) (f : Nat → Int32) : zI (zrI w o f) o = f := if_pos rfl
theorem zL_ro {w : zW} {o a : Nat} (f : Nat → Int64) (h : a ≠ o) : zL (zrL w o f) a = zL w a := if_neg h
theorem zL_rh (w : zW) (o : Nat) (f : Nat → Int64) : zL (zrL w o f) o = f := if_pos rfl
/-- a place written is a row replaced -/
theorem zsI_r (w : zW) (o k : Nat) (x : Int32) : zsI w o k x = zrI w o (fun b => if b = k then x else zI w o b) := by
  unfold zsI zrI
  refine congrArg (fun f => (w.1, f, zL w, zR w)) ?_
  funext a b
  unfold z2
  by_cases h : a = o
  · subst h; simp
  · simp [h]
theorem zrI_r (w : zW) (o : Nat) (f g : Nat → Int32) : zrI (zrI w o f) o g = zrI w o g := by
  unfold zrI
  refine congrArg (fun h => (w.1, h, zL w, zR w)) ?_
  funext a
  show (if a = o then g else if a = o then f else zI w a) = _
  by_cases h : a = o <;> simp [h]
theorem zrI_self (w : zW) (o : Nat) : zrI w o (zI w o) = w := by
  unfold zrI
  have : (fun a => if a = o then zI w o else zI w a) = zI w := by funext a; by_cases h : a = o <;> simp [h]
  rw [this]
theorem zsI_cr (w : zW) {o a : Nat} (k : Nat) (v : Int32) (f : Nat → Int32) (h : o ≠ a) : zsI (zrI w a f) o k v = zrI (zsI w o k v) a f := by
  unfold zsI zrI
  refine congrArg (fun f => (w.1, f, zL w, zR w)) ?_
  funext x y
  show z2 (fun b => if b = a then f else zI w b) o k v x y = (if x = a then f else z2 (zI w) o k v x) y
  unfold z2
  by_cases hx : x = a
  · subst hx
    have : ¬ x = o := fun e => h e.symm
    simp [this]
  · simp [hx]
theorem zsI_over (w : zW) (o k : Nat) (u v : Int32) : zsI (zsI w o k u) o k v = zsI w o k v := by
  unfold zsI
  refine congrArg (fun f => (w.1, f, zL w, zR w)) ?_
  funext x y
  show z2 (z2 (zI w) o k u) o k v x y = z2 (zI w) o k v x y
  unfold z2
  by_cases hx : x = o ∧ y = k <;> simp [hx]
theorem zrI_put (w : zW) (o k : Nat) (f : Nat → Int32) (x : Int32) : zsI (zrI w o f) o k x = zrI w o (upd f k x) := by
  rw [zsI_r, zI_rh, zrI_r]; rfl
theorem zsI_same {w : zW} {o k : Nat} {v : Int32} (h : zI w o k = v) : zsI w o k v = w := by
  subst h
  rw [zsI_r]
  have : (fun b => if b = k then zI w o k else zI w o b) = zI w o := by funext b; by_cases hb : b = k <;> simp [hb]
  rw [this, zrI_self]
theorem zlt_of (N : Nat) {n : Nat} (hn : n < 2 ^ 31) (h : ¬ nI N ≤ nI n) : n < N := Nat.lt_of_not_le (fun z => h (nI_le z hn))
theorem zle_of (N : Nat) {n : Nat} (hn : N < 2 ^ 31) (h : ¬ nI n < nI N) : N ≤ n := Nat.le_of_not_lt (fun z => h (nI_lt z hn))
/-- the same world with other ints -/
def zuI (w : zW) (f : Nat → Nat → Int32) : zW := (w.1, f, zL w, zR w)
theorem zuI_self (w : zW) : zuI w (zI w) = w := rfl
theorem z2_hit {α : Type} (f : Nat → Nat → α) (o k : Nat) (x : α) : z2 f o k x o k = x := by simp [z2]
theorem z2_o {α : Type} (f : Nat → Nat → α) {o a : Nat} (k b : Nat) (x : α) (h : a ≠ o) : z2 f o k x a b = f a b := by simp [z2, h]
theorem z2_k {α : Type} (f : Nat → Nat → α) (o : Nat) {k b : Nat} (x : α) (h : b ≠ k) : z2 f o k x o b = f o b := by simp [z2, h]
theorem zrI_u (w : zW) (o : Nat) (g : Nat → Int32) : zrI w o g = zuI w (fun a => if a = o then g else zI w a) := rfl
theorem zrI_eq {w : zW} {o : Nat} {f g : Nat → Int32} (h : f = g) : zrI w o f = zrI w o g := by rw [h]

