/-! THE PURE WORLD: cells by number, kinds and lengths, ints, longs, references (by number; from 1000000 on: constants that are never written) -/
abbrev zW : Type := List (Nat × Nat) × (Nat → Nat → Int32) × (Nat → Nat → Int64) × (Nat → Nat → Option Nat)
abbrev zI (w : zW) : Nat → Nat → Int32 := w.2.1
abbrev zL (w : zW) : Nat → Nat → Int64 := w.2.2.1
abbrev zR (w : zW) : Nat → Nat → Option Nat := w.2.2.2
def z2 {α : Type} (f : Nat → Nat → α) (o k : Nat) (x : α) : Nat → Nat → α := fun a b => if a = o ∧ b = k then x else f a b
def zsI (w : zW) (o k : Nat) (x : Int32) : zW := (w.1, z2 (zI w) o k x, zL w, zR w)
def zsL (w : zW) (o k : Nat) (x : Int64) : zW := (w.1, zI w, z2 (zL w) o k x, zR w)
def zsR (w : zW) (o k : Nat) (x : Option Nat) : zW := (w.1, zI w, zL w, z2 (zR w) o k x)
/-- a new cell: all its places hold nothing -/
def zN (w : zW) (q : Nat × Nat) : zW := (w.1 ++ [q], fun a => if a = w.1.length then fun _ => 0 else zI w a, fun a => if a = w.1.length then fun _ => 0 else zL w a, fun a => if a = w.1.length then fun _ => none else zR w a)
/-- the kind of a field's place: 0 an int, 1 a long, 2 a reference -/
def zft (t : FieldType) : Nat := match t with
  | .long => 1
  | .object _ => 2
  | .array _ => 2
  | _ => 0
def zfv (w : zW) (ad : Nat → Nat) (o c k : Nat) : Value := if zft (zty c k) = 0 then .int (zI w o k) else if zft (zty c k) = 1 then .long (zL w o k) else va_rf ((zR w o k).map ad)
def zE (cA : Nat → ClassId) (ad : Nat → Nat) (w : zW) (o : Nat) (q : Nat × Nat) : va_E :=
  if q.1 < 9 then .inr (q.1, (List.range q.2).map (zfv w ad o q.1))
  else if q.1 = 11 then .inl (cA 11, q.2, .inr (.inl (zL w o)))
  else if q.1 = 13 then .inl (cA 13, q.2, .inr (.inr (.inr (.inr (fun k => (zR w o k).map ad)))))
  else .inl (cA q.1, q.2, .inl (zI w o))
def zws (cA : Nat → ClassId) (ad : Nat → Nat) (w : zW) : va_W := w.1.mapIdx (fun o q => (ad o, zE cA ad w o q))
abbrev zA (h0 : Nat) : Nat → Prop := fun q => h0 ≤ q
def zV2 (w : zW) : Prop := ∀ o k r, o < w.1.length → zR w o k = some r → r < w.1.length ∨ 1000000 ≤ r
def zAW (D : va_G) (cA : Nat → ClassId) (h0 : Nat) (ad : Nat → Nat) (w : zW) (H : Heap) : Prop :=
  va_P D zcl (zws cA ad w) H ∧ va_D (zA h0) (zws cA ad w) ∧ zV2 w ∧ w.1.length ≤ 1000000 ∧ ∀ (o c n : Nat), w.1[o]? = some (c, n) → c < 9 → ∃ q, zcl[c]? = some q ∧ n = q.2.2
abbrev ztys (cA : Nat → ClassId) : List (ClassId × FieldType) := [(cA 9, .byte), (cA 10, .int), (cA 11, .long), (cA 12, .boolean), (cA 13, .object RX2)]
/-- a value with its numbers turned into addresses -/
def cv (ad : Nat → Nat) : Value → Value
  | .ref o => .ref (ad o)
  | v => v
abbrev cvl (ad : Nat → Nat) (ls : List (Nat × Value)) : List (Nat × Value) := ls.map (fun q => (q.1, cv ad q.2))
theorem cv_cat (ad : Nat → Nat) (v : Value) : (cv ad v).category = v.category := by cases v <;> rfl
theorem zws_at (cA : Nat → ClassId) (ad : Nat → Nat) {w : zW} {o : Nat} {q : Nat × Nat} (h : w.1[o]? = some q) : (zws cA ad w)[o]? = some (ad o, zE cA ad w o q) := by
  unfold zws
  rw [List.getElem?_mapIdx, h]
  rfl
theorem zws_len (cA : Nat → ClassId) (ad : Nat → Nat) (w : zW) : (zws cA ad w).length = w.1.length := by simp [zws]
theorem z2_row {α : Type} (f : Nat → Nat → α) (o k : Nat) (x : α) : z2 f o k x o = fun b => if b = k then x else f o b := by funext b; simp [z2]
theorem z2_off {α : Type} (f : Nat → Nat → α) {o a : Nat} (k : Nat) (x : α) (h : a ≠ o) : z2 f o k x a = f a := by funext b; simp [z2, h]
/-- two worlds of the same kinds whose cells but one are the same -/
theorem zws_set (cA : Nat → ClassId) (ad : Nat → Nat) {w w2 : zW} {o : Nat} {q : Nat × Nat} {e : va_E} (hk : w2.1 = w.1) (h : w.1[o]? = some q) (he : zE cA ad w2 o q = e) (ho : ∀ a q', a ≠ o → zE cA ad w2 a q' = zE cA ad w a q') : (zws cA ad w).set o (ad o, e) = zws cA ad w2 := by
  apply List.ext_getElem?
  intro i
  rw [List.getElem?_set]
  by_cases hi : o = i
  · subst hi
    have hlt : o < w.1.length := (List.getElem?_eq_some_iff.mp h).1
    rw [if_pos rfl, if_pos (by rw [zws_len]; exact hlt), zws_at cA ad (w := w2) (by rw [hk]; exact h), he]
  · rw [if_neg hi]
    cases hq : w.1[i]? with
    | none =>
      have h1 : w.1.length ≤ i := by simpa using hq
      rw [List.getElem?_eq_none (by rw [zws_len]; exact h1), List.getElem?_eq_none (by rw [zws_len, hk]; exact h1)]
    | some q' =>
      rw [zws_at cA ad hq, zws_at cA ad (w := w2) (by rw [hk]; exact hq), ho i q' (fun e => hi e.symm)]
theorem zE_I_off (cA : Nat → ClassId) (ad : Nat → Nat) (w : zW) {o a : Nat} (k : Nat) (x : Int32) (q : Nat × Nat) (h : a ≠ o) : zE cA ad (zsI w o k x) a q = zE cA ad w a q := by
  have e : zI (zsI w o k x) a = zI w a := z2_off _ k x h
  have e2 : zfv (zsI w o k x) ad a q.1 = zfv w ad a q.1 := by funext j; simp only [zfv, zsI, zI, zL, zR] at e ⊢; rw [e]
  unfold zE
  rw [e, e2]
  rfl
theorem zE_L_off (cA : Nat → ClassId) (ad : Nat → Nat) (w : zW) {o a : Nat} (k : Nat) (x : Int64) (q : Nat × Nat) (h : a ≠ o) : zE cA ad (zsL w o k x) a q = zE cA ad w a q := by
  have e : zL (zsL w o k x) a = zL w a := z2_off _ k x h
  have e2 : zfv (zsL w o k x) ad a q.1 = zfv w ad a q.1 := by funext j; simp only [zfv, zsL, zI, zL, zR] at e ⊢; rw [e]
  unfold zE
  rw [e, e2]
  rfl
theorem zE_R_off (cA : Nat → ClassId) (ad : Nat → Nat) (w : zW) {o a : Nat} (k : Nat) (x : Option Nat) (q : Nat × Nat) (h : a ≠ o) : zE cA ad (zsR w o k x) a q = zE cA ad w a q := by
  have e : zR (zsR w o k x) a = zR w a := z2_off _ k x h
  have e2 : zfv (zsR w o k x) ad a q.1 = zfv w ad a q.1 := by funext j; simp only [zfv, zsR, zI, zL, zR] at e ⊢; rw [e]
  unfold zE
  rw [e, e2]
  rfl
/-- an object's list of fields, one place changed -/
theorem zfs_set {w w2 : zW} {ad : Nat → Nat} {o c n k : Nat} {v : Value} (hk : zfv w2 ad o c k = v) (ho : ∀ j, j ≠ k → zfv w2 ad o c j = zfv w ad o c j) : ((List.range n).map (zfv w ad o c)).set k v = (List.range n).map (zfv w2 ad o c) := by
  apply List.ext_getElem?
  intro i
  rw [List.getElem?_set]
  by_cases hi : k = i
  · subst hi
    by_cases hl : k < n
    · simp [hl, hk]
    · simp [hl]
  · rw [if_neg hi]
    by_cases hl : i < n
    · simp [hl, ho i (fun e => hi e.symm)]
    · simp [hl]
theorem zfs_at {w : zW} {ad : Nat → Nat} {o c n k : Nat} (h : k < n) : ((List.range n).map (zfv w ad o c))[k]? = some (zfv w ad o c k) := by simp [h]
