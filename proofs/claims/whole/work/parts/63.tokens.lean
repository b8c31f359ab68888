/-! TOKENS OF A TAPE: all is a matter of the place where reading goes on -/
def isBl (c : Int32) : Bool := c = 32 || c = 10
def isDg (c : Int32) : Bool := !decide (c < 48) && !decide (57 < c)
def isLt (c : Int32) : Bool := !decide (c < 97) && !decide (122 < c)
def skp (b : Int32 → Bool) (T : Nat → Int32) (n : Nat) : Nat → Nat → Nat
  | 0, p => p
  | m + 1, p => if p < n ∧ b (T p) = true then skp b T n m (p + 1) else p
def rn (b : Int32 → Bool) (T : Nat → Int32) (n p : Nat) : Nat := skp b T n (n - p) p
theorem rn_t {b : Int32 → Bool} {T : Nat → Int32} {n p : Nat} (h : p < n) (hb : b (T p) = true) : rn b T n p = rn b T n (p + 1) := by
  unfold rn
  rw [show n - p = (n - (p + 1)) + 1 by omega]
  show (if _ then _ else _) = _
  rw [if_pos ⟨h, hb⟩]
theorem rn_f {b : Int32 → Bool} {T : Nat → Int32} {n p : Nat} (h : ¬ (p < n ∧ b (T p) = true)) : rn b T n p = p := by
  unfold rn
  cases n - p with
  | zero => rfl
  | succ m => show (if _ then _ else _) = _; rw [if_neg h]
theorem skp_ge (b : Int32 → Bool) (T : Nat → Int32) (n : Nat) : ∀ m p, p ≤ skp b T n m p
  | 0, p => Nat.le_refl p
  | m + 1, p => by
    unfold skp
    split
    · exact Nat.le_trans (Nat.le_succ p) (skp_ge b T n m (p + 1))
    · exact Nat.le_refl p
theorem skp_le (b : Int32 → Bool) (T : Nat → Int32) (n : Nat) : ∀ m p, p ≤ n → skp b T n m p ≤ n
  | 0, p, h => h
  | m + 1, p, h => by
    unfold skp
    split
    · next q => exact skp_le b T n m (p + 1) q.1
    · exact h
theorem skp_all (b : Int32 → Bool) (T : Nat → Int32) (n : Nat) : ∀ m p k, p ≤ k → k < skp b T n m p → b (T k) = true
  | 0, p, k, h1, h2 => absurd h2 (Nat.not_lt.mpr h1)
  | m + 1, p, k, h1, h2 => by
    unfold skp at h2
    split at h2
    · next q =>
      by_cases e : k = p
      · rw [e]; exact q.2
      · exact skp_all b T n m (p + 1) k (by omega) h2
    · exact absurd h2 (Nat.not_lt.mpr h1)
theorem skp_end (b : Int32 → Bool) (T : Nat → Int32) (n : Nat) : ∀ m p, n ≤ p + m → skp b T n m p < n → b (T (skp b T n m p)) = false
  | 0, p, h, h2 => absurd h2 (Nat.not_lt.mpr h)
  | m + 1, p, h, h2 => by
    unfold skp at h2 ⊢
    split at h2
    · next q => rw [if_pos q]; exact skp_end b T n m (p + 1) (by omega) h2
    · next q =>
      rw [if_neg q]
      cases e : b (T p) with
      | false => rfl
      | true => exact absurd ⟨h2, e⟩ q
theorem rn_ge (b : Int32 → Bool) (T : Nat → Int32) (n p : Nat) : p ≤ rn b T n p := skp_ge b T n _ p
theorem rn_le {b : Int32 → Bool} {T : Nat → Int32} {n p : Nat} (h : p ≤ n) : rn b T n p ≤ n := skp_le b T n _ p h
theorem rn_all {b : Int32 → Bool} {T : Nat → Int32} {n p k : Nat} (h1 : p ≤ k) (h2 : k < rn b T n p) : b (T k) = true := skp_all b T n _ p k h1 h2
theorem rn_end {b : Int32 → Bool} {T : Nat → Int32} {n p : Nat} (h : rn b T n p < n) : b (T (rn b T n p)) = false := skp_end b T n _ p (by omega) h
def tBeg (T : Nat → Int32) (n p : Nat) : Nat := rn isBl T n p
def tEnd (T : Nat → Int32) (n p : Nat) : Nat := if tBeg T n p < n then (if isDg (T (tBeg T n p)) = true then rn isDg T n (tBeg T n p) else if isLt (T (tBeg T n p)) = true then rn isLt T n (tBeg T n p) else tBeg T n p + 1) else tBeg T n p
def tLen (T : Nat → Int32) (n p : Nat) : Nat := tEnd T n p - tBeg T n p
def numV (T : Nat → Int32) (a : Nat) : Nat → Int32
  | 0 => 0
  | k + 1 => numV T a k * 10 + T (a + k) - 48
def keyC (T : Nat → Int32) (a : Nat) : Nat → Int64
  | 0 => 0
  | k + 1 => (keyC T a k <<< ((8 : Int32).toInt64 &&& 63)) ||| (T (a + k)).toInt64
def keyM (T : Nat → Int32) (a : Nat) : Nat → Int64
  | 0 => 0
  | k + 1 => keyM T a k * 27 + (T (a + k)).toInt64 - 96
def tC (T : Nat → Int32) (n p : Nat) : Int32 := if tBeg T n p < n then (if isDg (T (tBeg T n p)) = true then (if tLen T n p ≤ 4 then 2 else 1) else if isLt (T (tBeg T n p)) = true then (if tLen T n p ≤ 8 then 3 else 1) else if isSg (T (tBeg T n p)) = true then T (tBeg T n p) else 1) else 0
def tW (T : Nat → Int32) (n p : Nat) : Option Nat := if tBeg T n p < n then (if isDg (T (tBeg T n p)) = true then none else if isLt (T (tBeg T n p)) = true then (if tLen T n p ≤ 8 then wOf (keyC T (tBeg T n p) (tLen T n p)) else none) else none) else none
theorem tBeg_le {T : Nat → Int32} {n p : Nat} (h : p ≤ n) : tBeg T n p ≤ n := rn_le h
theorem tBeg_ge (T : Nat → Int32) (n p : Nat) : p ≤ tBeg T n p := rn_ge _ _ _ _
theorem tEnd_lt {T : Nat → Int32} {n p : Nat} (h : tBeg T n p < n) : tBeg T n p < tEnd T n p := by
  unfold tEnd
  rw [if_pos h]
  split
  · next q => rw [rn_t h q]; exact rn_ge _ _ _ _
  · split
    · next q => rw [rn_t h q]; exact rn_ge _ _ _ _
    · exact Nat.lt_succ_self _
theorem tEnd_ge (T : Nat → Int32) (n p : Nat) : tBeg T n p ≤ tEnd T n p := by
  by_cases h : tBeg T n p < n
  · exact Nat.le_of_lt (tEnd_lt h)
  · unfold tEnd; rw [if_neg h]; exact Nat.le_refl _
theorem tEnd_le {T : Nat → Int32} {n p : Nat} (hp : p ≤ n) : tEnd T n p ≤ n := by
  unfold tEnd
  split
  · next h =>
    split
    · exact rn_le (tBeg_le hp)
    · split
      · exact rn_le (tBeg_le hp)
      · exact h
  · exact tBeg_le hp
/-! THE READER: cell 3, its tape 1 (row 2), its street s -/
def rdK (w : zW) (s n : Nat) (T : Nat → Int32) : Prop := w.1[3]? = some (3, 15) ∧ zR w 3 0 = some 1 ∧ zR w 3 1 = some s ∧ w.1[1]? = some (6, 2) ∧ zR w 1 0 = some 2 ∧ w.1[2]? = some (9, 1000) ∧ zSt w s ∧ (s = 4 ∨ s = 32) ∧ zI w 1 1 = nI n ∧ n ≤ 1000 ∧ zI w 2 = T ∧ ∀ k, k < n → tok (T k) = true
theorem zSt_mv {w w1 : zW} {s : Nat} (h : zSt w s) (e1 : w1.1 = w.1) (e2 : ∀ o k, o ≠ 3 → zR w1 o k = zR w o k) (hs : 3 < s) : zSt w1 s := by
  unfold zSt zLw at *
  rw [e1, e2 s 0 (by omega), e2 s 1 (by omega), e2 s 2 (by omega), e2 s 3 (by omega), e2 s 4 (by omega), e2 s 5 (by omega), e2 s 6 (by omega), e2 (s + 6) 0 (by omega), e2 (s + 6) 1 (by omega), e2 (s + 9) 0 (by omega), e2 (s + 9) 1 (by omega)]
  exact h
theorem rdK_mv {w w1 : zW} {s n : Nat} {T : Nat → Int32} (h : rdK w s n T) (e1 : w1.1 = w.1) (e2 : ∀ o k, ¬ (o = 3 ∧ (k = 2 ∨ k = 8)) → zR w1 o k = zR w o k) (e3 : zI w1 1 = zI w 1) (e4 : zI w1 2 = zI w 2) : rdK w1 s n T := by
  obtain ⟨a1, a2, a3, a4, a5, a6, a7, a8, a9, a10, a11, a12⟩ := h
  exact ⟨by rw [e1]; exact a1, (e2 _ _ (by decide)).trans a2, (e2 _ _ (by decide)).trans a3, by rw [e1]; exact a4, (e2 _ _ (by decide)).trans a5, by rw [e1]; exact a6, zSt_mv a7 e1 (fun o k ho => e2 o k (fun q => ho q.1)) (by omega), a8, by rw [e3]; exact a9, a10, e4.trans a11, a12⟩
theorem rdK_I {w : zW} {s n : Nat} {T : Nat → Int32} (h : rdK w s n T) (k : Nat) (x : Int32) : rdK (zsI w 3 k x) s n T := rdK_mv h rfl (fun _ _ _ => rfl) (z2_off (zI w) (o := 3) (a := 1) k x (by decide)) (z2_off (zI w) (o := 3) (a := 2) k x (by decide))
theorem rdK_L {w : zW} {s n : Nat} {T : Nat → Int32} (h : rdK w s n T) (k : Nat) (x : Int64) : rdK (zsL w 3 k x) s n T := rdK_mv h rfl (fun _ _ _ => rfl) rfl rfl
theorem rdK_R {w : zW} {s n : Nat} {T : Nat → Int32} (h : rdK w s n T) (x : Option Nat) : rdK (zsR w 3 8 x) s n T := rdK_mv h rfl (fun o k q => by show z2 _ _ _ _ _ _ = _; unfold z2; rw [if_neg (fun e => q ⟨e.1, Or.inr e.2⟩)]) rfl rfl
/-- what reading a token may change -/
def rF (w w1 : zW) : Prop := w1.1 = w.1 ∧ (∀ o, o ≠ 3 → zI w1 o = zI w o) ∧ (∀ k, 10 ≤ k → zI w1 3 k = zI w 3 k) ∧ (∀ o k, ¬ (o = 3 ∧ k = 7) → zL w1 o k = zL w o k) ∧ (∀ o k, ¬ (o = 3 ∧ k = 8) → zR w1 o k = zR w o k)
theorem rF_r (w : zW) : rF w w := ⟨rfl, fun _ _ => rfl, fun _ _ => rfl, fun _ _ _ => rfl, fun _ _ _ => rfl⟩
theorem rF_t {w w1 w2 : zW} (h : rF w w1) (k : rF w1 w2) : rF w w2 := ⟨k.1.trans h.1, fun o ho => (k.2.1 o ho).trans (h.2.1 o ho), fun j hj => (k.2.2.1 j hj).trans (h.2.2.1 j hj), fun o j hj => (k.2.2.2.1 o j hj).trans (h.2.2.2.1 o j hj), fun o j hj => (k.2.2.2.2 o j hj).trans (h.2.2.2.2 o j hj)⟩
theorem rF_I {w : zW} {k : Nat} (x : Int32) (hk : k < 10) : rF w (zsI w 3 k x) := ⟨rfl, fun o ho => z2_off _ _ _ ho, fun j hj => by show z2 _ _ _ _ _ _ = _; exact z2_k _ _ _ (by omega), fun _ _ _ => rfl, fun _ _ _ => rfl⟩
theorem rF_L {w : zW} (x : Int64) : rF w (zsL w 3 7 x) := ⟨rfl, fun _ _ => rfl, fun _ _ => rfl, fun o k q => by show z2 _ _ _ _ _ _ = _; unfold z2; rw [if_neg q], fun _ _ _ => rfl⟩
theorem rF_R {w : zW} (x : Option Nat) : rF w (zsR w 3 8 x) := ⟨rfl, fun _ _ => rfl, fun _ _ => rfl, fun _ _ _ => rfl, fun o k q => by show z2 _ _ _ _ _ _ = _; unfold z2; rw [if_neg q]⟩
theorem rdK_F {w w1 : zW} {s n : Nat} {T : Nat → Int32} (h : rdK w s n T) (k : rF w w1) : rdK w1 s n T := rdK_mv h k.1 (fun o j q => k.2.2.2.2 o j (fun e => q ⟨e.1, Or.inr e.2⟩)) (k.2.1 1 (by decide)) (k.2.1 2 (by decide))
/-- the reader's state: good, the token from place p on; or a fault -/
def rS (w : zW) (T : Nat → Int32) (n : Nat) : Nat ⊕ Int32 → Prop
  | .inl p => zI w 3 9 = 0 ∧ zI w 3 3 = nI (tEnd T n p) ∧ zI w 3 5 = nI (tBeg T n p) ∧ zI w 3 4 = tC T n p ∧ (tC T n p = 2 → zI w 3 6 = numV T (tBeg T n p) (tLen T n p)) ∧ (tC T n p = 3 → zL w 3 7 = keyC T (tBeg T n p) (tLen T n p)) ∧ zR w 3 8 = tW T n p ∧ p ≤ n
  | .inr k => zI w 3 9 = k ∧ k ≠ 0 ∧ zI w 3 4 = 1 ∧ zR w 3 8 = none
def nxt (T : Nat → Int32) (n : Nat) : Nat ⊕ Int32 → Nat ⊕ Int32
  | .inl p => .inl (tEnd T n p)
  | .inr k => .inr k
def wrgA (a k : Int32) : Nat ⊕ Int32 → Nat ⊕ Int32
  | .inl _ => .inr (k + 16 * a)
  | .inr j => .inr j
def wrg (T : Nat → Int32) (n : Nat) (k : Int32) : Nat ⊕ Int32 → Nat ⊕ Int32
  | .inl p => .inr (k + 16 * nI (tBeg T n p))
  | .inr j => .inr j
theorem tok_n {c : Int32} (h : tok c = true) : ∃ m : Nat, m < 127 ∧ c = nI m := by
  have h1 : 0 ≤ c.toInt ∧ c.toInt < 127 := by
    unfold tok at h
    simp only [Bool.or_eq_true, Bool.and_eq_true, Bool.not_eq_true', decide_eq_true_eq, decide_eq_false_iff_not] at h
    rcases h with h | ⟨h1, h2⟩
    · subst h; decide
    · have e1 : ¬ c.toInt < 32 := fun q => h1 (Int32.lt_iff_toInt_lt.mpr q)
      have e2 : c.toInt ≤ 126 := Int32.le_iff_toInt_le.mp h2
      omega
  refine ⟨c.toInt.toNat, by omega, ?_⟩
  refine Int32.toInt.inj ?_
  rw [nI_toInt (by omega)]
  omega
theorem tok_c : ∀ m : Fin 127, (((nI m).toUInt32 % 65536).toInt32 = nI m ∧ (nI m).toInt8.toInt32 = nI m) ∧ (if nI m < 0 then 0 else (if 255 < nI m then 0 else 1) : Int32) = 1 := by decide +kernel
theorem tok_cc {c : Int32} (h : tok c = true) : ((c.toUInt32 % 65536).toInt32 = c ∧ c.toInt8.toInt32 = c) ∧ (if c < 0 then 0 else (if 255 < c then 0 else 1) : Int32) = 1 := by
  obtain ⟨m, h1, rfl⟩ := tok_n h
  exact tok_c ⟨m, h1⟩
theorem isDg_v (c : Int32) : (if c < 48 then 0 else (if 57 < c then 0 else 1) : Int32) = if isDg c = true then 1 else 0 := by
  unfold isDg
  by_cases h1 : c < 48 <;> by_cases h2 : 57 < c <;> simp [h1, h2]
theorem isLt_v (c : Int32) : (if c < 97 then 0 else (if 122 < c then 0 else 1) : Int32) = if isLt c = true then 1 else 0 := by
  unfold isLt
  by_cases h1 : c < 97 <;> by_cases h2 : 122 < c <;> simp [h1, h2]
theorem zsI_sw (V : zW) {a b : Nat} (h : a ≠ b) (o : Nat) (x y x2 y2 : Int32) : zsI (zsI (zsI (zsI V o a x) o b y) o a x2) o b y2 = zsI (zsI V o a x2) o b y2 := by
  unfold zsI
  refine congrArg (fun f => (V.1, f, zL V, zR V)) ?_
  funext u v
  show z2 (z2 (z2 (z2 (zI V) o a x) o b y) o a x2) o b y2 u v = z2 (z2 (zI V) o a x2) o b y2 u v
  unfold z2
  by_cases e : u = o ∧ v = b
  · simp [e]
  · by_cases e2 : u = o ∧ v = a
    · simp [e2, h]
    · simp [e, e2]
theorem zsI_swL (V : zW) (o a b : Nat) (x x2 : Int64) (y y2 : Int32) : zsI (zsL (zsI (zsL V o a x) o b y) o a x2) o b y2 = zsI (zsL V o a x2) o b y2 := by
  have e1 : z2 (z2 (zL V) o a x) o a x2 = z2 (zL V) o a x2 := by funext u v; unfold z2; by_cases e : u = o ∧ v = a <;> simp [e]
  have e2 : z2 (z2 (zI V) o b y) o b y2 = z2 (zI V) o b y2 := by funext u v; unfold z2; by_cases e : u = o ∧ v = b <;> simp [e]
  show ((V.1, z2 (z2 (zI V) o b y) o b y2, z2 (z2 (zL V) o a x) o a x2, zR V) : zW) = (V.1, z2 (zI V) o b y2, z2 (zL V) o a x2, zR V)
  rw [e1, e2]
set_option maxRecDepth 100000 in
set_option maxHeartbeats 4000000 in
theorem l_Reader_skipBlanks {w : zW} {s n : Nat} {T : Nat → Int32} (hk : rdK w s n T) {P : Option Value → zW → Prop} (d : Nat) : ∀ m p, p ≤ n → n ≤ p + m → P none (zsI w 3 3 (nI (rn isBl T n p))) → zS 0 0 d m_Reader_skipBlanks P 0 [(0, .ref 3)] [] (zsI w 3 3 (nI p)) := by
  have hn1 := hk.2.2.2.2.2.2.2.2.2.1
  intro m
  induction m with
  | zero =>
    intro p hp hm hP
    by_cases hlt : p < n
    · omega
    · skip
      refine z_aload_n (pc := 0) (i := 0) (j := 0) rfl rfl rfl ?_
      refine z_getI (pc := 1) rfl fl_Reader_35 hk.1 rfl ?_
      refine z_eqi (y := nI p) rfl ?_
      refine z_aload_n (pc := 4) (i := 0) (j := 0) rfl rfl rfl ?_
      refine z_getR (pc := 5) (x := 1) rfl fl_Reader_12 hk.1 rfl hk.2.1 ?_
      refine z_getI (pc := 8) rfl fl_Reader_230 hk.2.2.2.1 rfl ?_
      refine z_eqi (y := nI n) hk.2.2.2.2.2.2.2.2.1 ?_
      refine z_icmp_ge (pc := 11) (tgt := 61) rfl (by decide) (fun h11 => ?_) (fun h11 => ?_)
      · refine z_vret (pc := 61) rfl rfl ?_
        rw [rn_f (fun q => absurd h11 (nI_ge q.1 (by omega)))] at hP
        exact hP
      · exact absurd (nI_le (by omega) (by omega)) h11
  | succ m ih =>
    intro p hp hm hP
    by_cases hlt : p < n
    · skip
      refine z_aload_n (pc := 0) (i := 0) (j := 0) rfl rfl rfl ?_
      refine z_getI (pc := 1) rfl fl_Reader_35 hk.1 rfl ?_
      refine z_eqi (y := nI p) rfl ?_
      refine z_aload_n (pc := 4) (i := 0) (j := 0) rfl rfl rfl ?_
      refine z_getR (pc := 5) (x := 1) rfl fl_Reader_12 hk.1 rfl hk.2.1 ?_
      refine z_getI (pc := 8) rfl fl_Reader_230 hk.2.2.2.1 rfl ?_
      refine z_eqi (y := nI n) hk.2.2.2.2.2.2.2.2.1 ?_
      refine z_icmp_ge (pc := 11) (tgt := 61) rfl (by decide) (fun h11 => ?_) (fun h11 => ?_)
      · exact absurd h11 (nI_ge hlt (by omega))
      · refine z_aload_n (pc := 14) (i := 0) (j := 0) rfl rfl rfl ?_
        refine z_getR (pc := 15) (x := 1) rfl fl_Reader_12 hk.1 rfl hk.2.1 ?_
        refine z_getR (pc := 18) (x := 2) rfl fl_Reader_233 hk.2.2.2.1 rfl hk.2.2.2.2.1 ?_
        refine z_aload_n (pc := 21) (i := 0) (j := 0) rfl rfl rfl ?_
        refine z_getI (pc := 22) rfl fl_Reader_35 hk.1 rfl ?_
        refine z_eqi (y := nI p) rfl ?_
        refine z_bald (pc := 25) rfl hk.2.2.2.2.2.1 (vp_in_nI (n := p) (N := 1000) (by omega) (by decide)) ?_
        refine z_eqi (y := T p) (by rw [nI_clamp (by omega)]; exact congrFun hk.2.2.2.2.2.2.2.2.2.2.1 _) ?_
        refine z_bipush (pc := 26) (v := 32) rfl (by decide) ?_
        refine z_icmp_eq (pc := 28) (tgt := 48) rfl (by decide) (fun h28 => ?_) (fun h28 => ?_)
        · refine z_aload_n (pc := 48) (i := 0) (j := 0) rfl rfl rfl ?_
          refine z_dup (pc := 49) rfl rfl ?_
          refine z_getI (pc := 50) rfl fl_Reader_35 hk.1 rfl ?_
          refine z_eqi (y := nI p) rfl ?_
          refine z_iconst (pc := 53) (v := 1) rfl (by decide) ?_
          refine z_iadd (pc := 54) rfl ?_
          refine z_putI (pc := 55) rfl fl_Reader_35 hk.1 rfl  ?_
          refine z_goto (pc := 58) (tgt := 0) rfl (by decide) ?_
          have hb : isBl (T p) = true := by unfold isBl; simp [h28]
          rw [nI_1, zsI_over]
          rw [rn_t hlt hb] at hP
          exact ih (p + 1) (by omega) (by omega) hP
        · refine z_aload_n (pc := 31) (i := 0) (j := 0) rfl rfl rfl ?_
          refine z_getR (pc := 32) (x := 1) rfl fl_Reader_12 hk.1 rfl hk.2.1 ?_
          refine z_getR (pc := 35) (x := 2) rfl fl_Reader_233 hk.2.2.2.1 rfl hk.2.2.2.2.1 ?_
          refine z_aload_n (pc := 38) (i := 0) (j := 0) rfl rfl rfl ?_
          refine z_getI (pc := 39) rfl fl_Reader_35 hk.1 rfl ?_
          refine z_eqi (y := nI p) rfl ?_
          refine z_bald (pc := 42) rfl hk.2.2.2.2.2.1 (vp_in_nI (n := p) (N := 1000) (by omega) (by decide)) ?_
          refine z_eqi (y := T p) (by rw [nI_clamp (by omega)]; exact congrFun hk.2.2.2.2.2.2.2.2.2.2.1 _) ?_
          refine z_bipush (pc := 43) (v := 10) rfl (by decide) ?_
          refine z_icmp_ne (pc := 45) (tgt := 61) rfl (by decide) (fun h45 => ?_) (fun h45 => ?_)
          · refine z_vret (pc := 61) rfl rfl ?_
            rw [rn_f (fun q => by have q2 := q.2; unfold isBl at q2; simp [h28, h45] at q2)] at hP
            exact hP
          · refine z_aload_n (pc := 48) (i := 0) (j := 0) rfl rfl rfl ?_
            refine z_dup (pc := 49) rfl rfl ?_
            refine z_getI (pc := 50) rfl fl_Reader_35 hk.1 rfl ?_
            refine z_eqi (y := nI p) rfl ?_
            refine z_iconst (pc := 53) (v := 1) rfl (by decide) ?_
            refine z_iadd (pc := 54) rfl ?_
            refine z_putI (pc := 55) rfl fl_Reader_35 hk.1 rfl  ?_
            refine z_goto (pc := 58) (tgt := 0) rfl (by decide) ?_
            have hb : isBl (T p) = true := by unfold isBl; simp [h45]
            rw [nI_1, zsI_over]
            rw [rn_t hlt hb] at hP
            exact ih (p + 1) (by omega) (by omega) hP
    · skip
      refine z_aload_n (pc := 0) (i := 0) (j := 0) rfl rfl rfl ?_
      refine z_getI (pc := 1) rfl fl_Reader_35 hk.1 rfl ?_
      refine z_eqi (y := nI p) rfl ?_
      refine z_aload_n (pc := 4) (i := 0) (j := 0) rfl rfl rfl ?_
      refine z_getR (pc := 5) (x := 1) rfl fl_Reader_12 hk.1 rfl hk.2.1 ?_
      refine z_getI (pc := 8) rfl fl_Reader_230 hk.2.2.2.1 rfl ?_
      refine z_eqi (y := nI n) hk.2.2.2.2.2.2.2.2.1 ?_
      refine z_icmp_ge (pc := 11) (tgt := 61) rfl (by decide) (fun h11 => ?_) (fun h11 => ?_)
      · refine z_vret (pc := 61) rfl rfl ?_
        rw [rn_f (fun q => absurd h11 (nI_ge q.1 (by omega)))] at hP
        exact hP
      · exact absurd (nI_le (by omega) (by omega)) h11
set_option maxRecDepth 100000 in
set_option maxHeartbeats 4000000 in
theorem c_Reader_skipBlanks {w : zW} {s n : Nat} {T : Nat → Int32} (hk : rdK w s n T) {p : Nat} (hp : p ≤ n) (hat : zI w 3 3 = nI p) (d : Nat) : zS 0 0 d m_Reader_skipBlanks (fun rv w1 => rv = none ∧ w1 = zsI w 3 3 (nI (tBeg T n p))) 0 [(0, .ref 3)] [] w := by
  have h := l_Reader_skipBlanks hk (P := fun rv w1 => rv = none ∧ w1 = zsI w 3 3 (nI (tBeg T n p))) d n p hp (by omega) ⟨rfl, rfl⟩
  rw [zsI_same hat] at h
  exact h
set_option maxRecDepth 100000 in
set_option maxHeartbeats 4000000 in
theorem l_Reader_takeNumber {w : zW} {s n : Nat} {T : Nat → Int32} (hk : rdK w s n T) {P : Option Value → zW → Prop} (a : Nat) (d : Nat) (hd : 1 ≤ d) : ∀ m k, a + k ≤ n → n ≤ a + k + m → zS 0 0 d m_Reader_takeNumber P 77 [(0, .ref 3)] [] (zsI (zsI w 3 6 (numV T a (rn isDg T n (a + k) - a))) 3 3 (nI (a + (rn isDg T n (a + k) - a)))) → zS 0 0 d m_Reader_takeNumber P 5 [(0, .ref 3)] [] (zsI (zsI w 3 6 (numV T a k)) 3 3 (nI (a + k))) := by
  have hn1 := hk.2.2.2.2.2.2.2.2.2.1
  intro m
  induction m with
  | zero =>
    intro k hp hm hP
    by_cases hlt : a + k < n
    · omega
    · skip
      refine z_aload_n (pc := 5) (i := 0) (j := 0) rfl rfl rfl ?_
      refine z_getI (pc := 6) rfl fl_Reader_35 hk.1 rfl ?_
      refine z_eqi (y := nI (a + k)) rfl ?_
      refine z_aload_n (pc := 9) (i := 0) (j := 0) rfl rfl rfl ?_
      refine z_getR (pc := 10) (x := 1) rfl fl_Reader_12 hk.1 rfl hk.2.1 ?_
      refine z_getI (pc := 13) rfl fl_Reader_230 hk.2.2.2.1 rfl ?_
      refine z_eqi (y := nI n) hk.2.2.2.2.2.2.2.2.1 ?_
      refine z_icmp_ge (pc := 16) (tgt := 77) rfl (by decide) (fun h16 => ?_) (fun h16 => ?_)
      · rw [rn_f (fun q => absurd h16 (nI_ge q.1 (by omega)))] at hP
        rw [show a + k - a = k by omega] at hP
        exact hP
      · exact absurd (nI_le (by omega) (by omega)) h16
  | succ m ih =>
    intro k hp hm hP
    by_cases hlt : a + k < n
    · skip
      refine z_aload_n (pc := 5) (i := 0) (j := 0) rfl rfl rfl ?_
      refine z_getI (pc := 6) rfl fl_Reader_35 hk.1 rfl ?_
      refine z_eqi (y := nI (a + k)) rfl ?_
      refine z_aload_n (pc := 9) (i := 0) (j := 0) rfl rfl rfl ?_
      refine z_getR (pc := 10) (x := 1) rfl fl_Reader_12 hk.1 rfl hk.2.1 ?_
      refine z_getI (pc := 13) rfl fl_Reader_230 hk.2.2.2.1 rfl ?_
      refine z_eqi (y := nI n) hk.2.2.2.2.2.2.2.2.1 ?_
      refine z_icmp_ge (pc := 16) (tgt := 77) rfl (by decide) (fun h16 => ?_) (fun h16 => ?_)
      · exact absurd h16 (nI_ge hlt (by omega))
      · refine z_aload_n (pc := 19) (i := 0) (j := 0) rfl rfl rfl ?_
        refine z_getR (pc := 20) (x := 1) rfl fl_Reader_12 hk.1 rfl hk.2.1 ?_
        refine z_getR (pc := 23) (x := 2) rfl fl_Reader_233 hk.2.2.2.1 rfl hk.2.2.2.2.1 ?_
        refine z_aload_n (pc := 26) (i := 0) (j := 0) rfl rfl rfl ?_
        refine z_getI (pc := 27) rfl fl_Reader_35 hk.1 rfl ?_
        refine z_eqi (y := nI (a + k)) rfl ?_
        refine z_bald (pc := 30) rfl hk.2.2.2.2.2.1 (vp_in_nI (n := a + k) (N := 1000) (by omega) (by decide)) ?_
        refine z_eqi (y := T (a + k)) (by rw [nI_clamp (by omega)]; exact congrFun hk.2.2.2.2.2.2.2.2.2.2.1 _) ?_
        refine z_cS (pc := 31) (mc1 := 0) (ms1 := 0) (mc2 := 0) (ms2 := 0) (as := [.int (T (a + k))]) (rest := []) ok_Reader_isDigit rfl rfl cl_Reader_237 (by omega) (Nat.le_of_ble_eq_true rfl) (Nat.le_of_ble_eq_true rfl) (Nat.le_refl _) (Nat.le_refl _) (c_Reader_isDigit (T (a + k)) 0 _) (fun r1 w1 hp => ?_) rfl rfl
        obtain ⟨rfl, hw1⟩ := hp
        rw [hw1]
        refine ⟨⟨Nat.le_refl _, Or.inl rfl⟩, ?_⟩
        refine z_if_eq (pc := 34) (tgt := 77) rfl (by decide) (fun h34 => ?_) (fun h34 => ?_)
        · have hb : ¬ isDg (T (a + k)) = true := fun q => by rw [isDg_v, if_pos q] at h34; exact absurd h34 (by decide)
          rw [rn_f (fun q => hb q.2)] at hP
          rw [show a + k - a = k by omega] at hP
          exact hP
        · refine z_aload_n (pc := 37) (i := 0) (j := 0) rfl rfl rfl ?_
          refine z_aload_n (pc := 38) (i := 0) (j := 0) rfl rfl rfl ?_
          refine z_getI (pc := 39) rfl fl_Reader_183 hk.1 rfl ?_
          refine z_eqi (y := numV T a k) rfl ?_
          refine z_bipush (pc := 42) (v := 10) rfl (by decide) ?_
          refine z_imul (pc := 44) rfl ?_
          refine z_aload_n (pc := 45) (i := 0) (j := 0) rfl rfl rfl ?_
          refine z_getR (pc := 46) (x := 1) rfl fl_Reader_12 hk.1 rfl hk.2.1 ?_
          refine z_getR (pc := 49) (x := 2) rfl fl_Reader_233 hk.2.2.2.1 rfl hk.2.2.2.2.1 ?_
          refine z_aload_n (pc := 52) (i := 0) (j := 0) rfl rfl rfl ?_
          refine z_getI (pc := 53) rfl fl_Reader_35 hk.1 rfl ?_
          refine z_eqi (y := nI (a + k)) rfl ?_
          refine z_bald (pc := 56) rfl hk.2.2.2.2.2.1 (vp_in_nI (n := a + k) (N := 1000) (by omega) (by decide)) ?_
          refine z_eqi (y := T (a + k)) (by rw [nI_clamp (by omega)]; exact congrFun hk.2.2.2.2.2.2.2.2.2.2.1 _) ?_
          refine z_iadd (pc := 57) rfl ?_
          refine z_bipush (pc := 58) (v := 48) rfl (by decide) ?_
          refine z_isub (pc := 60) rfl ?_
          refine z_putI (pc := 61) rfl fl_Reader_183 hk.1 rfl  ?_
          refine z_aload_n (pc := 64) (i := 0) (j := 0) rfl rfl rfl ?_
          refine z_dup (pc := 65) rfl rfl ?_
          refine z_getI (pc := 66) rfl fl_Reader_35 hk.1 rfl ?_
          refine z_eqi (y := nI (a + k)) rfl ?_
          refine z_iconst (pc := 69) (v := 1) rfl (by decide) ?_
          refine z_iadd (pc := 70) rfl ?_
          refine z_putI (pc := 71) rfl fl_Reader_35 hk.1 rfl  ?_
          refine z_goto (pc := 74) (tgt := 5) rfl (by decide) ?_
          have hb : isDg (T (a + k)) = true := Decidable.byContradiction (fun q => h34 (by rw [isDg_v, if_neg q]))
          rw [rn_t hlt hb] at hP
          rw [nI_1, zsI_sw _ (by decide)]
          exact ih (k + 1) (by omega) (by omega) hP
    · skip
      refine z_aload_n (pc := 5) (i := 0) (j := 0) rfl rfl rfl ?_
      refine z_getI (pc := 6) rfl fl_Reader_35 hk.1 rfl ?_
      refine z_eqi (y := nI (a + k)) rfl ?_
      refine z_aload_n (pc := 9) (i := 0) (j := 0) rfl rfl rfl ?_
      refine z_getR (pc := 10) (x := 1) rfl fl_Reader_12 hk.1 rfl hk.2.1 ?_
      refine z_getI (pc := 13) rfl fl_Reader_230 hk.2.2.2.1 rfl ?_
      refine z_eqi (y := nI n) hk.2.2.2.2.2.2.2.2.1 ?_
      refine z_icmp_ge (pc := 16) (tgt := 77) rfl (by decide) (fun h16 => ?_) (fun h16 => ?_)
      · rw [rn_f (fun q => absurd h16 (nI_ge q.1 (by omega)))] at hP
        rw [show a + k - a = k by omega] at hP
        exact hP
      · exact absurd (nI_le (by omega) (by omega)) h16
set_option maxRecDepth 100000 in
set_option maxHeartbeats 4000000 in
theorem l_Reader_takeWord {w : zW} {s n : Nat} {T : Nat → Int32} (hk : rdK w s n T) {P : Option Value → zW → Prop} (a : Nat) (d : Nat) (hd : 1 ≤ d) : ∀ m k, a + k ≤ n → n ≤ a + k + m → zS 0 0 d m_Reader_takeWord P 73 [(0, .ref 3)] [] (zsI (zsL w 3 7 (keyC T a (rn isLt T n (a + k) - a))) 3 3 (nI (a + (rn isLt T n (a + k) - a)))) → zS 0 0 d m_Reader_takeWord P 5 [(0, .ref 3)] [] (zsI (zsL w 3 7 (keyC T a k)) 3 3 (nI (a + k))) := by
  have hn1 := hk.2.2.2.2.2.2.2.2.2.1
  intro m
  induction m with
  | zero =>
    intro k hp hm hP
    by_cases hlt : a + k < n
    · omega
    · skip
      refine z_aload_n (pc := 5) (i := 0) (j := 0) rfl rfl rfl ?_
      refine z_getI (pc := 6) rfl fl_Reader_35 hk.1 rfl ?_
      refine z_eqi (y := nI (a + k)) rfl ?_
      refine z_aload_n (pc := 9) (i := 0) (j := 0) rfl rfl rfl ?_
      refine z_getR (pc := 10) (x := 1) rfl fl_Reader_12 hk.1 rfl hk.2.1 ?_
      refine z_getI (pc := 13) rfl fl_Reader_230 hk.2.2.2.1 rfl ?_
      refine z_eqi (y := nI n) hk.2.2.2.2.2.2.2.2.1 ?_
      refine z_icmp_ge (pc := 16) (tgt := 73) rfl (by decide) (fun h16 => ?_) (fun h16 => ?_)
      · rw [rn_f (fun q => absurd h16 (nI_ge q.1 (by omega)))] at hP
        rw [show a + k - a = k by omega] at hP
        exact hP
      · exact absurd (nI_le (by omega) (by omega)) h16
  | succ m ih =>
    intro k hp hm hP
    by_cases hlt : a + k < n
    · skip
      refine z_aload_n (pc := 5) (i := 0) (j := 0) rfl rfl rfl ?_
      refine z_getI (pc := 6) rfl fl_Reader_35 hk.1 rfl ?_
      refine z_eqi (y := nI (a + k)) rfl ?_
      refine z_aload_n (pc := 9) (i := 0) (j := 0) rfl rfl rfl ?_
      refine z_getR (pc := 10) (x := 1) rfl fl_Reader_12 hk.1 rfl hk.2.1 ?_
      refine z_getI (pc := 13) rfl fl_Reader_230 hk.2.2.2.1 rfl ?_
      refine z_eqi (y := nI n) hk.2.2.2.2.2.2.2.2.1 ?_
      refine z_icmp_ge (pc := 16) (tgt := 73) rfl (by decide) (fun h16 => ?_) (fun h16 => ?_)
      · exact absurd h16 (nI_ge hlt (by omega))
      · refine z_aload_n (pc := 19) (i := 0) (j := 0) rfl rfl rfl ?_
        refine z_getR (pc := 20) (x := 1) rfl fl_Reader_12 hk.1 rfl hk.2.1 ?_
        refine z_getR (pc := 23) (x := 2) rfl fl_Reader_233 hk.2.2.2.1 rfl hk.2.2.2.2.1 ?_
        refine z_aload_n (pc := 26) (i := 0) (j := 0) rfl rfl rfl ?_
        refine z_getI (pc := 27) rfl fl_Reader_35 hk.1 rfl ?_
        refine z_eqi (y := nI (a + k)) rfl ?_
        refine z_bald (pc := 30) rfl hk.2.2.2.2.2.1 (vp_in_nI (n := a + k) (N := 1000) (by omega) (by decide)) ?_
        refine z_eqi (y := T (a + k)) (by rw [nI_clamp (by omega)]; exact congrFun hk.2.2.2.2.2.2.2.2.2.2.1 _) ?_
        refine z_cS (pc := 31) (mc1 := 0) (ms1 := 0) (mc2 := 0) (ms2 := 0) (as := [.int (T (a + k))]) (rest := []) ok_Reader_isLetter rfl rfl cl_Reader_244 (by omega) (Nat.le_of_ble_eq_true rfl) (Nat.le_of_ble_eq_true rfl) (Nat.le_refl _) (Nat.le_refl _) (c_Reader_isLetter (T (a + k)) 0 _) (fun r1 w1 hp => ?_) rfl rfl
        obtain ⟨rfl, hw1⟩ := hp
        rw [hw1]
        refine ⟨⟨Nat.le_refl _, Or.inl rfl⟩, ?_⟩
        refine z_if_eq (pc := 34) (tgt := 73) rfl (by decide) (fun h34 => ?_) (fun h34 => ?_)
        · have hb : ¬ isLt (T (a + k)) = true := fun q => by rw [isLt_v, if_pos q] at h34; exact absurd h34 (by decide)
          rw [rn_f (fun q => hb q.2)] at hP
          rw [show a + k - a = k by omega] at hP
          exact hP
        · refine z_aload_n (pc := 37) (i := 0) (j := 0) rfl rfl rfl ?_
          refine z_aload_n (pc := 38) (i := 0) (j := 0) rfl rfl rfl ?_
          refine z_getL (pc := 39) rfl fl_Reader_137 hk.1 rfl ?_
          refine z_eql (y := keyC T a k) rfl ?_
          refine z_aload_n (pc := 42) (i := 0) (j := 0) rfl rfl rfl ?_
          refine z_getR (pc := 43) (x := 1) rfl fl_Reader_12 hk.1 rfl hk.2.1 ?_
          refine z_getR (pc := 46) (x := 2) rfl fl_Reader_233 hk.2.2.2.1 rfl hk.2.2.2.2.1 ?_
          refine z_aload_n (pc := 49) (i := 0) (j := 0) rfl rfl rfl ?_
          refine z_getI (pc := 50) rfl fl_Reader_35 hk.1 rfl ?_
          refine z_eqi (y := nI (a + k)) rfl ?_
          refine z_bald (pc := 53) rfl hk.2.2.2.2.2.1 (vp_in_nI (n := a + k) (N := 1000) (by omega) (by decide)) ?_
          refine z_eqi (y := T (a + k)) (by rw [nI_clamp (by omega)]; exact congrFun hk.2.2.2.2.2.2.2.2.2.2.1 _) ?_
          refine z_cS (pc := 54) (mc1 := 0) (ms1 := 0) (mc2 := 0) (ms2 := 0) (as := [.long (keyC T a k), .int (T (a + k))]) (rest := [.ref 3]) ok_Word_withLetter rfl rfl cl_Reader_258 (by omega) (Nat.le_of_ble_eq_true rfl) (Nat.le_of_ble_eq_true rfl) (Nat.le_refl _) (Nat.le_refl _) (c_Word_withLetter (keyC T a k) (T (a + k)) 0 _) (fun r1 w1 hp => ?_) rfl rfl
          obtain ⟨rfl, hw1⟩ := hp
          rw [hw1]
          refine ⟨⟨Nat.le_refl _, Or.inl rfl⟩, ?_⟩
          refine z_putL (pc := 57) rfl fl_Reader_137 hk.1 rfl  ?_
          refine z_aload_n (pc := 60) (i := 0) (j := 0) rfl rfl rfl ?_
          refine z_dup (pc := 61) rfl rfl ?_
          refine z_getI (pc := 62) rfl fl_Reader_35 hk.1 rfl ?_
          refine z_eqi (y := nI (a + k)) rfl ?_
          refine z_iconst (pc := 65) (v := 1) rfl (by decide) ?_
          refine z_iadd (pc := 66) rfl ?_
          refine z_putI (pc := 67) rfl fl_Reader_35 hk.1 rfl  ?_
          refine z_goto (pc := 70) (tgt := 5) rfl (by decide) ?_
          have hb : isLt (T (a + k)) = true := Decidable.byContradiction (fun q => h34 (by rw [isLt_v, if_neg q]))
          rw [rn_t hlt hb] at hP
          rw [nI_1, zsI_swL]
          exact ih (k + 1) (by omega) (by omega) hP
    · skip
      refine z_aload_n (pc := 5) (i := 0) (j := 0) rfl rfl rfl ?_
      refine z_getI (pc := 6) rfl fl_Reader_35 hk.1 rfl ?_
      refine z_eqi (y := nI (a + k)) rfl ?_
      refine z_aload_n (pc := 9) (i := 0) (j := 0) rfl rfl rfl ?_
      refine z_getR (pc := 10) (x := 1) rfl fl_Reader_12 hk.1 rfl hk.2.1 ?_
      refine z_getI (pc := 13) rfl fl_Reader_230 hk.2.2.2.1 rfl ?_
      refine z_eqi (y := nI n) hk.2.2.2.2.2.2.2.2.1 ?_
      refine z_icmp_ge (pc := 16) (tgt := 73) rfl (by decide) (fun h16 => ?_) (fun h16 => ?_)
      · rw [rn_f (fun q => absurd h16 (nI_ge q.1 (by omega)))] at hP
        rw [show a + k - a = k by omega] at hP
        exact hP
      · exact absurd (nI_le (by omega) (by omega)) h16
