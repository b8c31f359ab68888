/-! THE READER'S STATEMENTS, over the ints of the street that it drafts -/
abbrev rDt : Type := (Nat ⊕ Int32) × (Nat → Nat → Int32) × (Nat → Int64)
def rD (w : zW) (T : Nat → Int32) (n s : Nat) (D : rDt) : Prop := rS w T n D.1 ∧ (∀ o, o ≠ 3 → o ≠ s + 6 → o ≠ s + 9 → zI w o = D.2.1 o) ∧ zI w (s + 6) 2 = D.2.1 (s + 6) 2 ∧ zI w (s + 9) 2 = D.2.1 (s + 9) 2 ∧ (∀ k, 10 ≤ k → zI w 3 k = D.2.1 3 k) ∧ zL w (s + 5) = D.2.2
def rH (s : Nat) (w w1 : zW) : Prop := w1.1 = w.1 ∧ (∀ o k, ¬ (o = 3 ∧ (k = 2 ∨ k = 8)) → zR w1 o k = zR w o k) ∧ (∀ o, o ≠ 3 → o ≠ s + 5 → zL w1 o = zL w o) ∧ zI w1 1 = zI w 1 ∧ zI w1 2 = zI w 2
theorem rH_r (s : Nat) (w : zW) : rH s w w := ⟨rfl, fun _ _ _ => rfl, fun _ _ _ => rfl, rfl, rfl⟩
theorem rH_t {s : Nat} {w w1 w2 : zW} (h : rH s w w1) (k : rH s w1 w2) : rH s w w2 := ⟨k.1.trans h.1, fun o j q => (k.2.1 o j q).trans (h.2.1 o j q), fun o h1 h2 => (k.2.2.1 o h1 h2).trans (h.2.2.1 o h1 h2), k.2.2.2.1.trans h.2.2.2.1, k.2.2.2.2.trans h.2.2.2.2⟩
theorem rH_F {s : Nat} {w w1 : zW} (h : rF w w1) : rH s w w1 := ⟨h.1, fun o k q => h.2.2.2.2 o k (fun e => q ⟨e.1, Or.inr e.2⟩), fun o h1 _ => by funext k; exact h.2.2.2.1 o k (fun e => h1 e.1), h.2.1 1 (by decide), h.2.1 2 (by decide)⟩
theorem rH_G {s L : Nat} {w w1 : zW} (h3 : 3 < L) (h : rG L w w1) : rH s w w1 := ⟨h.1, fun o k q => h.2.2.2.2 o k (fun e => q ⟨e.1, Or.inr e.2⟩), fun o h1 _ => by funext k; exact h.2.2.2.1 o k (fun e => h1 e.1), h.2.1 1 (by decide) (by omega) (by omega), h.2.1 2 (by decide) (by omega) (by omega)⟩
theorem rH_I {s o : Nat} {w : zW} (ho : 2 < o) (k : Nat) (v : Int32) : rH s w (zsI w o k v) := ⟨rfl, fun _ _ _ => rfl, fun _ _ _ => rfl, z2_off (zI w) (o := o) (a := 1) k v (by omega), z2_off (zI w) (o := o) (a := 2) k v (by omega)⟩
theorem rH_R {s : Nat} {w : zW} (x : Option Nat) : rH s w (zsR w 3 2 x) := ⟨rfl, fun o k q => by show z2 _ _ _ _ _ _ = _; unfold z2; rw [if_neg (fun e => q ⟨e.1, Or.inl e.2⟩)], fun _ _ _ => rfl, rfl, rfl⟩
theorem rdK_H {w w1 : zW} {s n : Nat} {T : Nat → Int32} (h : rdK w s n T) (k : rH s w w1) : rdK w1 s n T := rdK_mv h k.1 k.2.1 k.2.2.2.1 k.2.2.2.2
theorem rdK_s {w : zW} {s n : Nat} {T : Nat → Int32} (h : rdK w s n T) : 3 < s := by have := h.2.2.2.2.2.2.2.1; omega
theorem rD_F {w w1 : zW} {s n : Nat} {T : Nat → Int32} {D : rDt} {q : Nat ⊕ Int32} (h : rD w T n s D) (hs : 3 < s) (k : rF w w1) (hq : rS w1 T n q) : rD w1 T n s (q, D.2) := ⟨hq, fun o h1 h2 h3 => (k.2.1 o h1).trans (h.2.1 o h1 h2 h3), (congrFun (k.2.1 _ (by omega)) 2).trans h.2.2.1, (congrFun (k.2.1 _ (by omega)) 2).trans h.2.2.2.1, fun j hj => (k.2.2.1 j hj).trans (h.2.2.2.2.1 j hj), by rw [← h.2.2.2.2.2]; funext j; exact k.2.2.2.1 (s + 5) j (fun e => by omega)⟩
theorem rS_o {w : zW} {T : Nat → Int32} {n o : Nat} {q : Nat ⊕ Int32} (h : rS w T n q) (ho : o ≠ 3) (k : Nat) (v : Int32) : rS (zsI w o k v) T n q := by
  have e := z2_off (zI w) (o := o) (a := 3) k v (fun e => ho e.symm)
  cases q with
  | inl p => exact ⟨(congrFun e 9).trans h.1, (congrFun e 3).trans h.2.1, (congrFun e 5).trans h.2.2.1, (congrFun e 4).trans h.2.2.2.1, fun z => (congrFun e 6).trans (h.2.2.2.2.1 z), h.2.2.2.2.2⟩
  | inr j => exact ⟨(congrFun e 9).trans h.1, h.2.1, (congrFun e 4).trans h.2.2.1, h.2.2.2⟩
theorem rS_3 {w : zW} {T : Nat → Int32} {n k : Nat} {q : Nat ⊕ Int32} (h : rS w T n q) (hk : 10 ≤ k) (v : Int32) : rS (zsI w 3 k v) T n q := by
  have e : ∀ j, j < 10 → zI (zsI w 3 k v) 3 j = zI w 3 j := fun j hj => z2_k (zI w) 3 (k := k) (b := j) v (by omega)
  cases q with
  | inl p => exact ⟨(e 9 (by decide)).trans h.1, (e 3 (by decide)).trans h.2.1, (e 5 (by decide)).trans h.2.2.1, (e 4 (by decide)).trans h.2.2.2.1, fun z => (e 6 (by decide)).trans (h.2.2.2.2.1 z), h.2.2.2.2.2⟩
  | inr j => exact ⟨(e 9 (by decide)).trans h.1, h.2.1, (e 4 (by decide)).trans h.2.2.1, h.2.2.2⟩
theorem z2_cg {f g : Nat → Nat → Int32} {o k a : Nat} {v : Int32} (h : f a = g a) : z2 f o k v a = z2 g o k v a := by funext b; unfold z2; rw [h]
theorem z2_cg1 {f g : Nat → Nat → Int32} {o k a b : Nat} {v : Int32} (h : f a b = g a b) : z2 f o k v a b = z2 g o k v a b := by unfold z2; rw [h]
theorem rD_I {w : zW} {s n o : Nat} {T : Nat → Int32} {D : rDt} (h : rD w T n s D) (ho : o ≠ 3) (k : Nat) (v : Int32) : rD (zsI w o k v) T n s (D.1, z2 D.2.1 o k v, D.2.2) := ⟨rS_o h.1 ho k v, fun a h1 h2 h3 => z2_cg (h.2.1 a h1 h2 h3), z2_cg1 h.2.2.1, z2_cg1 h.2.2.2.1, fun j hj => z2_cg1 (h.2.2.2.2.1 j hj), h.2.2.2.2.2⟩
theorem rD_3 {w : zW} {s n k : Nat} {T : Nat → Int32} {D : rDt} (h : rD w T n s D) (hk : 10 ≤ k) (v : Int32) : rD (zsI w 3 k v) T n s (D.1, z2 D.2.1 3 k v, D.2.2) := ⟨rS_3 h.1 hk v, fun a h1 h2 h3 => z2_cg (h.2.1 a h1 h2 h3), z2_cg1 (o := 3) (k := k) (v := v) h.2.2.1, z2_cg1 (o := 3) (k := k) (v := v) h.2.2.2.1, fun j hj => z2_cg1 (o := 3) (k := k) (v := v) (h.2.2.2.2.1 j hj), h.2.2.2.2.2⟩
theorem rD_R {w : zW} {s n : Nat} {T : Nat → Int32} {D : rDt} (h : rD w T n s D) (x : Option Nat) : rD (zsR w 3 2 x) T n s D := by
  obtain ⟨h1, h2⟩ := h
  refine ⟨?_, h2⟩
  obtain ⟨q, F, N⟩ := D
  cases q with
  | inl p => exact h1
  | inr j => exact h1
theorem z_nmw {mc ms d : Nat} {M : zM} {P : Option Value → zW → Prop} {pc : Nat} {ls : List (Nat × Value)} {st : List Value} {w : zW} (k : ∀ w2, w2 = w → zS mc ms d M P pc ls st w2) : zS mc ms d M P pc ls st w := k w rfl
section PD
variable (T : Nat → Int32) (n s : Nat)
def fTold (F : Nat → Nat → Int32) : Int32 := if F 3 10 = 0 then (if F s 11 ≤ 0 then 0 else 1) else 1
def dNum (a b : Int32) (k : Nat) (D : rDt) : rDt := ((numW T n a b D.1).2, z2 D.2.1 s k (numW T n a b D.1).1, D.2.2)
def dOnce (k : Nat) (t : Int32) (D : rDt) : rDt := (onceS T n t D.1, z2 D.2.1 3 k 1, D.2.2)
def dField (D : rDt) : rDt := dNum T n s 1 12 8 (dNum T n s 1 12 7 (dOnce T n 10 (fTold s D.2.1) D))
def dCold (D : rDt) : rDt := dNum T n s 0 99 9 (dOnce T n 13 (D.2.1 3 13) D)
def dTurn (D : rDt) : rDt := dNum T n s 0 10 10 (dOnce T n 14 (D.2.1 3 14) D)
def lwQ (L : Nat) (D : rDt) : rQt := cChoice T n (cPart T n L s 5) (D.1, (0, D.2.1 (L + 1)))
def dLawE (L : Nat) (D : rDt) : rDt := ((lwQ T n s L D).1, zr (z2 D.2.1 L 2 (nI (lwQ T n s L D).2.1)) (L + 1) (lwQ T n s L D).2.2, D.2.2)
def dLaw (L k : Nat) (D : rDt) : rDt := dLawE T n s L (dOnce T n k (D.2.1 3 k) D)
def plS : Nat ⊕ Int32 → Nat
  | .inl p => tBeg T n p
  | .inr _ => 0
def hNo (D : rDt) : Nat := (D.2.1 s 11).toNatClampNeg
def hQ2 (D : rDt) : Nat ⊕ Int32 := nxt T n (if D.2.1 s 11 < 8 then D.1 else wrg T n 5 D.1)
def hQ4 (D : rDt) : Nat ⊕ Int32 := expW T n (some 1000006) (newS T n D.2.2 (hNo s D) (hQ2 T n s D))
def hCl (D : rDt) : Int32 × (Nat ⊕ Int32) := numW T n 0 (D.2.1 s 7 - 1) (hQ4 T n s D)
def hRw (D : rDt) : Int32 × (Nat ⊕ Int32) := numW T n 0 (D.2.1 s 8 - 1) (hCl T n s D).2
def hQ7 (D : rDt) : Nat ⊕ Int32 := if fltS (hRw T n s D).2 = 0 then (if hasAt (D.2.1 (s + 1)) (D.2.1 (s + 2)) (hCl T n s D).1 (hRw T n s D).1 (hNo s D) 0 = true then wrgA (nI (plS T n (hCl T n s D).2)) 3 (hRw T n s D).2 else (hRw T n s D).2) else (hRw T n s D).2
def hHi (D : rDt) : Int32 × (Nat ⊕ Int32) := numW T n 0 9 (expW T n (some 1000007) (hQ7 T n s D))
def hKd (D : rDt) : Int32 := kndO (tkw T n (hHi T n s D).2)
def hQe (D : rDt) : Nat ⊕ Int32 := kndS T n (hHi T n s D).2
def hF5 (D : rDt) : Nat → Nat → Int32 := z2 (z2 (z2 (z2 (z2 D.2.1 (s + 1) (hNo s D) (hCl T n s D).1) (s + 2) (hNo s D) (hRw T n s D).1) (s + 3) (hNo s D) (hHi T n s D).1) (s + 4) (hNo s D) (hKd T n s D)) s 11 (nI (hNo s D + 1))
def dHouse (D : rDt) : rDt := if fltS (hQe T n s D) = 0 then (hQe T n s D, hF5 T n s D, vp_updL D.2.2 (hNo s D) (keyS T n (hQ2 T n s D))) else (hQe T n s D, D.2)
def dStm (D : rDt) : rDt := if tkw T n D.1 = some 1000000 then dField T n s D else if tkw T n D.1 = some 1000001 then dLaw T n s (s + 6) 11 D else if tkw T n D.1 = some 1000002 then dLaw T n s (s + 9) 12 D else if tkw T n D.1 = some 1000003 then dCold T n s D else if tkw T n D.1 = some 1000004 then dTurn T n s D else if tkw T n D.1 = some 1000005 then dHouse T n s D else (wrg T n 1 D.1, D.2)
def dStmt (D : rDt) : rDt := (expS T n 59 (dStm T n s D).1, (dStm T n s D).2)
def dAll : Nat → rDt → rDt
  | 0, D => D
  | m + 1, D => if fltS D.1 = 0 then (if tkc T n D.1 = 0 then D else dAll m (dStmt T n s D)) else D
end PD
set_option maxRecDepth 100000 in
set_option maxHeartbeats 4000000 in
theorem c_Reader_readField {w : zW} {s n : Nat} {T : Nat → Int32} (hk : rdK w s n T) (D : rDt) (hD : rD w T n s D) (d : Nat) (hd : 6 ≤ d) : zS 0 0 d m_Reader_readField (fun rv w1 => rv = none ∧ rH s w w1 ∧ rD w1 T n s (dField T n s D)) 0 [(0, .ref 3)] [] w := by
  have hs3 := rdK_s hk
  have hH := rH_r s w
  refine z_aload_n (pc := 0) (i := 0) (j := 0) rfl rfl rfl ?_
  refine z_aload_n (pc := 1) (i := 0) (j := 0) rfl rfl rfl ?_
  have j24 : ∀ u : Int32, (u = fTold s D.2.1) → zS 0 0 d m_Reader_readField (fun rv w1 => rv = none ∧ rH s w w1 ∧ rD w1 T n s (dField T n s D)) 24 [(0, .ref 3)] [.int u, .ref 3, .ref 3] w := by
    intro u h_j24
    subst h_j24
    refine z_cV (pc := 24) (mc1 := 0) (ms1 := 0) (mc2 := 0) (ms2 := 0) (as := [.int (fTold s D.2.1)]) (rest := [.ref 3]) (o := 3) rfl rfl hk.1 ok_Reader_once rfl rfl cl_Reader_82 (by omega) (Nat.le_of_ble_eq_true rfl) (Nat.le_of_ble_eq_true rfl) (Nat.le_refl _) (Nat.le_refl _) (c_Reader_once hk _ hD.1 (fTold s D.2.1) 5 (by decide)) (fun r1 w1 hp => ?_) rfl rfl
    obtain ⟨rfl, hF1, hS1⟩ := hp
    refine ⟨⟨by rw [hF1.1]; exact Nat.le_refl _, Or.inl (by rw [hF1.1])⟩, ?_⟩
    have hk1 := rdK_F hk hF1
    have hD1 : rD w1 T n s (onceS T n (fTold s D.2.1) D.1, D.2) := rD_F hD hs3 hF1 hS1
    have hH1 := rH_t hH (rH_F (s := s) hF1)
    refine z_putZ (pc := 27) rfl fl_Reader_42 hk1.1 rfl (by decide) ?_
    refine z_nmw (fun w2 hw2 => ?_)
    have hD2 : rD w2 T n s (dOnce T n 10 (fTold s D.2.1) D) := by rw [hw2]; exact rD_3 hD1 (k := 10) (by decide) (1 : Int32)
    have hH2 : rH s w w2 := rH_t hH1 (by rw [hw2]; exact rH_I (by decide) _ _)
    have hk2 := rdK_H hk hH2
    refine z_aload_n (pc := 30) (i := 0) (j := 0) rfl rfl rfl ?_
    refine z_getR (pc := 31) (x := s) rfl fl_Reader_21 hk2.1 rfl hk2.2.2.1 ?_
    refine z_aload_n (pc := 34) (i := 0) (j := 0) rfl rfl rfl ?_
    refine z_iconst (pc := 35) (v := 1) rfl (by decide) ?_
    refine z_bipush (pc := 36) (v := 12) rfl (by decide) ?_
    refine z_cV (pc := 38) (mc1 := 0) (ms1 := 0) (mc2 := 0) (ms2 := 0) (as := [.int 1, .int 12]) (rest := [.ref s]) (o := 3) rfl rfl hk2.1 ok_Reader_numberWithin rfl rfl cl_Reader_103 (by omega) (Nat.le_of_ble_eq_true rfl) (Nat.le_of_ble_eq_true rfl) (Nat.le_refl _) (Nat.le_refl _) (c_Reader_numberWithin hk2 _ hD2.1 1 12 5 (by decide)) (fun r1 w3 hp => ?_) rfl rfl
    obtain ⟨rfl, hF3, hS3⟩ := hp
    refine ⟨⟨by rw [hF3.1]; exact Nat.le_refl _, Or.inl (by rw [hF3.1])⟩, ?_⟩
    have hk3 := rdK_F hk2 hF3
    have hD3 : rD w3 T n s ((numW T n 1 12 (dOnce T n 10 (fTold s D.2.1) D).1).2, (dOnce T n 10 (fTold s D.2.1) D).2) := rD_F hD2 hs3 hF3 hS3
    have hH3 := rH_t hH2 (rH_F (s := s) hF3)
    refine z_putI (pc := 41) rfl fl_Reader_131 hk3.2.2.2.2.2.2.1.1 rfl  ?_
    refine z_nmw (fun w4 hw4 => ?_)
    have hD4 : rD w4 T n s (dNum T n s 1 12 7 (dOnce T n 10 (fTold s D.2.1) D)) := by rw [hw4]; exact rD_I hD3 (o := s) (by omega) 7 ((numW T n 1 12 (dOnce T n 10 (fTold s D.2.1) D).1).1)
    have hH4 : rH s w w4 := rH_t hH3 (by rw [hw4]; exact rH_I (by omega) _ _)
    have hk4 := rdK_H hk hH4
    refine z_aload_n (pc := 44) (i := 0) (j := 0) rfl rfl rfl ?_
    refine z_getR (pc := 45) (x := s) rfl fl_Reader_21 hk4.1 rfl hk4.2.2.1 ?_
    refine z_aload_n (pc := 48) (i := 0) (j := 0) rfl rfl rfl ?_
    refine z_iconst (pc := 49) (v := 1) rfl (by decide) ?_
    refine z_bipush (pc := 50) (v := 12) rfl (by decide) ?_
    refine z_cV (pc := 52) (mc1 := 0) (ms1 := 0) (mc2 := 0) (ms2 := 0) (as := [.int 1, .int 12]) (rest := [.ref s]) (o := 3) rfl rfl hk4.1 ok_Reader_numberWithin rfl rfl cl_Reader_103 (by omega) (Nat.le_of_ble_eq_true rfl) (Nat.le_of_ble_eq_true rfl) (Nat.le_refl _) (Nat.le_refl _) (c_Reader_numberWithin hk4 _ hD4.1 1 12 5 (by decide)) (fun r1 w5 hp => ?_) rfl rfl
    obtain ⟨rfl, hF5, hS5⟩ := hp
    refine ⟨⟨by rw [hF5.1]; exact Nat.le_refl _, Or.inl (by rw [hF5.1])⟩, ?_⟩
    have hk5 := rdK_F hk4 hF5
    have hD5 : rD w5 T n s ((numW T n 1 12 (dNum T n s 1 12 7 (dOnce T n 10 (fTold s D.2.1) D)).1).2, (dNum T n s 1 12 7 (dOnce T n 10 (fTold s D.2.1) D)).2) := rD_F hD4 hs3 hF5 hS5
    have hH5 := rH_t hH4 (rH_F (s := s) hF5)
    refine z_putI (pc := 55) rfl fl_Reader_134 hk5.2.2.2.2.2.2.1.1 rfl  ?_
    refine z_nmw (fun w6 hw6 => ?_)
    have hD6 : rD w6 T n s (dNum T n s 1 12 8 (dNum T n s 1 12 7 (dOnce T n 10 (fTold s D.2.1) D))) := by rw [hw6]; exact rD_I hD5 (o := s) (by omega) 8 ((numW T n 1 12 (dNum T n s 1 12 7 (dOnce T n 10 (fTold s D.2.1) D)).1).1)
    have hH6 : rH s w w6 := rH_t hH5 (by rw [hw6]; exact rH_I (by omega) _ _)
    have hk6 := rdK_H hk hH6
    exact z_vret (pc := 58) rfl rfl ⟨rfl, hH6, hD6⟩
  refine z_aload_n (pc := 2) (i := 0) (j := 0) rfl rfl rfl ?_
  refine z_getI (pc := 3) rfl fl_Reader_42 hk.1 rfl ?_
  refine z_eqi (y := D.2.1 3 10) (hD.2.2.2.2.1 10 (by decide)) ?_
  refine z_if_ne (pc := 6) (tgt := 19) rfl (by decide) (fun h6 => ?_) (fun h6 => ?_)
  · refine z_iconst (pc := 19) (v := 1) rfl (by decide) ?_
    refine z_goto (pc := 20) (tgt := 24) rfl (by decide) ?_
    exact j24 _ (by unfold fTold; rw [if_neg h6])
  · refine z_aload_n (pc := 9) (i := 0) (j := 0) rfl rfl rfl ?_
    refine z_getR (pc := 10) (x := s) rfl fl_Reader_21 hk.1 rfl hk.2.2.1 ?_
    refine z_getI (pc := 13) rfl fl_Reader_128 hk.2.2.2.2.2.2.1.1 rfl ?_
    refine z_eqi (y := D.2.1 s 11) (congrFun (hD.2.1 s (by omega) (by omega) (by omega)) 11) ?_
    refine z_if_le (pc := 16) (tgt := 23) rfl (by decide) (fun h16 => ?_) (fun h16 => ?_)
    · refine z_iconst (pc := 23) (v := 0) rfl (by decide) ?_
      exact j24 _ (by unfold fTold; rw [if_pos h6, if_pos h16])
    · refine z_iconst (pc := 19) (v := 1) rfl (by decide) ?_
      refine z_goto (pc := 20) (tgt := 24) rfl (by decide) ?_
      exact j24 _ (by unfold fTold; rw [if_pos h6, if_neg h16])
set_option maxRecDepth 100000 in
set_option maxHeartbeats 4000000 in
theorem c_Reader_beginLaw {w : zW} {s n : Nat} {T : Nat → Int32} (hk : rdK w s n T) {L : Nat} (hL : rLo s L) (d : Nat) : zS 0 0 d m_Reader_beginLaw (fun rv w1 => rv = none ∧ w1 = zsI (zsR w 3 2 (some L)) L 2 0) 0 [(0, .ref 3), (1, .ref L)] [] w := by
  refine z_aload_n (pc := 0) (i := 0) (j := 0) rfl rfl rfl ?_
  refine z_aload_n (pc := 1) (i := 1) (j := 1) rfl rfl rfl ?_
  refine z_putR (pc := 2) rfl fl_Reader_29 hk.1 rfl (Or.inl (List.getElem?_eq_some_iff.mp (rLo_k hk hL).1).1) ?_
  refine z_aload_n (pc := 5) (i := 0) (j := 0) rfl rfl rfl ?_
  refine z_getR (pc := 6) (x := L) rfl fl_Reader_29 hk.1 rfl rfl ?_
  refine z_iconst (pc := 9) (v := 0) rfl (by decide) ?_
  refine z_putI (pc := 10) rfl fl_Reader_186 (rLo_k hk hL).1 rfl ?_
  exact z_vret (pc := 13) rfl rfl ⟨rfl, rfl⟩
theorem rD_law {w w1 : zW} {s n L : Nat} {T : Nat → Int32} {D : rDt} (hs3 : 3 < s) (hL : rLo s L) (h : rD w T n s D) (hg : rG L w w1) {q : rQt} (hq : rQ w1 T n L q) : rD w1 T n s (q.1, zr (z2 D.2.1 L 2 (nI q.2.1)) (L + 1) q.2.2, D.2.2) := by
  have hL3 : L = s + 6 ∨ L = s + 9 := hL
  have e : ∀ o, o ≠ 3 → o ≠ L → o ≠ L + 1 → zr (z2 D.2.1 L 2 (nI q.2.1)) (L + 1) q.2.2 o = D.2.1 o := fun o _ h2 h3 => (zr_o _ _ h3).trans (z2_off D.2.1 2 (nI q.2.1) h2)
  refine ⟨hq.1, fun o h1 h2 h3 => ?_, ?_, ?_, fun j hj => ?_, ?_⟩
  · by_cases h4 : o = L + 1
    · subst h4
      exact hq.2.2.2.trans (zr_h _ _ _).symm
    · have h5 : o ≠ L := by omega
      exact (hg.2.1 o h1 h5 h4).trans ((h.2.1 o h1 h2 h3).trans (e o h1 h5 h4).symm)
  · rcases hL3 with rfl | rfl
    · exact hq.2.1.trans ((congrFun (zr_o _ _ (by omega)) 2).trans (z2_hit _ _ _ _)).symm
    · exact (congrFun (hg.2.1 (s + 6) (by omega) (by omega) (by omega)) 2).trans (h.2.2.1.trans (congrFun (e (s + 6) (by omega) (by omega) (by omega)) 2).symm)
  · rcases hL3 with rfl | rfl
    · exact (congrFun (hg.2.1 (s + 9) (by omega) (by omega) (by omega)) 2).trans (h.2.2.2.1.trans (congrFun (e (s + 9) (by omega) (by omega) (by omega)) 2).symm)
    · exact hq.2.1.trans ((congrFun (zr_o _ _ (by omega)) 2).trans (z2_hit _ _ _ _)).symm
  · have e3 : zr (z2 D.2.1 L 2 (nI q.2.1)) (L + 1) q.2.2 3 j = D.2.1 3 j := (congrFun (zr_o _ _ (by omega)) j).trans (z2_o D.2.1 2 j _ (by omega))
    exact (hg.2.2.1 j hj).trans ((h.2.2.2.2.1 j hj).trans e3.symm)
  · rw [← h.2.2.2.2.2]
    funext j
    exact hg.2.2.2.1 (s + 5) j (fun e => by omega)
theorem rD_lwe {w w1 : zW} {s n L : Nat} {T : Nat → Int32} {D : rDt} (hs3 : 3 < s) (hL : rLo s L) (h : rD w T n s D) (hg : rG L (zsI (zsR w 3 2 (some L)) L 2 0) w1) (hq : rQ w1 T n L (lwQ T n s L D)) : rD w1 T n s (dLawE T n s L D) := by
  have hL3 : L = s + 6 ∨ L = s + 9 := hL
  have k := rD_law hs3 hL (rD_I (rD_R h (some L)) (show L ≠ 3 by omega) 2 0) hg hq
  have e : z2 (z2 D.2.1 L 2 0) L 2 (nI (lwQ T n s L D).2.1) = z2 D.2.1 L 2 (nI (lwQ T n s L D).2.1) := by
    funext a b; unfold z2; by_cases z : a = L ∧ b = 2 <;> simp [z]
  rw [show (D.1, z2 D.2.1 L 2 0, D.2.2).2.1 = z2 D.2.1 L 2 0 from rfl, e] at k
  exact k
theorem rQ_lw {w : zW} {s n L : Nat} {T : Nat → Int32} {D : rDt} (hs3 : 3 < s) (hL : rLo s L) (h : rD w T n s D) : rQ (zsI (zsR w 3 2 (some L)) L 2 0) T n L (D.1, (0, D.2.1 (L + 1))) := by
  have hL3 : L = s + 6 ∨ L = s + 9 := hL
  have k := rD_I (rD_R h (some L)) (show L ≠ 3 by omega) 2 0
  refine ⟨k.1, z2_hit _ _ _ _, Nat.zero_le _, ?_⟩
  exact (z2_off (zI w) (o := L) (a := L + 1) 2 0 (by omega)).trans (h.2.1 (L + 1) (by omega) (by omega) (by omega))
