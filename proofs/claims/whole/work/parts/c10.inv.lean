/-! THE INVARIANT OF THE WHOLE WORLD: the object, the model, the tape, the marks -/
def mkI (w : zW) (k N : Nat) : Prop := (zR w 30 k = none ∧ zI w 72 k = 0) ∨ ∃ m C R H K U : Nat, zR w 30 k = some m ∧ ¬ zI w 72 k = 0 ∧ mkS w m ∧ 74 ≤ m ∧ SRn (zI w) (m + 1) (2 + k) C R H K U ∧ LR (zI w) (m + 13) (fun j => zI w 68 (1344 * k + j)) H N
def tpI (w : zW) : Prop := ∃ n : Nat, n ≤ 1000 ∧ zI w 1 1 = nI n ∧ zI w 44 1 = nI n ∧ zI w 45 = zI w 2 ∧ ∀ k, k < n → tok (zI w 2 k) = true
def rdS (w : zW) (s : Nat) : Prop := w.1[3]? = some (3, 15) ∧ zR w 3 0 = some 1 ∧ zR w 3 1 = some s ∧ w.1[1]? = some (6, 2) ∧ zR w 1 0 = some 2 ∧ w.1[2]? = some (9, 1000) ∧ zSt w s ∧ (s = 4 ∨ s = 32)
def mkD (w : zW) : Prop := ∀ k j m n : Nat, k < 4 → j < 4 → k ≠ j → zR w 30 k = some m → zR w 30 j = some n → m + 22 ≤ n ∨ n + 22 ≤ m
def Iv (w : zW) (s N : Nat) : Prop := (zX w s ∧ zMo w ∧ w.1[73]? = some (11, 1) ∧ rdS w (36 - s)) ∧ tpI w ∧ (∃ C R H K U : Nat, SRn (zI w) s 0 C R H K U ∧ LR (zI w) 21 (zI w 67) H N) ∧ (∀ k, k < 4 → mkI w k N) ∧ mkD w ∧ w.1.length ≤ 74 + N
theorem Iv.s {w : zW} {s N : Nat} (h : Iv w s N) : s = 4 ∨ s = 32 := h.1.1.2.2.2.2.2.2.2.2.2.2.2.2.2.2.2.2
theorem Iv.len {w : zW} {s N : Nat} (h : Iv w s N) : 74 ≤ w.1.length := (List.getElem?_eq_some_iff.mp h.1.2.2.1).1
theorem Iv.rd {w : zW} {s N : Nat} (h : Iv w s N) : ∃ n : Nat, n ≤ 1000 ∧ rdK w (36 - s) n (zI w 2) ∧ zI w 1 1 = nI n ∧ zI w 44 1 = nI n ∧ zI w 45 = zI w 2 ∧ ∀ k, k < n → tok (zI w 2 k) = true := by
  obtain ⟨⟨-, -, -, r1, r2, r3, r4, r5, r6, r7, r8⟩, ⟨n, n1, n2, n3, n4, n5⟩, -⟩ := h
  exact ⟨n, n1, ⟨r1, r2, r3, r4, r5, r6, r7, r8, n2, n1, rfl, n5⟩, n2, n3, n4, n5⟩
theorem LR_same {f f2 : Nat → Nat → Int32} {l : Nat} {g g2 : Nat → Int32} {H N M : Nat} (h : LR f l g H N) (hM : N ≤ M) (c : ∀ o, l ≤ o → o ≤ l + 8 → f2 o = f o) (cg : ∀ j, j < 1344 → g2 j = g j) : LR f2 l g2 H M :=
  LR_c h hM (fun i _ _ => congrFun (c l (by omega) (by omega)) i) (fun j _ => congrFun (c (l + 1) (by omega) (by omega)) j) (fun j _ => congrFun (c (l + 2) (by omega) (by omega)) j) (fun j _ => congrFun (c (l + 3) (by omega) (by omega)) j) (fun j _ => congrFun (c (l + 4) (by omega) (by omega)) j) (fun j _ => congrFun (c (l + 5) (by omega) (by omega)) j) (fun j _ => congrFun (c (l + 6) (by omega) (by omega)) j) (fun j _ => congrFun (c (l + 7) (by omega) (by omega)) j) (fun j _ => congrFun (c (l + 8) (by omega) (by omega)) j) cg
theorem SRn_same {f g : Nat → Nat → Int32} {s r C R H K U : Nat} (h : SRn f s r C R H K U) (c : ∀ o, s ≤ o → o < s + 12 → o ≠ s + 8 → o ≠ s + 11 → g o = f o) (m : ∀ o, 46 ≤ o → o ≤ 54 → g o = f o) : SRn g s r C R H K U :=
  SRn_keep h (fun o a b _ d e => c o a b d e) (fun i _ => congrFun (m 46 (by omega) (by omega)) _) (fun o a b i _ => congrFun (m o (by omega) (by omega)) _) (fun o ho i _ => congrFun (m o (by omega) (by omega)) _) (fun i _ => congrFun (m 54 (by omega) (by omega)) _)
/-- all that the invariant reads, but the tape and the life -/
def eqR (s : Nat) (f g : Nat → Nat → Int32) : Prop := ∀ o, o ≠ s + 8 → o ≠ s + 11 → (o < 17 ∨ 29 < o) → o ≠ 31 → o ≠ 44 → (o < 57 ∨ 67 < o) → o ≠ 69 → o ≠ 70 → o ≠ 71 → o ≠ 1 → o ≠ 2 → o ≠ 45 → g o = f o
theorem Iv_all {w w1 : zW} {s N M : Nat} (h : Iv w s N) (hM : N ≤ M) (hk : w1.1 = w.1) (hR : zR w1 = zR w) (e : eqR s (zI w) (zI w1)) (hT : tpI w1) (hL : ∀ C R H K U : Nat, SRn (zI w) s 0 C R H K U → LR (zI w) 21 (zI w 67) H N → LR (zI w1) 21 (zI w1 67) H M) : Iv w1 s M := by
  have hs := h.s
  obtain ⟨a, f, L, r⟩ := w1
  have hk : a = w.1 := hk
  have hR : r = zR w := hR
  subst hk hR
  have e : ∀ o, o ≠ s + 8 → o ≠ s + 11 → (o < 17 ∨ 29 < o) → o ≠ 31 → o ≠ 44 → (o < 57 ∨ 67 < o) → o ≠ 69 → o ≠ 70 → o ≠ 71 → o ≠ 1 → o ≠ 2 → o ≠ 45 → f o = zI w o := e
  obtain ⟨x, -, ⟨C, R, H, K, U, t1, t2⟩, t3, t4, t5⟩ := h
  have em : ∀ o, 74 ≤ o → f o = zI w o := fun o ho => e o (by omega) (by omega) (by omega) (by omega) (by omega) (by omega) (by omega) (by omega) (by omega) (by omega) (by omega) (by omega)
  have eo : ∀ o, 46 ≤ o → o ≤ 54 → f o = zI w o := fun o h1 h2 => e o (by omega) (by omega) (by omega) (by omega) (by omega) (by omega) (by omega) (by omega) (by omega) (by omega) (by omega) (by omega)
  have es : ∀ o, s ≤ o → o < s + 12 → o ≠ s + 8 → o ≠ s + 11 → f o = zI w o := fun o h1 h2 h3 h4 => e o h3 h4 (by omega) (by omega) (by omega) (by omega) (by omega) (by omega) (by omega) (by omega) (by omega) (by omega)
  have e68 : f 68 = zI w 68 := e 68 (by omega) (by omega) (by omega) (by omega) (by omega) (by omega) (by omega) (by omega) (by omega) (by omega) (by omega) (by omega)
  have e72 : f 72 = zI w 72 := e 72 (by omega) (by omega) (by omega) (by omega) (by omega) (by omega) (by omega) (by omega) (by omega) (by omega) (by omega) (by omega)
  refine ⟨x, hT, ⟨C, R, H, K, U, SRn_same t1 es eo, hL C R H K U t1 t2⟩, fun k hk => ?_, t4, Nat.le_trans t5 (by omega)⟩
  rcases t3 k hk with ⟨b1, b2⟩ | ⟨m, C, R, H, K, U, b1, b2, b3, b4, b5, b6⟩
  · exact Or.inl ⟨b1, (congrFun e72 k).trans b2⟩
  · refine Or.inr ⟨m, C, R, H, K, U, b1, ?_, b3, b4, SRn_same b5 (fun o h1 h2 _ _ => em o (by omega)) eo, LR_same b6 hM (fun o h1 h2 => em o (by omega)) (fun j _ => congrFun e68 _)⟩
    show ¬ f 72 k = 0
    rw [e72]
    exact b2
def eqQ (s : Nat) (f g : Nat → Nat → Int32) : Prop := ∀ o, o ≠ s + 8 → o ≠ s + 11 → (o < 17 ∨ 29 < o) → o ≠ 31 → o ≠ 44 → (o < 57 ∨ 67 < o) → o ≠ 69 → o ≠ 70 → o ≠ 71 → g o = f o
theorem Iv_life {w w1 : zW} {s N M : Nat} (h : Iv w s N) (hM : N ≤ M) (hk : w1.1 = w.1) (hR : zR w1 = zR w) (e : eqQ s (zI w) (zI w1)) (e44 : zI w1 44 1 = zI w 44 1) (hL : ∀ C R H K U : Nat, SRn (zI w) s 0 C R H K U → LR (zI w) 21 (zI w 67) H N → LR (zI w1) 21 (zI w1 67) H M) : Iv w1 s M := by
  have hs := h.s
  have f1 : zI w1 1 = zI w 1 := e 1 (by omega) (by omega) (by omega) (by omega) (by omega) (by omega) (by omega) (by omega) (by omega)
  have f2 : zI w1 2 = zI w 2 := e 2 (by omega) (by omega) (by omega) (by omega) (by omega) (by omega) (by omega) (by omega) (by omega)
  have f5 : zI w1 45 = zI w 45 := e 45 (by omega) (by omega) (by omega) (by omega) (by omega) (by omega) (by omega) (by omega) (by omega)
  obtain ⟨n, n1, n2, n3, n4, n5⟩ := h.2.1
  exact Iv_all h hM hk hR (fun o a1 a2 a3 a4 a5 a6 a7 a8 a9 _ _ _ => e o a1 a2 a3 a4 a5 a6 a7 a8 a9) ⟨n, n1, (congrFun f1 1).trans n2, e44.trans n3, f5.trans (n4.trans f2.symm), fun k hk => by rw [f2]; exact n5 k hk⟩ hL
/-- nothing that it reads has changed -/
theorem Iv_keep {w w1 : zW} {s N M : Nat} (h : Iv w s N) (hM : N ≤ M) (hk : w1.1 = w.1) (hR : zR w1 = zR w) (e : ∀ o, o ≠ s + 8 → o ≠ s + 11 → (o < 17 ∨ 20 < o) → o ≠ 31 → o ≠ 44 → (o < 57 ∨ 66 < o) → o ≠ 69 → o ≠ 70 → o ≠ 71 → zI w1 o = zI w o) (e44 : zI w1 44 1 = zI w 44 1) : Iv w1 s M := by
  have hs := h.s
  refine Iv_life h hM hk hR (fun o a1 a2 a3 a4 a5 a6 a7 a8 a9 => e o a1 a2 (by omega) a4 a5 (by omega) a7 a8 a9) e44 (fun C R H K U _ l => ?_)
  refine LR_same l hM (fun o h1 h2 => e o (by omega) (by omega) (by omega) (by omega) (by omega) (by omega) (by omega) (by omega) (by omega)) (fun j _ => ?_)
  rw [e 67 (by omega) (by omega) (by omega) (by omega) (by omega) (by omega) (by omega) (by omega) (by omega)]
theorem Iv_mono {w : zW} {s N M : Nat} (h : Iv w s N) (hM : N ≤ M) : Iv w s M := Iv_keep h hM rfl rfl (fun _ _ _ _ _ _ _ _ _ _ => rfl) rfl
/-- one call on both sides -/
def Op (w : zW) (N : Nat) (M1 M2 : zM) (as : List (Nat × Value)) : Prop := zS 22 3463 139 M1 (fun r1 w1 => ∃ v : Int32, r1 = some (.int v) ∧ (w.1.length ≤ w1.1.length ∧ w1.1.length ≤ 900000 ∧ w1.1[44]? = some (8, 43)) ∧ zS 0 0 139 M2 (fun r2 w2 => r2 = some (.int v) ∧ w2.1 = w1.1 ∧ ∃ s, Iv w2 s (N + 1000)) 0 ((0, .ref 44) :: as) [] w1) 0 ((0, .ref 0) :: as) [] w
theorem op_of {w : zW} {s N : Nat} {M1 M2 : zM} {as : List (Nat × Value)} {P1 : Option Value → zW → Prop} (h : Iv w s N) (hN : N ≤ 511000) (k : zS 0 0 139 M1 P1 0 ((0, .ref 0) :: as) [] w) (g : ∀ r1 w1, P1 r1 w1 → ∃ v : Int32, r1 = some (.int v) ∧ w1.1 = w.1 ∧ zS 0 0 139 M2 (fun r2 w2 => r2 = some (.int v) ∧ w2.1 = w1.1 ∧ ∃ s, Iv w2 s (N + 1000)) 0 ((0, .ref 44) :: as) [] w1) : Op w N M1 M2 as := by
  refine z_more (zS_P (fun r1 w1 hp => ?_) k) (by decide) (by decide)
  obtain ⟨v, e1, e2, e3⟩ := g r1 w1 hp
  have hl : w.1.length ≤ 74 + N := h.2.2.2.2.2
  exact ⟨v, e1, ⟨by rw [e2]; exact Nat.le_refl _, by rw [e2]; omega, by rw [e2]; exact h.1.2.1.1⟩, e3⟩
theorem zMi_o {f g : Nat → Nat → Int32} {C R H : Nat} {V : Int32 → Int32} {G : Int32 → Int32 → Int32 → Int32} (h : zMi f C R H V G) (e : ∀ o, 46 ≤ o → o ≤ 54 → g o = f o) : zMi g C R H V G := zMi_c h (e 46 (by omega) (by omega)) (e 52 (by omega) (by omega)) (e 53 (by omega) (by omega)) (e 54 (by omega) (by omega))
theorem mE_o {f g : Nat → Nat → Int32} (e : ∀ o, 46 ≤ o → o ≤ 67 → g o = f o) : mE f g := ⟨e 46 (by omega) (by omega), e 48 (by omega) (by omega), e 49 (by omega) (by omega), e 50 (by omega) (by omega), e 51 (by omega) (by omega), e 67 (by omega) (by omega)⟩
