/-! LAWS, PURELY: a row of codes over the model's registers, a row of steps over the object's stack -/
def wkL (Y : List Int32) (q : wkQ) : wkQ := Y.foldl (fun q c => wkStep c q) q
def wkLO : List Int32 → wkQ → Prop
  | [], _ => True
  | c :: Y, q => wkGood c q.2 ∧ wkLO Y (wkStep c q)
def lsL (x y z : Int32) (Z : List Int32) (q : Nat × (Nat → Int32)) : Nat × (Nat → Int32) := Z.foldl (fun q s => lstep x y z s q) q
theorem wkL_a (Y Y2 : List Int32) (q : wkQ) : wkL (Y ++ Y2) q = wkL Y2 (wkL Y q) := by unfold wkL; rw [List.foldl_append]
theorem wkL_c (c : Int32) (Y : List Int32) (q : wkQ) : wkL (c :: Y) q = wkL Y (wkStep c q) := rfl
theorem wkLO_a : ∀ (Y Y2 : List Int32) (q : wkQ), wkLO Y q → wkLO Y2 (wkL Y q) → wkLO (Y ++ Y2) q
  | [], _, _, _, h => h
  | _ :: Y, Y2, _, h1, h2 => ⟨h1.1, wkLO_a Y Y2 _ h1.2 h2⟩
abbrev V4 : Type := Int32 → Int32 → Int32 → Int32 → Int32
def fx (V : V4) (f : Nat → Nat → Int32) : Int32 := V (f 66 1) (f 66 2) (f 66 3) (f 66 4)
theorem fx_c {V : V4} {f g : Nat → Nat → Int32} (h : g 66 = f 66) : fx V g = fx V f := by unfold fx; rw [h]
def kpU (d : Nat) (f g : Nat → Nat → Int32) : Prop := (∀ o, (o < 57 ∨ 65 < o) → g o = f o) ∧ ∀ o k, k < d → g o k = f o k
theorem z2_at (f : Nat → Nat → Int32) (o k : Nat) (x : Int32) : z2 f o k x o k = x := by unfold z2; rw [if_pos ⟨rfl, rfl⟩]
theorem z2_nt (f : Nat → Nat → Int32) {o k a b : Nat} (x : Int32) (h : a ≠ o ∨ b ≠ k) : z2 f o k x a b = f a b := by unfold z2; rw [if_neg (by omega)]
theorem nots_c {f g : Nat → Nat → Int32} : ∀ (d : Nat) (v : Int32), (∀ k, k ≤ d → g 65 k = f 65 k) → nots g d v = nots f d v
  | 0, _, _ => rfl
  | d + 1, v, h => by
    show (if g 65 (d + 1) = 1 then nots g d (if v = 0 then 1 else 0) else (d + 1, v)) = (if f 65 (d + 1) = 1 then nots f d (if v = 0 then 1 else 0) else (d + 1, v))
    rw [h _ (Nat.le_refl _), nots_c d _ (fun k hk => h k (by omega))]
def lev (f : Nat → Nat → Int32) (D : Nat) : Prop := ∀ v, nots f D v = (D, v)
theorem lev_c {f g : Nat → Nat → Int32} {D : Nat} (h : lev f D) (e : ∀ k, k ≤ D → g 65 k = f 65 k) : lev g D := fun v => (nots_c D v e).trans (h v)
theorem good_o {c : Int32} {d : Nat} (h : c ≠ 28 ∧ c ≠ 30 ∧ c ≠ 29 ∧ ¬ c < 20) : wkGood c d := ⟨fun z => by rcases z with z | z; exact absurd z h.1; exact absurd z h.2.1, fun z => absurd z h.2.2.1, fun z => absurd z h.2.2.2⟩
/-! what each kind of line does to the registers of its depth -/
def smV (g : Nat → Nat → Int32) (D : Nat) : Int32 := if g 62 D = 21 then g 61 D - g 63 D else g 61 D + g 63 D
def tsV (g : Nat → Nat → Int32) (D : Nat) : Int32 := if g 60 D = 24 then (if smV g D ≤ g 59 D then 0 else 1) else if g 60 D = 25 then (if g 59 D = smV g D then 1 else 0) else smV g D
def MPart (m : Nat) (Y : List Int32) (V : V4) : Prop := ∀ (f : Nat → Nat → Int32) (d : Nat), d + m ≤ 5 → wkLO Y (f, d) ∧ (wkL Y (f, d)).2 = (nots f d (fx V f)).1 ∧ kpU (d + 1) (termF f (nots f d (fx V f))) (wkL Y (f, d)).1
def MProd (m : Nat) (Y : List Int32) (V : V4) : Prop := ∀ (f : Nat → Nat → Int32) (D : Nat), D + m ≤ 5 → lev f D → f 64 D = 0 → wkLO Y (f, D) ∧ ∃ g, wkL Y (f, D) = (g, D) ∧ kpU D f g ∧ (∀ o, o ≠ 63 → o ≠ 64 → g o D = f o D) ∧ g 63 D = fx V f
def MSum (m : Nat) (Y : List Int32) (V : V4) : Prop := ∀ (f : Nat → Nat → Int32) (D : Nat), D + m ≤ 5 → lev f D → f 61 D = 0 → f 62 D = 20 → f 64 D = 0 → wkLO Y (f, D) ∧ ∃ g, wkL Y (f, D) = (g, D) ∧ kpU D f g ∧ (∀ o, (o < 61 ∨ 64 < o) → g o D = f o D) ∧ smV g D = fx V f
def MTest (m : Nat) (Y : List Int32) (V : V4) : Prop := ∀ (f : Nat → Nat → Int32) (D : Nat), D + m ≤ 5 → lev f D → f 60 D = 0 → f 61 D = 0 → f 62 D = 20 → f 64 D = 0 → wkLO Y (f, D) ∧ ∃ g, wkL Y (f, D) = (g, D) ∧ kpU D f g ∧ (∀ o, (o < 59 ∨ 64 < o) → g o D = f o D) ∧ tsV g D = fx V f
def MChoice (m : Nat) (Y : List Int32) (V : V4) : Prop := ∀ (f : Nat → Nat → Int32) (D : Nat), D + m ≤ 5 → lev f D → f 58 D = 0 → f 60 D = 0 → f 61 D = 0 → f 62 D = 20 → f 64 D = 0 → wkLO Y (f, D) ∧ ∃ g, wkL Y (f, D) = (g, D) ∧ kpU D f g ∧ g 65 D = f 65 D ∧ testsF g D 57 D = fx V f
theorem MProd_b {m : Nat} {Y : List Int32} {V : V4} (h : MPart m Y V) : MProd m Y V := by
  intro f D hD hl h64
  obtain ⟨h1, h2, h3⟩ := h f D hD
  rw [hl] at h2 h3
  refine ⟨h1, (wkL Y (f, D)).1, Prod.ext rfl h2, ⟨fun o ho => (h3.1 o ho).trans (z2_ro _ _ _ (by omega)), fun o k hk => (h3.2 o k (by omega)).trans (z2_nt _ _ (Or.inr (by show k ≠ D; omega)))⟩, fun o a b => (h3.2 o D (by omega)).trans (z2_nt _ _ (Or.inl a)), (h3.2 63 D (by omega)).trans ?_⟩
  show z2 f 63 D (if f 64 D = 0 then fx V f else f 63 D * fx V f) 63 D = _
  rw [z2_at, if_pos h64]
theorem ws_22 (g : Nat → Nat → Int32) (D : Nat) : wkStep 22 (g, D) = (z2 g 64 D 22, D) := by unfold wkStep; rw [if_neg (by decide), if_neg (by decide), if_neg (by decide), if_pos rfl]
theorem MProd_s {m : Nat} {Y Y2 : List Int32} {V V2 : V4} (h : MProd m Y V) (k : MPart m Y2 V2) : MProd m (Y ++ 22 :: Y2) (fun a b c e => V a b c e * V2 a b c e) := by
  intro f D hD hl h64
  obtain ⟨a1, g, a2, a3, a4, a5⟩ := h f D hD hl h64
  obtain ⟨b1, b2, b3⟩ := k (z2 g 64 D 22) D hD
  have e65 : lev (z2 g 64 D 22) D := lev_c hl (fun i hi => (z2_nt g _ (Or.inl (by decide))).trans (by
    by_cases q : i = D
    · rw [q]; exact a4 65 (by decide) (by decide)
    · exact a3.2 65 i (by omega)))
  have e66 : fx V2 (z2 g 64 D 22) = fx V2 f := fx_c ((z2_ro g D 22 (o := 64) (a := 66) (by decide)).trans (a3.1 66 (by omega)))
  rw [e65, e66] at b2 b3
  refine ⟨wkLO_a _ _ _ a1 (by rw [a2]; exact ⟨good_o (by decide), by rw [ws_22]; exact b1⟩), (wkL Y2 (z2 g 64 D 22, D)).1, ?_, ⟨fun o ho => ?_, fun o i hi => ?_⟩, fun o p q => ?_, ?_⟩
  · rw [wkL_a, a2, wkL_c, ws_22]; exact Prod.ext rfl b2
  · exact (b3.1 o ho).trans ((z2_ro _ _ _ (by omega)).trans ((z2_ro _ _ _ (by omega)).trans (a3.1 o ho)))
  · exact (b3.2 o i (by omega)).trans ((z2_nt _ _ (Or.inr (by show i ≠ D; omega))).trans ((z2_nt _ _ (Or.inr (by omega))).trans (a3.2 o i hi)))
  · exact (b3.2 o D (by omega)).trans ((z2_nt _ _ (Or.inl p)).trans ((z2_nt _ _ (Or.inl q)).trans (a4 o p q)))
  · refine (b3.2 63 D (by omega)).trans ?_
    show z2 (z2 g 64 D 22) 63 D (if z2 g 64 D 22 64 D = 0 then fx V2 f else z2 g 64 D 22 63 D * fx V2 f) 63 D = fx V f * fx V2 f
    rw [z2_at, z2_at, if_neg (by decide), z2_nt g _ (Or.inl (by decide)), a5]
theorem Int32_0a (x : Int32) : 0 + x = x := by rw [Int32.add_comm]; exact Int32.add_zero x
theorem MSum_b {m : Nat} {Y : List Int32} {V : V4} (h : MProd m Y V) : MSum m Y V := by
  intro f D hD hl h61 h62 h64
  obtain ⟨a1, g, a2, a3, a4, a5⟩ := h f D hD hl h64
  refine ⟨a1, g, a2, a3, fun o ho => a4 o (by omega) (by omega), ?_⟩
  unfold smV
  rw [a4 62 (by decide) (by decide), h62, if_neg (by decide), a4 61 (by decide) (by decide), h61, a5, Int32_0a]
theorem sumsF_k (f : Nat → Nat → Int32) {D o k : Nat} (h : k ≠ D ∨ (o ≠ 61 ∧ o ≠ 64)) : sumsF f D o k = f o k := by
  unfold sumsF
  rw [z2_nt _ _ (by omega), z2_nt _ _ (by omega)]
theorem sumsF_61 (f : Nat → Nat → Int32) (D : Nat) : sumsF f D 61 D = smV f D := by
  unfold sumsF
  rw [z2_nt _ _ (Or.inl (by decide)), z2_at]
  rfl
theorem sumsF_64 (f : Nat → Nat → Int32) (D : Nat) : sumsF f D 64 D = 0 := by unfold sumsF; exact z2_at _ _ _ _
theorem ws_pm {c : Int32} (h : c = 20 ∨ c = 21) (g : Nat → Nat → Int32) (D : Nat) : wkStep c (g, D) = (z2 (sumsF g D) 62 D c, D) := by
  unfold wkStep
  rw [if_neg (by rcases h with h | h <;> rw [h] <;> decide), if_neg (by rcases h with h | h <;> rw [h] <;> decide), if_pos h]
theorem MSum_s {m : Nat} {Y Y2 : List Int32} {V V2 : V4} {c : Int32} (hc : c = 20 ∨ c = 21) (h : MSum m Y V) (k : MProd m Y2 V2) : MSum m (Y ++ c :: Y2) (fun a b p e => if c = 21 then V a b p e - V2 a b p e else V a b p e + V2 a b p e) := by
  intro f D hD hl h61 h62 h64
  obtain ⟨a1, g, a2, a3, a4, a5⟩ := h f D hD hl h61 h62 h64
  have el : ∀ i, i ≤ D → z2 (sumsF g D) 62 D c 65 i = f 65 i := fun i hi => (z2_nt _ _ (Or.inl (by decide))).trans ((sumsF_k g (Or.inr (by decide))).trans (by
    by_cases q : i = D
    · rw [q]; exact a4 65 (by omega)
    · exact a3.2 65 i (by omega)))
  obtain ⟨b1, g2, b2, b3, b4, b5⟩ := k (z2 (sumsF g D) 62 D c) D hD (lev_c hl el) ((z2_nt _ _ (Or.inl (by decide))).trans (sumsF_64 g D))
  have e66 : fx V2 (z2 (sumsF g D) 62 D c) = fx V2 f := fx_c ((z2_ro (sumsF g D) D c (o := 62) (a := 66) (by decide)).trans ((sumsF_o g D (by omega)).trans (a3.1 66 (by omega))))
  refine ⟨wkLO_a _ _ _ a1 (by rw [a2]; exact ⟨good_o (by rcases hc with q | q <;> rw [q] <;> decide), by rw [ws_pm hc]; exact b1⟩), g2, ?_, ⟨fun o ho => ?_, fun o i hi => ?_⟩, fun o ho => ?_, ?_⟩
  · rw [wkL_a, a2, wkL_c, ws_pm hc]; exact b2
  · exact (b3.1 o ho).trans ((z2_ro _ _ _ (by omega)).trans ((sumsF_o _ _ ho).trans (a3.1 o ho)))
  · exact (b3.2 o i hi).trans ((z2_nt _ _ (Or.inr (by omega))).trans ((sumsF_k g (Or.inl (by omega))).trans (a3.2 o i hi)))
  · exact (b4 o (by omega) (by omega)).trans ((z2_nt _ _ (Or.inl (by omega))).trans ((sumsF_k g (Or.inr (by omega))).trans (a4 o ho)))
  · unfold smV
    rw [b4 62 (by decide) (by decide), z2_at, b4 61 (by decide) (by decide), z2_nt _ _ (Or.inl (by decide)), sumsF_61, a5, b5, e66]
    rfl
theorem MTest_b {m : Nat} {Y : List Int32} {V : V4} (h : MSum m Y V) : MTest m Y V := by
  intro f D hD hl h60 h61 h62 h64
  obtain ⟨a1, g, a2, a3, a4, a5⟩ := h f D hD hl h61 h62 h64
  refine ⟨a1, g, a2, a3, fun o ho => a4 o (by omega), ?_⟩
  unfold tsV
  rw [a4 60 (by omega), h60, if_neg (by decide), if_neg (by decide), a5]
def ltF (g : Nat → Nat → Int32) (D : Nat) (c : Int32) : Nat → Nat → Int32 := z2 (z2 (z2 (z2 (sumsF g D) 59 D (sumsF g D 61 D)) 60 D c) 61 D 0) 62 D 20
theorem ws_lt {c : Int32} (h : c = 24 ∨ c = 25) (g : Nat → Nat → Int32) (D : Nat) : wkStep c (g, D) = (ltF g D c, D) := by
  unfold wkStep ltF
  rw [if_neg (by rcases h with h | h <;> rw [h] <;> decide), if_neg (by rcases h with h | h <;> rw [h] <;> decide), if_neg (by rcases h with h | h <;> rw [h] <;> decide), if_neg (by rcases h with h | h <;> rw [h] <;> decide), if_pos h]
theorem ltF_k (g : Nat → Nat → Int32) {D o k : Nat} (c : Int32) (h : k ≠ D ∨ (o < 59 ∨ 64 < o)) : ltF g D c o k = g o k := by
  unfold ltF
  rw [z2_nt _ _ (by omega), z2_nt _ _ (by omega), z2_nt _ _ (by omega), z2_nt _ _ (by omega), sumsF_k g (by omega)]
theorem ltF_o (g : Nat → Nat → Int32) {D o : Nat} (c : Int32) (h : o < 57 ∨ 65 < o) : ltF g D c o = g o := by
  unfold ltF
  rw [z2_ro _ _ _ (by omega), z2_ro _ _ _ (by omega), z2_ro _ _ _ (by omega), z2_ro _ _ _ (by omega), sumsF_o g D h]
theorem MTest_s {m : Nat} {Y Y2 : List Int32} {V V2 : V4} {c : Int32} (hc : c = 24 ∨ c = 25) (h : MSum m Y V) (k : MSum m Y2 V2) : MTest m (Y ++ c :: Y2) (fun a b p e => if c = 24 then (if V2 a b p e ≤ V a b p e then 0 else 1) else if V a b p e = V2 a b p e then 1 else 0) := by
  intro f D hD hl h60 h61 h62 h64
  obtain ⟨a1, g, a2, a3, a4, a5⟩ := h f D hD hl h61 h62 h64
  have el : ∀ i, i ≤ D → ltF g D c 65 i = f 65 i := fun i hi => (ltF_k g c (Or.inr (by omega))).trans (by
    by_cases q : i = D
    · rw [q]; exact a4 65 (by omega)
    · exact a3.2 65 i (by omega))
  have e64 : ltF g D c 64 D = 0 := by unfold ltF; rw [z2_nt _ _ (Or.inl (by decide)), z2_nt _ _ (Or.inl (by decide)), z2_nt _ _ (Or.inl (by decide)), z2_nt _ _ (Or.inl (by decide)), sumsF_64]
  have e61 : ltF g D c 61 D = 0 := by unfold ltF; rw [z2_nt _ _ (Or.inl (by decide)), z2_at]
  have e62 : ltF g D c 62 D = 20 := by unfold ltF; exact z2_at _ _ _ _
  have e60 : ltF g D c 60 D = c := by unfold ltF; rw [z2_nt _ _ (Or.inl (by decide)), z2_nt _ _ (Or.inl (by decide)), z2_at]
  have e59 : ltF g D c 59 D = smV g D := by unfold ltF; rw [z2_nt _ _ (Or.inl (by decide)), z2_nt _ _ (Or.inl (by decide)), z2_nt _ _ (Or.inl (by decide)), z2_at, sumsF_61]
  obtain ⟨b1, g2, b2, b3, b4, b5⟩ := k (ltF g D c) D hD (lev_c hl el) e61 e62 e64
  have e66 : fx V2 (ltF g D c) = fx V2 f := fx_c ((ltF_o g c (by omega)).trans (a3.1 66 (by omega)))
  refine ⟨wkLO_a _ _ _ a1 (by rw [a2]; exact ⟨good_o (by rcases hc with q | q <;> rw [q] <;> decide), by rw [ws_lt hc]; exact b1⟩), g2, ?_, ⟨fun o ho => ?_, fun o i hi => ?_⟩, fun o ho => ?_, ?_⟩
  · rw [wkL_a, a2, wkL_c, ws_lt hc]; exact b2
  · exact (b3.1 o ho).trans ((ltF_o g c ho).trans (a3.1 o ho))
  · exact (b3.2 o i hi).trans ((ltF_k g c (Or.inl (by omega))).trans (a3.2 o i hi))
  · exact (b4 o (by omega)).trans ((ltF_k g c (Or.inr (by omega))).trans (a4 o (by omega)))
  · unfold tsV
    rw [b4 60 (by omega), e60, b4 59 (by omega), e59, b5, a5, e66]
    show _ = if c = 24 then (if fx V2 f ≤ fx V f then 0 else 1) else if fx V f = fx V2 f then 1 else 0
    rcases hc with q | q
    · rw [if_pos q, if_pos q]
    · have q24 : ¬ c = 24 := by rw [q]; decide
      rw [if_neg q24, if_pos q, if_neg q24]
def chV (g : Nat → Nat → Int32) (D : Nat) : Int32 := if g 58 D = 27 then (if g 57 D = 0 then (if tsV g D = 0 then 0 else 1) else 1) else if g 58 D = 26 then (if g 57 D = 0 then 0 else if tsV g D = 0 then 0 else 1) else tsV g D
theorem testsF_57 (g : Nat → Nat → Int32) (D : Nat) : testsF g D 57 D = chV g D := by
  unfold testsF
  rw [z2_nt _ _ (Or.inl (by decide)), z2_nt _ _ (Or.inl (by decide)), z2_nt _ _ (Or.inl (by decide)), z2_at]
  unfold testV chV tsV
  simp only [sumsF_61, sumsF_k g (D := D) (o := 60) (k := D) (Or.inr (by decide)), sumsF_k g (D := D) (o := 59) (k := D) (Or.inr (by decide)), sumsF_k g (D := D) (o := 58) (k := D) (Or.inr (by decide)), sumsF_k g (D := D) (o := 57) (k := D) (Or.inr (by decide))]
  by_cases a : g 60 D = 24
  · have b : ¬ g 60 D = 25 := by rw [a]; decide
    simp only [if_pos a, if_neg b]
    by_cases q : g 58 D = 27
    · have r : ¬ g 58 D = 26 := by rw [q]; decide
      simp only [if_pos q, if_neg r]
    · simp only [if_neg q]
  · simp only [if_neg a]
    by_cases q : g 58 D = 27
    · have r : ¬ g 58 D = 26 := by rw [q]; decide
      simp only [if_pos q, if_neg r]
    · simp only [if_neg q]
theorem testsF_k (f : Nat → Nat → Int32) {D o k : Nat} (h : k ≠ D ∨ (o ≠ 57 ∧ o ≠ 60 ∧ o ≠ 61 ∧ o ≠ 62 ∧ o ≠ 64)) : testsF f D o k = f o k := by
  unfold testsF
  rw [z2_nt _ _ (by omega), z2_nt _ _ (by omega), z2_nt _ _ (by omega), z2_nt _ _ (by omega), sumsF_k f (by omega)]
theorem MChoice_b {m : Nat} {Y : List Int32} {V : V4} (h : MTest m Y V) : MChoice m Y V := by
  intro f D hD hl h58 h60 h61 h62 h64
  obtain ⟨a1, g, a2, a3, a4, a5⟩ := h f D hD hl h60 h61 h62 h64
  refine ⟨a1, g, a2, a3, a4 65 (by omega), ?_⟩
  rw [testsF_57]
  unfold chV
  rw [a4 58 (by omega), h58, if_neg (by decide), if_neg (by decide), a5]
theorem ws_ao {c : Int32} (h : c = 26 ∨ c = 27) (g : Nat → Nat → Int32) (D : Nat) : wkStep c (g, D) = (z2 (testsF g D) 58 D c, D) := by
  unfold wkStep
  rw [if_neg (by rcases h with h | h <;> rw [h] <;> decide), if_neg (by rcases h with h | h <;> rw [h] <;> decide), if_neg (by rcases h with h | h <;> rw [h] <;> decide), if_neg (by rcases h with h | h <;> rw [h] <;> decide), if_neg (by rcases h with h | h <;> rw [h] <;> decide), if_pos h]
theorem MChoice_s {m : Nat} {Y Y2 : List Int32} {V V2 : V4} {c : Int32} (hc : c = 26 ∨ c = 27) (h : MChoice m Y V) (k : MTest m Y2 V2) : MChoice m (Y ++ c :: Y2) (fun a b p e => if c = 26 then (if V a b p e = 0 then 0 else if V2 a b p e = 0 then 0 else 1) else (if V a b p e = 0 then (if V2 a b p e = 0 then 0 else 1) else 1)) := by
  intro f D hD hl h58 h60 h61 h62 h64
  obtain ⟨a1, g, a2, a3, a4, a5⟩ := h f D hD hl h58 h60 h61 h62 h64
  have el : ∀ i, i ≤ D → z2 (testsF g D) 58 D c 65 i = f 65 i := fun i hi => (z2_nt _ _ (Or.inl (by decide))).trans ((testsF_k g (Or.inr (by decide))).trans (by
    by_cases q : i = D
    · rw [q]; exact a4
    · exact a3.2 65 i (by omega)))
  have q60 : z2 (testsF g D) 58 D c 60 D = 0 := by unfold testsF; rw [z2_nt _ _ (Or.inl (by decide)), z2_nt _ _ (Or.inl (by decide)), z2_nt _ _ (Or.inl (by decide)), z2_at]
  have q61 : z2 (testsF g D) 58 D c 61 D = 0 := by unfold testsF; rw [z2_nt _ _ (Or.inl (by decide)), z2_nt _ _ (Or.inl (by decide)), z2_at]
  have q62 : z2 (testsF g D) 58 D c 62 D = 20 := by unfold testsF; rw [z2_nt _ _ (Or.inl (by decide)), z2_at]
  have q64 : z2 (testsF g D) 58 D c 64 D = 0 := by unfold testsF; rw [z2_nt _ _ (Or.inl (by decide)), z2_nt _ _ (Or.inl (by decide)), z2_nt _ _ (Or.inl (by decide)), z2_nt _ _ (Or.inl (by decide)), z2_nt _ _ (Or.inl (by decide)), sumsF_64]
  have q57 : z2 (testsF g D) 58 D c 57 D = fx V f := (z2_nt _ _ (Or.inl (by decide))).trans a5
  obtain ⟨b1, g2, b2, b3, b4, b5⟩ := k (z2 (testsF g D) 58 D c) D hD (lev_c hl el) q60 q61 q62 q64
  have e66 : fx V2 (z2 (testsF g D) 58 D c) = fx V2 f := fx_c ((z2_ro (testsF g D) D c (o := 58) (a := 66) (by decide)).trans ((testsF_o g D (by omega)).trans (a3.1 66 (by omega))))
  refine ⟨wkLO_a _ _ _ a1 (by rw [a2]; exact ⟨good_o (by rcases hc with q | q <;> rw [q] <;> decide), by rw [ws_ao hc]; exact b1⟩), g2, ?_, ⟨fun o ho => ?_, fun o i hi => ?_⟩, ?_, ?_⟩
  · rw [wkL_a, a2, wkL_c, ws_ao hc]; exact b2
  · exact (b3.1 o ho).trans ((z2_ro _ _ _ (by omega)).trans ((testsF_o _ _ ho).trans (a3.1 o ho)))
  · exact (b3.2 o i hi).trans ((z2_nt _ _ (Or.inr (by omega))).trans ((testsF_k g (Or.inl (by omega))).trans (a3.2 o i hi)))
  · exact (b4 65 (by omega)).trans (el D (Nat.le_refl _))
  · rw [testsF_57]
    unfold chV
    rw [b4 58 (by omega), z2_at, b4 57 (by omega), q57, b5, e66]
    show _ = if c = 26 then (if fx V f = 0 then 0 else if fx V2 f = 0 then 0 else 1) else (if fx V f = 0 then (if fx V2 f = 0 then 0 else 1) else 1)
    rcases hc with q | q
    · rw [if_neg (by rw [q]; decide), if_pos q, if_pos q]
    · have q26 : ¬ c = 26 := by rw [q]; decide
      rw [if_pos q, if_neg q26]
/-! parts: a number or a fact, a pair of brackets, a not -/
theorem MPart_l {m : Nat} {c : Int32} {V : V4} (h : c < 20 ∨ 100 ≤ c) (h0 : 0 ≤ c) (hv : ∀ f : Nat → Nat → Int32, wkV c f = fx V f) : MPart m [c] V := by
  intro f d hd
  have hn : ∀ x : Int32, (20 ≤ x ∧ x < 100) → c ≠ x := fun x hx e => by
    rw [e] at h
    rcases h with h | h
    · exact absurd hx.1 (Int32.not_le.mpr h)
    · exact absurd hx.2 (Int32.not_lt.mpr h)
  have e : wkStep c (f, d) = (termF f (nots f d (wkV c f)), (nots f d (wkV c f)).1) := by
    unfold wkStep
    rw [if_neg (hn 28 (by decide)), if_neg (hn 30 (by decide)), if_neg (fun z => by rcases z with z | z; exact hn 20 (by decide) z; exact hn 21 (by decide) z), if_neg (hn 22 (by decide)), if_neg (fun z => by rcases z with z | z; exact hn 24 (by decide) z; exact hn 25 (by decide) z), if_neg (fun z => by rcases z with z | z; exact hn 26 (by decide) z; exact hn 27 (by decide) z), if_neg (hn 29 (by decide))]
  rw [hv] at e
  refine ⟨⟨⟨fun z => by rcases z with z | z; exact absurd z (hn 28 (by decide)); exact absurd z (hn 30 (by decide)), fun z => absurd z (hn 29 (by decide)), fun _ => h0⟩, trivial⟩, ?_, ?_⟩
  · rw [wkL_c, e]; rfl
  · rw [wkL_c, e]; exact ⟨fun _ _ => rfl, fun _ _ _ => rfl⟩
theorem termF_c {f g : Nat → Nat → Int32} {d : Nat} (v : Int32) (q : Nat × Int32) (hq : q.1 ≤ d) (h : kpU (d + 1) f g) : kpU (d + 1) (termF f q) (termF g q) := by
  refine ⟨fun o ho => ?_, fun o k hk => ?_⟩
  · unfold termF; rw [z2_ro _ _ _ (by omega), z2_ro _ _ _ (by omega), h.1 o ho]
  · unfold termF z2; rw [h.2 64 q.1 (by omega), h.2 63 q.1 (by omega), h.2 o k hk]
theorem kpU_t {d e : Nat} {f g h : Nat → Nat → Int32} (a : kpU d f g) (b : kpU e g h) (hd : d ≤ e) : kpU d f h := ⟨fun o ho => (b.1 o ho).trans (a.1 o ho), fun o k hk => (b.2 o k (by omega)).trans (a.2 o k hk)⟩
theorem opW_k (f : Nat → Nat → Int32) (d : Nat) (x : Int32) : kpU (d + 1) f (opensF (z2 f 65 (d + 1) x) (d + 1)) := by
  refine ⟨fun o ho => ?_, fun o k hk => ?_⟩
  · rw [opensF_o _ _ ho, z2_ro _ _ _ (by omega)]
  · unfold opensF
    rw [z2_nt _ _ (by omega), z2_nt _ _ (by omega), z2_nt _ _ (by omega), z2_nt _ _ (by omega), z2_nt _ _ (by omega), z2_nt _ _ (by omega)]
theorem opW_65 (f : Nat → Nat → Int32) (d : Nat) (x : Int32) : opensF (z2 f 65 d x) d 65 d = x := by
  unfold opensF
  rw [z2_nt _ _ (by omega), z2_nt _ _ (by omega), z2_nt _ _ (by omega), z2_nt _ _ (by omega), z2_nt _ _ (by omega), z2_at]
theorem ws_28 (f : Nat → Nat → Int32) (d : Nat) : wkStep 28 (f, d) = (opensF (z2 f 65 (d + 1) 0) (d + 1), d + 1) := by unfold wkStep; rw [if_pos rfl]
theorem ws_30 (f : Nat → Nat → Int32) (d : Nat) : wkStep 30 (f, d) = (opensF (z2 f 65 (d + 1) 1) (d + 1), d + 1) := by unfold wkStep; rw [if_neg (by decide), if_pos rfl]
theorem ws_29 (f : Nat → Nat → Int32) (d : Nat) : wkStep 29 (f, d + 1) = (termF (testsF f (d + 1)) (nots (testsF f (d + 1)) d (testsF f (d + 1) 57 (d + 1))), (nots (testsF f (d + 1)) d (testsF f (d + 1) 57 (d + 1))).1) := by
  unfold wkStep; rw [if_neg (by decide), if_neg (by decide), if_neg (by decide), if_neg (by decide), if_neg (by decide), if_neg (by decide), if_pos rfl]
  rfl
theorem MPart_b {m : Nat} {Y : List Int32} {V : V4} (h : MChoice m Y V) : MPart (m + 1) (28 :: (Y ++ [29])) V := by
  intro f d hd
  have k0 := opW_k f d 0
  have l0 : lev (opensF (z2 f 65 (d + 1) 0) (d + 1)) (d + 1) := fun v => by
    show (if opensF (z2 f 65 (d + 1) 0) (d + 1) 65 (d + 1) = 1 then _ else (d + 1, v)) = _
    rw [opW_65, if_neg (by decide)]
  obtain ⟨a1, g, a2, a3, a4, a5⟩ := h (opensF (z2 f 65 (d + 1) 0) (d + 1)) (d + 1) (by omega) l0 (by unfold opensF; rw [z2_nt _ _ (by omega), z2_nt _ _ (by omega), z2_nt _ _ (by omega), z2_nt _ _ (by omega), z2_at]) (by unfold opensF; rw [z2_nt _ _ (by omega), z2_nt _ _ (by omega), z2_nt _ _ (by omega), z2_at]) (by unfold opensF; rw [z2_nt _ _ (by omega), z2_nt _ _ (by omega), z2_at]) (by unfold opensF; rw [z2_nt _ _ (by omega), z2_at]) (by unfold opensF; rw [z2_at])
  have kt : kpU (d + 1) f (testsF g (d + 1)) := kpU_t k0 (kpU_t a3 ⟨fun o ho => testsF_o g (d + 1) ho, fun o k hk => testsF_k g (Or.inl (by omega))⟩ (Nat.le_refl _)) (Nat.le_refl _)
  have e66 : fx V (opensF (z2 f 65 (d + 1) 0) (d + 1)) = fx V f := fx_c (k0.1 66 (by omega))
  rw [e66] at a5
  have en : nots (testsF g (d + 1)) d (fx V f) = nots f d (fx V f) := nots_c d _ (fun k hk => kt.2 65 k (by omega))
  have e29 : wkStep 29 (g, d + 1) = (termF (testsF g (d + 1)) (nots f d (fx V f)), (nots f d (fx V f)).1) := by rw [ws_29, a5, en]
  have eL : wkL (28 :: (Y ++ [29])) (f, d) = (termF (testsF g (d + 1)) (nots f d (fx V f)), (nots f d (fx V f)).1) := by rw [wkL_c, ws_28, wkL_a, a2, wkL_c, e29]; rfl
  refine ⟨⟨⟨fun _ => by show d + 1 < 7; omega, fun z => absurd z (by decide), fun z => absurd z (by decide)⟩, ?_⟩, ?_, ?_⟩
  · rw [ws_28]
    exact wkLO_a _ _ _ a1 (by rw [a2]; exact ⟨⟨fun z => absurd z (by decide), fun _ => by show 1 ≤ d + 1; omega, fun z => absurd z (by decide)⟩, trivial⟩)
  · rw [eL]
  · rw [eL]; exact termF_c 0 _ (nots_le f d _) kt
theorem MPart_n {m : Nat} {Y : List Int32} {V : V4} (h : MPart m Y V) : MPart (m + 1) (30 :: Y) (fun a b c e => if V a b c e = 0 then 1 else 0) := by
  intro f d hd
  have k0 := opW_k f d 1
  obtain ⟨a1, a2, a3⟩ := h (opensF (z2 f 65 (d + 1) 1) (d + 1)) (d + 1) (by omega)
  have e66 : fx V (opensF (z2 f 65 (d + 1) 1) (d + 1)) = fx V f := fx_c (k0.1 66 (by omega))
  have en : nots (opensF (z2 f 65 (d + 1) 1) (d + 1)) (d + 1) (fx V f) = nots f d (if fx V f = 0 then 1 else 0) := by
    show (if opensF (z2 f 65 (d + 1) 1) (d + 1) 65 (d + 1) = 1 then nots (opensF (z2 f 65 (d + 1) 1) (d + 1)) d (if fx V f = 0 then 1 else 0) else _) = _
    rw [opW_65, if_pos rfl]
    exact nots_c d _ (fun k hk => k0.2 65 k (by omega))
  rw [e66, en] at a2 a3
  refine ⟨⟨⟨fun _ => by show d + 1 < 7; omega, fun z => absurd z (by decide), fun z => absurd z (by decide)⟩, by rw [ws_30]; exact a1⟩, ?_, ?_⟩
  · rw [wkL_c, ws_30]; exact a2
  · rw [wkL_c, ws_30]
    exact kpU_t (termF_c 0 _ (nots_le f d _) k0) a3 (by omega)
/-! the same over the object's stack -/
def PSH (k : Nat) (Z : List Int32) (V : V4) : Prop := ∀ (x y z : Int32) (t : Nat) (stk : Nat → Int32), t + k ≤ 32 → ∃ st2, lsL x y z Z (t, stk) = (t + 1, st2) ∧ st2 t = V (x - x / 24 * 24) (x / 24) y z ∧ ∀ i, i < t → st2 i = stk i
theorem PSH_m {k k2 : Nat} {Z : List Int32} {V : V4} (h : PSH k Z V) (hk : k ≤ k2) : PSH k2 Z V := fun x y z t stk ht => h x y z t stk (by omega)
theorem PSH_j {k : Nat} {Z Z2 : List Int32} {V V2 V3 : V4} {op : Int32} (h1 : op < -4) (h5 : op ≠ -5) (h : PSH (k + 1) Z V) (h2 : PSH k Z2 V2) (hV : ∀ a b c e, ljoin op (V a b c e) (V2 a b c e) = V3 a b c e) : PSH (k + 1) (Z ++ Z2 ++ [op]) V3 := by
  intro x y z t stk ht
  obtain ⟨s1, a1, a2, a3⟩ := h x y z t stk ht
  obtain ⟨s2, b1, b2, b3⟩ := h2 x y z (t + 1) s1 (by omega)
  have e : lsL x y z (Z ++ Z2 ++ [op]) (t, stk) = lstep x y z op (t + 1 + 1, s2) := by
    unfold lsL at *
    rw [List.foldl_append, List.foldl_append, a1, b1]
    rfl
  have e2 : lstep x y z op (t + 1 + 1, s2) = (t + 1, upd s2 t (ljoin op (s2 t) (s2 (t + 1)))) := by
    unfold lstep
    rw [if_pos h1, if_neg h5, if_pos (by show 2 ≤ t + 1 + 1; omega)]
    rfl
  refine ⟨upd s2 t (ljoin op (s2 t) (s2 (t + 1))), e.trans e2, ?_, fun i hi => ?_⟩
  · show (if t = t then _ else _) = _
    rw [if_pos rfl, b3 t (by omega), a2, b2, hV]
  · show (if i = t then _ else s2 i) = _
    rw [if_neg (by omega), b3 i (by omega), a3 i hi]
theorem PSH_n {k : Nat} {Z : List Int32} {V : V4} (h : PSH k Z V) : PSH k (Z ++ [-5]) (fun a b c e => if V a b c e = 0 then 1 else 0) := by
  intro x y z t stk ht
  obtain ⟨s1, a1, a2, a3⟩ := h x y z t stk ht
  have e : lsL x y z (Z ++ [-5]) (t, stk) = lstep x y z (-5) (t + 1, s1) := by
    unfold lsL at *
    rw [List.foldl_append, a1]
    rfl
  have e2 : lstep x y z (-5) (t + 1, s1) = (t + 1, upd s1 t (if s1 t = 0 then 1 else 0)) := by
    unfold lstep
    rw [if_pos (by decide), if_pos rfl, if_pos (by show 1 ≤ t + 1; omega)]
    rfl
  refine ⟨upd s1 t (if s1 t = 0 then 1 else 0), e.trans e2, ?_, fun i hi => ?_⟩
  · show (if t = t then _ else _) = _
    rw [if_pos rfl, a2]
  · show (if i = t then _ else s1 i) = _
    rw [if_neg (by omega), a3 i hi]
theorem PSH_l {k : Nat} {s : Int32} {V : V4} (hk : 1 ≤ k) (h : ¬ s < -4) (hv : ∀ x y z : Int32, (if s < 0 then lfact s x y z else s) = V (x - x / 24 * 24) (x / 24) y z) : PSH k [s] V := by
  intro x y z t stk ht
  have e2 : lstep x y z s (t, stk) = (t + 1, upd stk t (if s < 0 then lfact s x y z else s)) := by
    unfold lstep
    rw [if_neg h, if_pos (by show t < 32; omega)]
  refine ⟨_, e2, ?_, fun i hi => ?_⟩
  · show (if t = t then _ else _) = _
    rw [if_pos rfl, hv]
  · show (if i = t then _ else stk i) = _
    rw [if_neg (by omega)]
/-! both sides together -/
def SPart (m : Nat) (Y Z : List Int32) : Prop := ∃ V, MPart m Y V ∧ PSH (4 * m) Z V
def SProd (m : Nat) (Y Z : List Int32) : Prop := ∃ V, MProd m Y V ∧ PSH (4 * m + 1) Z V
def SSum (m : Nat) (Y Z : List Int32) : Prop := ∃ V, MSum m Y V ∧ PSH (4 * m + 2) Z V
def STest (m : Nat) (Y Z : List Int32) : Prop := ∃ V, MTest m Y V ∧ PSH (4 * m + 3) Z V
def SChoice (m : Nat) (Y Z : List Int32) : Prop := ∃ V, MChoice m Y V ∧ PSH (4 * m + 4) Z V
theorem SProd_b {m : Nat} {Y Z : List Int32} (h : SPart m Y Z) : SProd m Y Z := by
  obtain ⟨V, a, b⟩ := h
  exact ⟨V, MProd_b a, PSH_m b (by omega)⟩
theorem SSum_b {m : Nat} {Y Z : List Int32} (h : SProd m Y Z) : SSum m Y Z := by
  obtain ⟨V, a, b⟩ := h
  exact ⟨V, MSum_b a, PSH_m b (by omega)⟩
theorem STest_b {m : Nat} {Y Z : List Int32} (h : SSum m Y Z) : STest m Y Z := by
  obtain ⟨V, a, b⟩ := h
  exact ⟨V, MTest_b a, PSH_m b (by omega)⟩
theorem SChoice_b {m : Nat} {Y Z : List Int32} (h : STest m Y Z) : SChoice m Y Z := by
  obtain ⟨V, a, b⟩ := h
  exact ⟨V, MChoice_b a, PSH_m b (by omega)⟩
theorem SProd_s {m : Nat} {Y Z Y2 Z2 : List Int32} (h : SProd m Y Z) (k : SPart m Y2 Z2) : SProd m (Y ++ 22 :: Y2) (Z ++ Z2 ++ [-12]) := by
  obtain ⟨V, a, b⟩ := h
  obtain ⟨V2, a2, b2⟩ := k
  exact ⟨_, MProd_s a a2, PSH_j (by decide) (by decide) b b2 (fun _ _ _ _ => rfl)⟩
theorem SSum_s {m : Nat} {Y Z Y2 Z2 : List Int32} {c op : Int32} (hc : (c = 20 ∧ op = -10) ∨ (c = 21 ∧ op = -11)) (h : SSum m Y Z) (k : SProd m Y2 Z2) : SSum m (Y ++ c :: Y2) (Z ++ Z2 ++ [op]) := by
  obtain ⟨V, a, b⟩ := h
  obtain ⟨V2, a2, b2⟩ := k
  rcases hc with ⟨rfl, rfl⟩ | ⟨rfl, rfl⟩
  · exact ⟨_, MSum_s (Or.inl rfl) a a2, PSH_j (by decide) (by decide) b b2 (fun _ _ _ _ => rfl)⟩
  · exact ⟨_, MSum_s (Or.inr rfl) a a2, PSH_j (by decide) (by decide) b b2 (fun _ _ _ _ => rfl)⟩
theorem STest_s {m : Nat} {Y Z Y2 Z2 : List Int32} {c op : Int32} (hc : (c = 24 ∧ op = -8) ∨ (c = 25 ∧ op = -9)) (h : SSum m Y Z) (k : SSum m Y2 Z2) : STest m (Y ++ c :: Y2) (Z ++ Z2 ++ [op]) := by
  obtain ⟨V, a, b⟩ := h
  obtain ⟨V2, a2, b2⟩ := k
  rcases hc with ⟨rfl, rfl⟩ | ⟨rfl, rfl⟩
  · exact ⟨_, MTest_s (Or.inl rfl) a a2, PSH_j (by decide) (by decide) (PSH_m b (by omega)) b2 (fun _ _ _ _ => rfl)⟩
  · exact ⟨_, MTest_s (Or.inr rfl) a a2, PSH_j (by decide) (by decide) (PSH_m b (by omega)) b2 (fun _ _ _ _ => rfl)⟩
theorem SChoice_s {m : Nat} {Y Z Y2 Z2 : List Int32} {c op : Int32} (hc : (c = 26 ∧ op = -6) ∨ (c = 27 ∧ op = -7)) (h : SChoice m Y Z) (k : STest m Y2 Z2) : SChoice m (Y ++ c :: Y2) (Z ++ Z2 ++ [op]) := by
  obtain ⟨V, a, b⟩ := h
  obtain ⟨V2, a2, b2⟩ := k
  rcases hc with ⟨rfl, rfl⟩ | ⟨rfl, rfl⟩
  · exact ⟨_, MChoice_s (Or.inl rfl) a a2, PSH_j (by decide) (by decide) b b2 (fun _ _ _ _ => rfl)⟩
  · exact ⟨_, MChoice_s (Or.inr rfl) a a2, PSH_j (by decide) (by decide) b b2 (fun _ _ _ _ => rfl)⟩
theorem SPart_b {m : Nat} {Y Z : List Int32} (h : SChoice m Y Z) : SPart (m + 1) (28 :: (Y ++ [29])) Z := by
  obtain ⟨V, a, b⟩ := h
  exact ⟨V, MPart_b a, PSH_m b (by omega)⟩
theorem SPart_n {m : Nat} {Y Z : List Int32} (h : SPart m Y Z) : SPart (m + 1) (30 :: Y) (Z ++ [-5]) := by
  obtain ⟨V, a, b⟩ := h
  exact ⟨_, MPart_n a, PSH_n (PSH_m b (by omega))⟩
theorem SPart_f {m : Nat} {c s : Int32} (h : (c = 1 ∧ s = -1) ∨ (c = 2 ∧ s = -2) ∨ (c = 3 ∧ s = -3) ∨ (c = 4 ∧ s = -4)) : SPart (m + 1) [c] [s] := by
  rcases h with ⟨rfl, rfl⟩ | ⟨rfl, rfl⟩ | ⟨rfl, rfl⟩ | ⟨rfl, rfl⟩
  · exact ⟨fun a _ _ _ => a, MPart_l (by decide) (by decide) (fun f => rfl), PSH_l (by omega) (by decide) (fun x y z => rfl)⟩
  · exact ⟨fun _ a _ _ => a, MPart_l (by decide) (by decide) (fun f => rfl), PSH_l (by omega) (by decide) (fun x y z => rfl)⟩
  · exact ⟨fun _ _ a _ => a, MPart_l (by decide) (by decide) (fun f => rfl), PSH_l (by omega) (by decide) (fun x y z => rfl)⟩
  · exact ⟨fun _ _ _ a => a, MPart_l (by decide) (by decide) (fun f => rfl), PSH_l (by omega) (by decide) (fun x y z => rfl)⟩
theorem SPart_d {m v : Nat} (h : v ≤ 9999) : SPart (m + 1) [nI (100 + v)] [nI v] := by
  have h1 : ¬ nI (100 + v) < 100 := Int32.not_lt.mpr (nI_le (a := 100) (b := 100 + v) (by omega) (by omega))
  have h0 : ¬ nI v < 0 := Int32.not_lt.mpr (nI_le (a := 0) (b := v) (by omega) (by omega))
  refine ⟨fun _ _ _ _ => nI v, MPart_l (Or.inr (Int32.not_lt.mp h1)) (nI_le (a := 0) (b := 100 + v) (by omega) (by omega)) (fun f => ?_), PSH_l (by omega) (fun z => h0 (Int32.lt_trans z (by decide))) (fun x y z => by rw [if_neg h0])⟩
  unfold wkV
  rw [if_neg h1]
  show nI (100 + v) - nI 100 = nI v
  rw [← nI_add, Int32.add_comm, Int32.add_sub_cancel]
