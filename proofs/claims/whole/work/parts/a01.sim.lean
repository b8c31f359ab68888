/-! THE MODEL'S READING OF A LAW FOLLOWS THE OBJECT'S, step by step -/
def adL (Z : List Int32) (X : Nat × (Nat → Int32)) : Nat × (Nat → Int32) := Z.foldl (fun X x => adS x X) X
theorem adL_a (Z Z2 : List Int32) (X : Nat × (Nat → Int32)) : adL (Z ++ Z2) X = adL Z2 (adL Z X) := by unfold adL; rw [List.foldl_append]
def pd (op : Nat → Int32) : Nat → Nat
  | 0 => 0
  | d + 1 => if op (d + 1) = 1 then pd op d else d + 1
theorem pd_c {op op2 : Nat → Int32} : ∀ d, (∀ i, i ≤ d → op2 i = op i) → pd op2 d = pd op d
  | 0, _ => rfl
  | d + 1, h => by
    show (if op2 (d + 1) = 1 then pd op2 d else d + 1) = (if op (d + 1) = 1 then pd op d else d + 1)
    rw [h _ (Nat.le_refl _), pd_c d (fun i hi => h i (by omega))]
abbrev aHt : Type := Nat → Nat → Bool → (Nat → Int32) → (Nat → Int32) → List Int32 → Prop
def lfc (T : Nat → Int32) (n L s p : Nat) : Int32 := if tC T n p = 2 then 100 + numV T (tBeg T n p) (tLen T n p) else 0 - fctS T n L s (.inl p)
def flA (T : Nat → Int32) (n : Nat) (k : Int32) (p : Nat) : Int32 := k + 16 * nI (tBeg T n p)
def isO (T : Nat → Int32) (n L s p : Nat) : Prop := tC T n p = 2 ∨ tC T n p = 40 ∨ tW T n p = some 1000013 ∨ ¬ fctS T n L s (.inl p) = 0
def noO (T : Nat → Int32) (n p d : Nat) (cm : Nat → Int32) : Prop := (tC T n p ≠ 42 ∧ tC T n p ≠ 43 ∧ tC T n p ≠ 45) ∧ (cm d = 0 → tC T n p ≠ 60 ∧ tC T n p ≠ 61) ∧ (tW T n p ≠ some 1000014 ∧ tW T n p ≠ some 1000015)
def AU (T : Nat → Int32) (n L s : Nat) (H : aHt) (PE : Int32 → Prop) : Prop :=
  (∀ p d op cm Y, ¬ isO T n L s p → PE (flA T n 1 p) → H p d true op cm Y) ∧
  (∀ p op cm Y, isO T n L s p → PE (flA T n 5 p) → H p 5 true op cm Y) ∧
  (∀ p d op cm Y, d < 5 → tC T n p = 40 → H (tEnd T n p) (d + 1) true (upd op (d + 1) 2) (upd cm (d + 1) 0) (Y ++ [28]) → H p d true op cm Y) ∧
  (∀ p d op cm Y, d < 5 → tW T n p = some 1000013 → H (tEnd T n p) (d + 1) true (upd op (d + 1) 1) (upd cm (d + 1) 0) (Y ++ [30]) → H p d true op cm Y) ∧
  (∀ p d op cm Y, d < 5 → isO T n L s p → ¬ tC T n p = 40 → ¬ tW T n p = some 1000013 → H (tEnd T n p) (pd op d) false op cm (Y ++ [lfc T n L s p]) → H p d true op cm Y) ∧
  (∀ p d op cm Y (c k : Int32), ((c = 43 ∧ k = 20) ∨ (c = 45 ∧ k = 21) ∨ (c = 42 ∧ k = 22)) → tC T n p = c → H (tEnd T n p) d true op cm (Y ++ [k]) → H p d false op cm Y) ∧
  (∀ p d op cm Y (c k : Int32), ((c = 60 ∧ k = 24) ∨ (c = 61 ∧ k = 25)) → tC T n p = c → cm d = 0 → H (tEnd T n p) d true op (upd cm d 1) (Y ++ [k]) → H p d false op cm Y) ∧
  (∀ p d op cm Y (a : Nat) (k : Int32), ((a = 1000014 ∧ k = 26) ∨ (a = 1000015 ∧ k = 27)) → tW T n p = some a → H (tEnd T n p) d true op (upd cm d 0) (Y ++ [k]) → H p d false op cm Y) ∧
  (∀ p d op cm Y, tC T n p = 41 → H (tEnd T n p) (pd op d) false op cm (Y ++ [29]) → H p (d + 1) false op cm Y) ∧
  (∀ p d op cm Y, noO T n p d cm → (tC T n p = 41 → d = 0) → (tC T n p = 59 → d ≠ 0) → PE (flA T n 1 p) → H p d false op cm Y)
def SIM (n : Nat) (H : aHt) (PE : Int32 → Prop) (fn : rQt → rQt) (d : Nat) (de : (Nat → Int32) → Nat) (C : (Nat → Int32) → (Nat → Int32) → Prop) (A : (Nat → Int32) → (Nat → Int32) → (Nat → Int32) → (Nat → Int32) → Prop) (E : Nat → (Nat → Int32) → Prop) (S : List Int32 → List Int32 → Prop) : Prop :=
  ∀ (p : Nat) (op cm : Nat → Int32) (Y : List Int32) (X : Nat × (Nat → Int32)), C op cm → p ≤ n → (∀ k, (fn (.inl p, X)).1 = .inr k → PE k) →
  (∀ (p2 : Nat) (op2 cm2 : Nat → Int32) (Y2 Z2 : List Int32), fn (.inl p, X) = (.inl p2, adL Z2 X) → p < p2 → p2 ≤ n → Z2.length + p ≤ p2 → A op cm op2 cm2 → E p2 cm2 → S Y2 Z2 → H p2 (de op2) false op2 cm2 (Y ++ Y2)) → H p d true op cm Y
def agA (D : Nat) (op cm op2 cm2 : Nat → Int32) : Prop := (∀ i, i ≤ D → op2 i = op i) ∧ ∀ i, i ≤ D → cm2 i = cm i
def agB (D : Nat) (op cm op2 cm2 : Nat → Int32) : Prop := (∀ i, i ≤ D → op2 i = op i) ∧ ∀ i, i < D → cm2 i = cm i
theorem whl_r {b : rQt → Bool} {f : rQt → rQt} (hb : ∀ j X, b (.inr j, X) = false) : ∀ (m : Nat) (q : rQt) (j : Int32), q.1 = .inr j → whl b f m q = q
  | 0, _, _, _ => rfl
  | m + 1, q, j, h => whl_f (by
    obtain ⟨q1, q2⟩ := q
    have h : q1 = .inr j := h
    rw [h, hb]
    exact Bool.false_ne_true)
theorem upd_at (f : Nat → Int32) (i : Nat) (x : Int32) : upd f i x i = x := if_pos rfl
theorem upd_nt (f : Nat → Int32) {i j : Nat} (x : Int32) (h : j ≠ i) : upd f i x j = f j := if_neg h
section SimLoop
variable {T : Nat → Int32} {n D : Nat} {H : aHt} {PE : Int32 → Prop} {fs : rQt → rQt} {b : rQt → Bool} {o : rQt → Int32} {C1 C : (Nat → Int32) → (Nat → Int32) → Prop} {A1 A : (Nat → Int32) → (Nat → Int32) → (Nat → Int32) → (Nat → Int32) → Prop} {E1 E : Nat → (Nat → Int32) → Prop} {S1 S : List Int32 → List Int32 → Prop} {cmf : (Nat → Int32) → (Nat → Int32)} {k : Nat → Int32}
theorem sim_loop (hs : SIM n H PE fs D (fun _ => D) C1 A1 E1 S1) (hb : ∀ p X, b (.inl p, X) = true → tBeg T n p < n) (hbi : ∀ q X X2, b (q, X) = b (q, X2)) (hbr : ∀ j X, b (.inr j, X) = false) (hoi : ∀ q X X2, o (q, X) = o (q, X2))
    (hH : ∀ p op cm Y X, b (.inl p, X) = true → E1 p cm → H (tEnd T n p) D true op (cmf cm) (Y ++ [k p]) → H p D false op cm Y) (hC : ∀ op0 cm0 op cm, C op0 cm0 → A op0 cm0 op cm → C1 op (cmf cm)) (hA : ∀ op0 cm0 op cm op2 cm2, A op0 cm0 op cm → A1 op (cmf cm) op2 cm2 → A op0 cm0 op2 cm2)
    (hS : ∀ p X Y Z Y2 Z2, b (.inl p, X) = true → S Y Z → S1 Y2 Z2 → S (Y ++ k p :: Y2) (Z ++ Z2 ++ [o (.inl p, X)])) {p0 : Nat} {op0 cm0 : Nat → Int32} (hC0 : C op0 cm0) (X : Nat × (Nat → Int32)) (Y : List Int32) :
    ∀ (M p : Nat) (op cm : Nat → Int32) (Y1 Z1 : List Int32), n ≤ p + M → p ≤ n → p0 < p → Z1.length + p0 ≤ p → A op0 cm0 op cm → E1 p cm → S Y1 Z1 →
    (∀ j, (whl b (fun q => qA (o q) (fs (qN T n q))) M (.inl p, adL Z1 X)).1 = .inr j → PE j) →
    (∀ (p2 : Nat) (op2 cm2 : Nat → Int32) (Y2 Z2 : List Int32), whl b (fun q => qA (o q) (fs (qN T n q))) M (.inl p, adL Z1 X) = (.inl p2, adL Z2 X) → p0 < p2 → p2 ≤ n → Z2.length + p0 ≤ p2 → A op0 cm0 op2 cm2 → E1 p2 cm2 → ¬ b (.inl p2, X) = true → S Y2 Z2 → H p2 D false op2 cm2 (Y ++ Y2)) → H p D false op cm (Y ++ Y1) := by
  intro M
  induction M with
  | zero =>
    intro p op cm Y1 Z1 hM hp h0 hz ha he hs1 hE hG
    have hnb : ¬ b (.inl p, X) = true := fun z => by have := hb p X z; have := tBeg_ge T n p; omega
    exact hG p op cm Y1 Z1 rfl h0 hp hz ha he hnb hs1
  | succ M ih =>
    intro p op cm Y1 Z1 hM hp h0 hz ha he hs1 hE hG
    by_cases z : b (.inl p, adL Z1 X) = true
    · rw [whl_t z] at hE hG
      have zX : b (.inl p, X) = true := by rw [hbi _ X (adL Z1 X)]; exact z
      have hlt := hb p X zX
      have h3 := tEnd_lt hlt
      have h4 := tEnd_le (T := T) hp
      have h5 := tBeg_ge T n p
      refine hH p op cm (Y ++ Y1) X zX he ?_
      refine hs (tEnd T n p) op (cmf cm) (Y ++ Y1 ++ [k p]) (adL Z1 X) (hC _ _ _ _ hC0 ha) h4 (fun j hj => ?_) (fun p2 op2 cm2 Y2 Z2 e hp1 hp2 hzz hA1 hE1 hS1 => ?_)
      · have hq : (qA (o (.inl p, adL Z1 X)) (fs (qN T n (.inl p, adL Z1 X)))).1 = .inr j := hj
        refine hE j ?_
        rw [whl_r hbr M _ j hq]
        exact hq
      · have e2 : qA (o (.inl p, adL Z1 X)) (fs (qN T n (.inl p, adL Z1 X))) = (.inl p2, adL (Z1 ++ Z2 ++ [o (.inl p, X)]) X) := by
          have e3 : fs (qN T n (.inl p, adL Z1 X)) = (.inl p2, adL Z2 (adL Z1 X)) := e
          rw [e3, hoi _ _ X, adL_a, adL_a]
          rfl
        rw [e2] at hE hG
        have r := ih p2 op2 cm2 (Y1 ++ k p :: Y2) (Z1 ++ Z2 ++ [o (.inl p, X)]) (by omega) hp2 (by omega) (by simp only [List.length_append, List.length_cons, List.length_nil]; omega) (hA _ _ _ _ _ _ ha hA1) hE1 (hS p X _ _ _ _ zX hs1 hS1) hE hG
        have e4 : Y ++ Y1 ++ [k p] ++ Y2 = Y ++ (Y1 ++ k p :: Y2) := by simp
        rw [e4]
        exact r
    · rw [whl_f z] at hE hG
      exact hG p op cm Y1 Z1 rfl h0 hp hz ha he (by rw [hbi _ X (adL Z1 X)]; exact z) hs1
theorem sim_chain (hn : n ≤ 1000) (hs : SIM n H PE fs D (fun _ => D) C1 A1 E1 S1) (hb : ∀ p X, b (.inl p, X) = true → tBeg T n p < n) (hbi : ∀ q X X2, b (q, X) = b (q, X2)) (hbr : ∀ j X, b (.inr j, X) = false) (hoi : ∀ q X X2, o (q, X) = o (q, X2))
    (hH : ∀ p op cm Y X, b (.inl p, X) = true → E1 p cm → H (tEnd T n p) D true op (cmf cm) (Y ++ [k p]) → H p D false op cm Y) (hC : ∀ op0 cm0 op cm, C op0 cm0 → A op0 cm0 op cm → C1 op (cmf cm)) (hA : ∀ op0 cm0 op cm op2 cm2, A op0 cm0 op cm → A1 op (cmf cm) op2 cm2 → A op0 cm0 op2 cm2)
    (hS : ∀ p X Y Z Y2 Z2, b (.inl p, X) = true → S Y Z → S1 Y2 Z2 → S (Y ++ k p :: Y2) (Z ++ Z2 ++ [o (.inl p, X)])) (hC1 : ∀ op cm, C op cm → C1 op cm) (hA1 : ∀ op cm op2 cm2, A1 op cm op2 cm2 → A op cm op2 cm2) (hS1 : ∀ Y Z, S1 Y Z → S Y Z) (hE1 : ∀ p cm X, E1 p cm → ¬ b (.inl p, X) = true → E p cm) :
    SIM n H PE (fun q => whl b (fun q => qA (o q) (fs (qN T n q))) 1000 (fs q)) D (fun _ => D) C A E S := by
  intro p op cm Y X hc hp hE hG
  refine hs p op cm Y X (hC1 _ _ hc) hp (fun j hj => hE j ?_) (fun p2 op2 cm2 Y2 Z2 e h1 h2 h3 ha he hs2 => ?_)
  · show (whl b _ 1000 (fs (.inl p, X))).1 = _
    rw [whl_r hbr 1000 _ j hj]
    exact hj
  · have hE : ∀ j, (whl b (fun q => qA (o q) (fs (qN T n q))) 1000 (fs (.inl p, X))).1 = .inr j → PE j := hE
    rw [e] at hE
    refine sim_loop hs hb hbi hbr hoi hH hC hA hS (p0 := p) hc X Y 1000 p2 op2 cm2 Y2 Z2 (by omega) h2 h1 h3 (hA1 _ _ _ _ ha) he (hS1 _ _ hs2) hE (fun p3 op3 cm3 Y3 Z3 e3 g1 g2 g3 g4 g5 g6 g7 => hG p3 op3 cm3 Y3 Z3 ?_ g1 g2 g3 g4 (hE1 _ _ X g5 g6) g7)
    show whl b _ 1000 (fs (.inl p, X)) = _
    rw [e]
    exact e3
end SimLoop
theorem tC_lt {T : Nat → Int32} {n p : Nat} (h : tC T n p ≠ 0) : tBeg T n p < n := Decidable.byContradiction (fun z => h (by unfold tC; rw [if_neg z]))
theorem tW_lt {T : Nat → Int32} {n p a : Nat} (h : tW T n p = some a) : tBeg T n p < n := tC_lt (by rw [tW_3 h]; decide)
theorem sim_prod {T : Nat → Int32} {n L s D m : Nat} {H : aHt} {PE : Int32 → Prop} (hn : n ≤ 1000) (au : AU T n L s H PE) {pt : rQt → rQt} (hP : SIM n H PE pt D (fun op => pd op D) (fun _ _ => True) (agA D) (fun _ _ => True) (SPart m)) :
    SIM n H PE (cProd T n pt) D (fun _ => D) (fun op _ => pd op D = D) (agA D) (fun p _ => tC T n p ≠ 42) (SProd m) := by
  have hP2 : SIM n H PE pt D (fun _ => D) (fun op _ => pd op D = D) (agA D) (fun _ _ => True) (SPart m) := by
    intro p op cm Y X hc hp hE hG
    refine hP p op cm Y X trivial hp hE (fun p2 op2 cm2 Y2 Z2 e h1 h2 h3 ha he hs => ?_)
    have r := hG p2 op2 cm2 Y2 Z2 e h1 h2 h3 ha he hs
    have e5 : pd op2 D = D := (pd_c D ha.1).trans hc
    show H p2 (pd op2 D) false op2 cm2 (Y ++ Y2)
    rw [e5]
    exact r
  exact sim_chain (T := T) (b := bTim T n) (o := fun _ => -12) (C := fun op _ => pd op D = D) (A := agA D) (cmf := fun cm => cm) (k := fun _ => 22) (E := fun p _ => tC T n p ≠ 42) (S := SProd m) hn hP2
    (fun p X z => tC_lt (by have z := of_decide_eq_true z; rw [show tC T n p = 42 from z]; decide)) (fun q X X2 => rfl) (fun j X => rfl) (fun q X X2 => rfl)
    (fun p op cm Y X z _ h => au.2.2.2.2.2.1 p D op cm Y 42 22 (Or.inr (Or.inr ⟨rfl, rfl⟩)) (of_decide_eq_true z) h) (fun op0 cm0 op cm h0 ha => (pd_c D ha.1).trans h0) (fun op0 cm0 op cm op2 cm2 a c => ⟨fun i hi => (c.1 i hi).trans (a.1 i hi), fun i hi => (c.2 i hi).trans (a.2 i hi)⟩)
    (fun p X Y Z Y2 Z2 z a c => SProd_s a c) (fun _ _ h => h) (fun _ _ _ _ h => h) (fun _ _ h => SProd_b h) (fun p cm X _ z e => z (decide_eq_true e))
theorem sim_sum {T : Nat → Int32} {n L s D m : Nat} {H : aHt} {PE : Int32 → Prop} (hn : n ≤ 1000) (au : AU T n L s H PE) {pt : rQt → rQt} (hP : SIM n H PE (cProd T n pt) D (fun _ => D) (fun op _ => pd op D = D) (agA D) (fun p _ => tC T n p ≠ 42) (SProd m)) :
    SIM n H PE (cSum T n pt) D (fun _ => D) (fun op _ => pd op D = D) (agA D) (fun p _ => tC T n p ≠ 42 ∧ tC T n p ≠ 43 ∧ tC T n p ≠ 45) (SSum m) := by
  exact sim_chain (T := T) (b := bSum T n) (o := fun q => if tkc T n q.1 = 43 then -10 else -11) (C := fun op _ => pd op D = D) (A := agA D) (cmf := fun cm => cm) (k := fun p => if tC T n p = 43 then 20 else 21) (E := fun p _ => tC T n p ≠ 42 ∧ tC T n p ≠ 43 ∧ tC T n p ≠ 45) (S := SSum m) hn hP
    (fun p X z => tC_lt (by have z : tC T n p = 43 ∨ tC T n p = 45 := of_decide_eq_true z; rcases z with z | z <;> rw [z] <;> decide)) (fun q X X2 => rfl) (fun j X => rfl) (fun q X X2 => rfl)
    (fun p op cm Y X z _ h => by
      have z : tC T n p = 43 ∨ tC T n p = 45 := of_decide_eq_true z
      rcases z with z | z
      · rw [if_pos z] at h; exact au.2.2.2.2.2.1 p D op cm Y 43 20 (Or.inl ⟨rfl, rfl⟩) z h
      · rw [if_neg (by rw [z]; decide)] at h; exact au.2.2.2.2.2.1 p D op cm Y 45 21 (Or.inr (Or.inl ⟨rfl, rfl⟩)) z h)
    (fun op0 cm0 op cm h0 ha => (pd_c D ha.1).trans h0) (fun op0 cm0 op cm op2 cm2 a c => ⟨fun i hi => (c.1 i hi).trans (a.1 i hi), fun i hi => (c.2 i hi).trans (a.2 i hi)⟩)
    (fun p X Y Z Y2 Z2 z a c => SSum_s (by
      have z : tC T n p = 43 ∨ tC T n p = 45 := of_decide_eq_true z
      show ((if tC T n p = 43 then 20 else 21) = _ ∧ (if tC T n p = 43 then -10 else -11) = _) ∨ _
      rcases z with z | z
      · rw [if_pos z]; exact Or.inl ⟨rfl, by rw [if_pos z]⟩
      · rw [if_neg (by rw [z]; decide)]; exact Or.inr ⟨rfl, by show (if tC T n p = 43 then (-10 : Int32) else -11) = -11; rw [if_neg (by rw [z]; decide)]⟩) a c)
    (fun _ _ h => h) (fun _ _ _ _ h => h) (fun _ _ h => SSum_b h) (fun p cm X h z => ⟨h, fun e => z (decide_eq_true (Or.inl e)), fun e => z (decide_eq_true (Or.inr e))⟩)
theorem sim_test {T : Nat → Int32} {n L s D m : Nat} {H : aHt} {PE : Int32 → Prop} (au : AU T n L s H PE) {pt : rQt → rQt} (hP : SIM n H PE (cSum T n pt) D (fun _ => D) (fun op _ => pd op D = D) (agA D) (fun p _ => tC T n p ≠ 42 ∧ tC T n p ≠ 43 ∧ tC T n p ≠ 45) (SSum m)) :
    SIM n H PE (cTest T n pt) D (fun _ => D) (fun op cm => pd op D = D ∧ cm D = 0) (agB D) (fun p cm => (tC T n p ≠ 42 ∧ tC T n p ≠ 43 ∧ tC T n p ≠ 45) ∧ (cm D = 0 → tC T n p ≠ 60 ∧ tC T n p ≠ 61)) (STest m) := by
  intro p op cm Y X hc hp hE hG
  refine hP p op cm Y X hc.1 hp (fun j hj => hE j ?_) (fun p2 op2 cm2 Y2 Z2 e h1 h2 h3 ha he hs => ?_)
  · unfold cTest
    rw [hj, if_neg (by show ¬ ((1 : Int32) = 60 ∨ (1 : Int32) = 61); decide)]
    exact hj
  · have hcm : cm2 D = 0 := (ha.2 D (Nat.le_refl _)).trans hc.2
    by_cases z : tC T n p2 = 60 ∨ tC T n p2 = 61
    · have eT : cTest T n pt (.inl p, X) = qA (if tC T n p2 = 60 then -8 else -9) (cSum T n pt (.inl (tEnd T n p2), adL Z2 X)) := by
        unfold cTest
        rw [e]
        exact if_pos z
      rw [eT] at hE hG
      have hlt : tBeg T n p2 < n := tC_lt (by rcases z with z | z <;> rw [z] <;> decide)
      have q3 := tEnd_lt hlt
      have q4 := tEnd_le (T := T) h2
      have q5 := tBeg_ge T n p2
      have step : H (tEnd T n p2) D true op2 (upd cm2 D 1) (Y ++ Y2 ++ [if tC T n p2 = 60 then 24 else 25]) → H p2 D false op2 cm2 (Y ++ Y2) := fun h => by
        rcases z with z | z
        · rw [if_pos z] at h; exact au.2.2.2.2.2.2.1 p2 D op2 cm2 (Y ++ Y2) 60 24 (Or.inl ⟨rfl, rfl⟩) z hcm h
        · rw [if_neg (by rw [z]; decide)] at h; exact au.2.2.2.2.2.2.1 p2 D op2 cm2 (Y ++ Y2) 61 25 (Or.inr ⟨rfl, rfl⟩) z hcm h
      refine step (hP (tEnd T n p2) op2 (upd cm2 D 1) _ (adL Z2 X) ((pd_c D ha.1).trans hc.1) q4 (fun j hj => hE j hj) (fun p3 op3 cm3 Y3 Z3 e3 g1 g2 g3 gA gE gS => ?_))
      have r := hG p3 op3 cm3 (Y2 ++ (if tC T n p2 = 60 then 24 else 25) :: Y3) (Z2 ++ Z3 ++ [if tC T n p2 = 60 then -8 else -9]) (by rw [e3, adL_a, adL_a]; rfl) (by omega) g2 (by simp only [List.length_append, List.length_cons, List.length_nil]; omega)
        ⟨fun i hi => (gA.1 i hi).trans (ha.1 i hi), fun i hi => (gA.2 i (by omega)).trans ((upd_nt cm2 1 (by omega)).trans (ha.2 i (by omega)))⟩ ⟨gE, fun q => absurd q (by rw [gA.2 D (Nat.le_refl _), upd_at]; decide)⟩ (STest_s (by
          rcases z with z | z
          · rw [if_pos z, if_pos z]; exact Or.inl ⟨rfl, rfl⟩
          · rw [if_neg (by rw [z]; decide), if_neg (by rw [z]; decide)]; exact Or.inr ⟨rfl, rfl⟩) hs gS)
      have e4 : Y ++ Y2 ++ [if tC T n p2 = 60 then (24 : Int32) else 25] ++ Y3 = Y ++ (Y2 ++ (if tC T n p2 = 60 then 24 else 25) :: Y3) := by simp
      rw [e4]
      exact r
    · have eT : cTest T n pt (.inl p, X) = cSum T n pt (.inl p, X) := by
        unfold cTest
        rw [e]
        exact if_neg z
      rw [eT] at hG
      exact hG p2 op2 cm2 Y2 Z2 e h1 h2 h3 ⟨ha.1, fun i hi => ha.2 i (by omega)⟩ ⟨he, fun _ => ⟨fun q => z (Or.inl q), fun q => z (Or.inr q)⟩⟩ (STest_b hs)
theorem sim_choice {T : Nat → Int32} {n L s D m : Nat} {H : aHt} {PE : Int32 → Prop} (hn : n ≤ 1000) (au : AU T n L s H PE) {pt : rQt → rQt} (hP : SIM n H PE (cTest T n pt) D (fun _ => D) (fun op cm => pd op D = D ∧ cm D = 0) (agB D) (fun p cm => (tC T n p ≠ 42 ∧ tC T n p ≠ 43 ∧ tC T n p ≠ 45) ∧ (cm D = 0 → tC T n p ≠ 60 ∧ tC T n p ≠ 61)) (STest m)) :
    SIM n H PE (cChoice T n pt) D (fun _ => D) (fun op cm => pd op D = D ∧ cm D = 0) (agB D) (fun p cm => noO T n p D cm) (SChoice m) := by
  exact sim_chain (T := T) (b := bCho T n) (o := fun q => if tkw T n q.1 = some 1000014 then -6 else -7) (C := fun op cm => pd op D = D ∧ cm D = 0) (A := agB D) (cmf := fun cm => upd cm D 0) (k := fun p => if tW T n p = some 1000014 then 26 else 27) (E := fun p cm => noO T n p D cm) (S := SChoice m) hn hP
    (fun p X z => by
      have z : tW T n p = some 1000014 ∨ tW T n p = some 1000015 := of_decide_eq_true z
      rcases z with z | z <;> exact tW_lt z) (fun q X X2 => rfl) (fun j X => rfl) (fun q X X2 => rfl)
    (fun p op cm Y X z _ h => by
      have z : tW T n p = some 1000014 ∨ tW T n p = some 1000015 := of_decide_eq_true z
      rcases z with z | z
      · rw [if_pos z] at h; exact au.2.2.2.2.2.2.2.1 p D op cm Y 1000014 26 (Or.inl ⟨rfl, rfl⟩) z h
      · rw [if_neg (by rw [z]; decide)] at h; exact au.2.2.2.2.2.2.2.1 p D op cm Y 1000015 27 (Or.inr ⟨rfl, rfl⟩) z h)
    (fun op0 cm0 op cm h0 ha => ⟨(pd_c D ha.1).trans h0.1, upd_at _ _ _⟩) (fun op0 cm0 op cm op2 cm2 a c => ⟨fun i hi => (c.1 i hi).trans (a.1 i hi), fun i hi => (c.2 i hi).trans ((upd_nt cm 0 (by omega)).trans (a.2 i hi))⟩)
    (fun p X Y Z Y2 Z2 z a c => SChoice_s (by
      have z : tW T n p = some 1000014 ∨ tW T n p = some 1000015 := of_decide_eq_true z
      show ((if tW T n p = some 1000014 then 26 else 27) = _ ∧ (if tW T n p = some 1000014 then -6 else -7) = _) ∨ _
      rcases z with z | z
      · rw [if_pos z]; exact Or.inl ⟨rfl, by rw [if_pos z]⟩
      · rw [if_neg (by rw [z]; decide)]; exact Or.inr ⟨rfl, by show (if tW T n p = some 1000014 then (-6 : Int32) else -7) = -7; rw [if_neg (by rw [z]; decide)]⟩) a c)
    (fun _ _ h => h) (fun _ _ _ _ h => h) (fun _ _ h => SChoice_b h) (fun p cm X h z => ⟨h.1, h.2, fun e => z (decide_eq_true (Or.inl e)), fun e => z (decide_eq_true (Or.inr e))⟩)
