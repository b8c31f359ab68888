/-! THE SAME ANSWERS: feast, set by set -/
theorem gD_top {c : Nat → Int32} {H g : Nat} (hg : g < 2 ^ H) (hH : H ≤ 8) : (∀ a, H ≤ a → a < 8 → gD c (nI g) a = 0) ∧ fb_sm (gD c (nI g)) 8 = fb_sm (gD c (nI g)) H ∧ (gV c (nI g) H → gV c (nI g) 8) := by
  have z : ∀ a, H ≤ a → a < 8 → gD c (nI g) a = 0 := fun a h1 h2 => gD_out (by
    cases t : tb (nI g) a with
    | false => rfl
    | true => exact absurd (g_lt hg hH (by omega) t) (by omega))
  refine ⟨z, ?_, fun v a ha => ?_⟩
  · have e := fb_sm_split (gD c (nI g)) H (8 - H)
    have e2 : fb_sm (fun k => gD c (nI g) (H + k)) (8 - H) = fb_sm (fun _ => 0) (8 - H) := fb_sm_cong (fun k hk => z (H + k) (by omega) (by omega))
    rw [show H + (8 - H) = 8 from by omega, e2, fb_sm_const, Nat.mul_zero, Nat.add_zero] at e
    exact e
  · by_cases q : a < H
    · exact v a q
    · rw [z a (by omega) ha]; omega
def fsI (c : Nat → Int32) (cl : Int32) (p q : Int32 × Int32) (n : Nat) : Prop := ∃ B M : Nat, B < 256 ∧ M ≤ 4 ∧ p = (nI B, nI M) ∧ q = (nI B, nI M) ∧ fb_ct (tb (nI B)) 8 = 2 * M ∧ pnV c (nI B) = nI M ∧ ∀ g, g < n + 1 → nI g &&& cl = 0 → gV c (nI g) 8 → upS (gE c (nI g)) 8 ≤ M
theorem fsI_0 {c : Nat → Int32} (h : symM c) (cl : Int32) : fsI c cl (0, 0) (0, 0) 0 := by
  have z : ∀ a, a < 8 → gD c (nI 0) a = 0 := fun a _ => gD_out (tb_0 a)
  have v : gV c (nI 0) 8 := fun a ha => by rw [z a ha]; omega
  have s : fb_sm (gD c (nI 0)) 8 = fb_sm (fun _ => 0) 8 := fb_sm_cong (fun a ha => z a ha)
  rw [fb_sm_const, gE_up h] at s
  have s : upS (gE c (nI 0)) 8 = 0 := by omega
  refine ⟨0, 0, by decide, by decide, rfl, rfl, fb_ct_zero.mpr (fun b _ => tb_0 b), ?_, fun g hg _ _ => ?_⟩
  · rw [(pnV_e h (nI 0)).1 v, s]
  · rw [show g = 0 from by omega, s]
    exact Nat.le_refl _
theorem fs_step {f : Nat → Nat → Int32} {C R H : Nat} {V : Int32 → Int32} {G : Int32 → Int32 → Int32 → Int32} {x : Int32} {c : Nat → Int32} (h : symM c) (hH : H ≤ 8) (e67 : f 67 137 = f 21 11) (hm : ∀ g, g < 2 ^ H → nI g &&& f 21 11 = 0 → ∀ a, a < H → set8 (fsM f C R H V G x g a) ∧ ∀ b, b < 8 → tb (fsM f C R H V G x g a) b = (tb (nI g) a && (tb (nI g) b && tb (c a) b))) {n : Nat} (hn : n + 1 < 2 ^ H) {p q : Int32 × Int32} (hi : fsI c (f 21 11) p q n) : fsI c (f 21 11) (bgS c (((1 <<< (nI H &&& 31)) - 1) &&& (f 21 11 ^^^ (-1))) n p) (fsS f C R H V G x (n + 1) q) (n + 1) := by
  obtain ⟨B, M, b8, m4, rfl, rfl, bM, pB, all⟩ := hi
  have p8 : 2 ^ H ≤ 2 ^ 8 := Nat.pow_le_pow_right (by decide) hH
  have g8 : n + 1 < 256 := by omega
  have neg : (-1 : Int32) ≤ nI M := Int32.le_trans (show (-1 : Int32) ≤ 0 by decide) (nI_pos' (by omega))
  have go := g_open hn hH (f 21 11)
  unfold bgS fsS
  rw [e67]
  by_cases o : nI (n + 1) &&& f 21 11 = 0
  · rw [if_pos (go.mpr o), if_pos o]
    obtain ⟨t1, t2, t3⟩ := gD_top (c := c) hn hH
    obtain ⟨k1, k2, k3⟩ := fsN_e (m := c) (m2 := fsM f C R H V G x (n + 1)) (g := nI (n + 1)) H hH (fun a ha => hm (n + 1) hn o a ha)
    by_cases v : gV c (nI (n + 1)) 8
    · rw [(pnV_e h _).1 v, k2 (fun a ha => v a (by omega)), if_neg (show ¬ (1 : Int32) = 0 by decide), k1, ← t2, gE_up h]
      have u := gE_up h (nI (n + 1))
      have le := gD_ct v
      have le8 := fb_ct_le (tb (nI (n + 1))) 8
      have fi := fun hM => g_first h (M := M) g8 o v hM (fun k hk => all k hk)
      have pv := (pnV_e h (nI (n + 1))).1 v
      generalize hcn : upS (gE c (nI (n + 1))) 8 = cn at *
      rw [show (2 : Int32) = nI 2 from rfl, pk_div (show 2 * cn < 2 ^ 31 by omega) (by decide) (by decide), show 2 * cn / 2 = cn from by omega]
      have nx : ∀ M2 : Nat, M ≤ M2 → cn ≤ M2 → ∀ g, g < n + 1 + 1 → nI g &&& f 21 11 = 0 → gV c (nI g) 8 → upS (gE c (nI g)) 8 ≤ M2 := fun M2 h1 h2 g hg og vg => by
        by_cases y : g = n + 1
        · rw [y, hcn]; exact h2
        · exact Nat.le_trans (all g (by omega) og vg) h1
      by_cases c1 : cn < M
      · rw [if_pos (show nI cn ≤ nI M from nI_le (by omega) (by omega)), if_pos (show nI cn < nI M from nI_lt c1 (by omega))]
        exact ⟨B, M, b8, m4, rfl, rfl, bM, pB, nx M (Nat.le_refl _) (by omega)⟩
      rw [if_neg (show ¬ nI cn < nI M from nI_nlt (by omega) (by omega))]
      by_cases c2 : cn = M
      · rw [if_pos (show nI cn ≤ nI M from nI_le (by omega) (by omega)), if_pos (show nI cn = nI M from by rw [c2]), bts_g g8, bts_g b8, if_neg (nI_nlt (by omega) (by omega))]
        exact ⟨B, M, b8, m4, rfl, rfl, bM, pB, nx M (Nat.le_refl _) (by omega)⟩
      · rw [if_neg (Int32.not_le.mpr (show nI M < nI cn from nI_lt (by omega) (by omega))), if_neg (fun y => c2 ((nI_eq (by omega) (by omega)).mp y))]
        exact ⟨n + 1, cn, g8, by omega, rfl, rfl, fi (by omega), pv, nx cn (by omega) (Nat.le_refl _)⟩
    · rw [(pnV_e h _).2 v, if_pos neg, k3 (fun y => v (t3 y)), if_pos rfl]
      refine ⟨B, M, b8, m4, rfl, rfl, bM, pB, fun g hg og vg => ?_⟩
      by_cases y : g = n + 1
      · rw [y] at vg; exact absurd vg v
      · exact all g (by omega) og vg
  · rw [if_neg (fun y => o (go.mp y)), if_neg o, if_pos neg]
    refine ⟨B, M, b8, m4, rfl, rfl, bM, pB, fun g hg og vg => ?_⟩
    by_cases y : g = n + 1
    · rw [y] at og; exact absurd og o
    · exact all g (by omega) og vg
theorem fs_all {f : Nat → Nat → Int32} {C R H : Nat} {V : Int32 → Int32} {G : Int32 → Int32 → Int32 → Int32} {x : Int32} {c : Nat → Int32} (h : symM c) (hH : H ≤ 8) (e67 : f 67 137 = f 21 11) (hm : ∀ g, g < 2 ^ H → nI g &&& f 21 11 = 0 → ∀ a, a < H → set8 (fsM f C R H V G x g a) ∧ ∀ b, b < 8 → tb (fsM f C R H V G x g a) b = (tb (nI g) a && (tb (nI g) b && tb (c a) b))) : ∀ n, n < 2 ^ H → fsI c (f 21 11) (bgN c (((1 <<< (nI H &&& 31)) - 1) &&& (f 21 11 ^^^ (-1))) n) (fsQ f C R H V G x n) n := by
  intro n
  induction n with
  | zero =>
    intro _
    rw [bgN, fsQ]
    exact fsI_0 h _
  | succ n ih =>
    intro hn
    rw [bgN, fsQ]
    exact fs_step h hH e67 hm hn (ih (by omega))
theorem bg_more {f : Nat → Nat → Int32} {H : Nat} {c : Nat → Int32} (hH : H ≤ 8) {B M : Nat} (m4 : M ≤ 4) (e : bgN c (((1 <<< (nI H &&& 31)) - 1) &&& (f 21 11 ^^^ (-1))) (2 ^ H - 1) = (nI B, nI M)) : ∀ k, 2 ^ H - 1 + k ≤ 255 → bgN c (((1 <<< (nI H &&& 31)) - 1) &&& (f 21 11 ^^^ (-1))) (2 ^ H - 1 + k) = (nI B, nI M) := by
  intro k
  induction k with
  | zero => intro _; exact e
  | succ k ih =>
    intro hk
    have q : 1 ≤ 2 ^ H := Nat.one_le_two_pow
    rw [show 2 ^ H - 1 + (k + 1) = (2 ^ H - 1 + k) + 1 from by omega, bgN, ih (by omega)]
    unfold bgS
    rw [if_neg (g_shut (by omega) (by omega) hH (f 21 11)), if_pos (Int32.le_trans (show (-1 : Int32) ≤ 0 by decide) (nI_pos' (show M < 2 ^ 31 by omega)))]
theorem an_feast {f : Nat → Nat → Int32} {s C R H K U N : Nat} {V : Int32 → Int32} {F G : Int32 → Int32 → Int32 → Int32} (h : SRn f s 0 C R H K U) (k : LR f 21 (f 67) H N) (hF : ∀ x y z, F x y z = V x) (b v : Int32) : feastV f s C R H F G b v = if (if b < 0 then 0 else if 23 < b then 0 else 1 : Int32) = 0 then -1 else if (if v < 0 then 0 else if 1 < v then 0 else 1 : Int32) = 0 then -1 else (if v = 0 then (fsQ f C R H V G (f 67 138 + b) (2 ^ H - 1)).2 else (fsQ f C R H V G (f 67 138 + b) (2 ^ H - 1)).1) := by
  have hH := h.1.2.2.1
  unfold feastV
  by_cases b0 : b < 0
  · rw [if_pos b0, if_pos b0, if_pos rfl]
  rw [if_neg b0, if_neg b0]
  by_cases b1 : 23 < b
  · rw [if_pos b1, if_pos rfl, if_pos (show (24 : Int32) ≤ b from Int32.le_iff_toInt_le.mpr (show (24 : Int) ≤ b.toInt from by have u : (23 : Int) < b.toInt := Int32.lt_iff_toInt_lt.mp b1; omega))]
  rw [if_neg b1, if_neg (show ¬ (1 : Int32) = 0 by decide), if_neg (fun y => b1 (Int32.lt_of_lt_of_le (show (23 : Int32) < 24 by decide) y))]
  by_cases v0 : v < 0
  · rw [if_pos v0, if_pos v0, if_pos rfl]
  rw [if_neg v0, if_neg v0]
  by_cases v1 : 1 < v
  · rw [if_neg (Int32.not_le.mpr v1), if_pos v1, if_pos rfl]
  rw [if_pos (Int32.not_lt.mp v1), if_neg v1, if_neg (show ¬ (1 : Int32) = 0 by decide), LR_hour k, cyv_e hF]
  have sy := cset_sym (yv := yvO V (f 21 8 + b)) (G := G) (hour := f 21 8 + b) (burn := (((1 <<< (nI H &&& 31)) - 1) &&& (f 21 11 ^^^ (-1)))) h
  have q1 : 1 ≤ 2 ^ H := Nat.one_le_two_pow
  have p8 : 2 ^ H ≤ 2 ^ 8 := Nat.pow_le_pow_right (by decide) hH
  have hm : ∀ g, g < 2 ^ H → nI g &&& f 21 11 = 0 → ∀ a, a < H → set8 (fsM f C R H V G (f 21 8 + b) g a) ∧ ∀ t, t < 8 → tb (fsM f C R H V G (f 21 8 + b) g a) t = (tb (nI g) a && (tb (nI g) t && tb (cset f s C R (yvO V (f 21 8 + b)) G (f 21 8 + b) (((1 <<< (nI H &&& 31)) - 1) &&& (f 21 11 ^^^ (-1))) H a) t)) := fun g hg o a ha => by
    have bt : ∀ i, i < 32 → tb (nI g &&& (f 21 11 ^^^ (-1))) i = tb (nI g) i := fun i hi => by
      rw [tb_and, tb_not _ hi]
      cases t : tb (nI g) i with
      | false => rfl
      | true => rw [and_0.mp o i hi t]; rfl
    unfold fsM
    rw [k.2.2.1.2]
    refine ⟨mset_8 _ _ _ _ _ _ _ hH ha, fun t ht => ?_⟩
    rw [cset_m h ha, mset_sub f C R (yvO V (f 21 8 + b)) G (f 21 8 + b) (op := (((1 <<< (nI H &&& 31)) - 1) &&& (f 21 11 ^^^ (-1)))) hH ha ht (fun i hi u => by
      rw [bt i (by omega)] at u
      rw [op_tb hH _ (by omega), decide_eq_true (g_lt hg hH (by omega) u), and_0.mp o i (by omega) u]
      rfl), bt a (by omega), bt t (by omega)]
  have A := fs_all sy hH k.2.2.1.2 hm (2 ^ H - 1) (by omega)
  generalize cset f s C R (yvO V (f 21 8 + b)) G (f 21 8 + b) (((1 <<< (nI H &&& 31)) - 1) &&& (f 21 11 ^^^ (-1))) H = c at *
  obtain ⟨B, M, b8, m4, e1, e2, -, pB, -⟩ := A
  have e3 := bg_more hH m4 e1 (255 - (2 ^ H - 1)) (by omega)
  rw [show 2 ^ H - 1 + (255 - (2 ^ H - 1)) = 255 from by omega] at e3
  rw [e2, e3, pB]
