/-! THE READER'S LAWS, as functions of its state and of the law's steps -/
abbrev rQt : Type := (Nat ⊕ Int32) × (Nat × (Nat → Int32))
def tkc (T : Nat → Int32) (n : Nat) : Nat ⊕ Int32 → Int32
  | .inl p => tC T n p
  | .inr _ => 1
def tkw (T : Nat → Int32) (n : Nat) : Nat ⊕ Int32 → Option Nat
  | .inl p => tW T n p
  | .inr _ => none
def tkn (T : Nat → Int32) (n : Nat) : Nat ⊕ Int32 → Int32
  | .inl p => numV T (tBeg T n p) (tLen T n p)
  | .inr _ => 0
theorem rS_c {w : zW} {T : Nat → Int32} {n : Nat} {q : Nat ⊕ Int32} (h : rS w T n q) : zI w 3 4 = tkc T n q := by
  cases q with
  | inl p => exact h.2.2.2.1
  | inr k => exact h.2.2.1
theorem rS_w {w : zW} {T : Nat → Int32} {n : Nat} {q : Nat ⊕ Int32} (h : rS w T n q) : zR w 3 8 = tkw T n q := by
  cases q with
  | inl p => exact h.2.2.2.2.2.2.1
  | inr k => exact h.2.2.2
theorem rS_n {w : zW} {T : Nat → Int32} {n : Nat} {q : Nat ⊕ Int32} (h : rS w T n q) (h2 : tkc T n q = 2) : zI w 3 6 = tkn T n q := by
  cases q with
  | inl p => exact h.2.2.2.2.1 h2
  | inr k => exact absurd h2 (by show ¬ (1 : Int32) = 2; decide)
theorem tkw_c {T : Nat → Int32} {n : Nat} {q : Nat ⊕ Int32} {a : Nat} (h : tkw T n q = some a) : 1000000 ≤ a ∧ a < 1000019 := by
  cases q with
  | inl p =>
    have h : tW T n p = some a := h
    unfold tW at h
    split at h
    · split at h
      · cases h
      · split at h
        · split at h
          · exact wOf_c h
          · cases h
        · cases h
    · cases h
  | inr k => cases h
theorem zid_t {w : zW} {T : Nat → Int32} {n : Nat} {q : Nat ⊕ Int32} (h : rS w T n q) : zid w (zR w 3 8) := fun o ho => Or.inr (tkw_c ((rS_w h).symm.trans ho))
theorem zid_c {w : zW} {a : Nat} (h1 : 1000000 ≤ a) (h2 : a < 1000019) : zid w (some a) := fun o ho => by obtain rfl := Option.some.inj ho; exact Or.inr ⟨h1, h2⟩
theorem zid_k {w : zW} {a : Nat} {q : Nat × Nat} (h : w.1[a]? = some q) : zid w (some a) := fun o ho => by obtain rfl := Option.some.inj ho; exact Or.inl (List.getElem?_eq_some_iff.mp h).1
def adS (x : Int32) (q : Nat × (Nat → Int32)) : Nat × (Nat → Int32) := if q.1 < 1000 then (q.1 + 1, upd q.2 q.1 x) else q
def rQ (w : zW) (T : Nat → Int32) (n L : Nat) (q : rQt) : Prop := rS w T n q.1 ∧ zI w L 2 = nI q.2.1 ∧ q.2.1 ≤ 1000 ∧ zI w (L + 1) = q.2.2
def rG (L : Nat) (w w1 : zW) : Prop := w1.1 = w.1 ∧ (∀ o, o ≠ 3 → o ≠ L → o ≠ L + 1 → zI w1 o = zI w o) ∧ (∀ k, 10 ≤ k → zI w1 3 k = zI w 3 k) ∧ (∀ o k, ¬ (o = 3 ∧ k = 7) → zL w1 o k = zL w o k) ∧ (∀ o k, ¬ (o = 3 ∧ k = 8) → zR w1 o k = zR w o k)
theorem rG_r (L : Nat) (w : zW) : rG L w w := ⟨rfl, fun _ _ _ _ => rfl, fun _ _ => rfl, fun _ _ _ => rfl, fun _ _ _ => rfl⟩
theorem rG_t {L : Nat} {w w1 w2 : zW} (h : rG L w w1) (k : rG L w1 w2) : rG L w w2 := ⟨k.1.trans h.1, fun o h1 h2 h3 => (k.2.1 o h1 h2 h3).trans (h.2.1 o h1 h2 h3), fun j hj => (k.2.2.1 j hj).trans (h.2.2.1 j hj), fun o j hj => (k.2.2.2.1 o j hj).trans (h.2.2.2.1 o j hj), fun o j hj => (k.2.2.2.2 o j hj).trans (h.2.2.2.2 o j hj)⟩
theorem rG_F {L : Nat} {w w1 : zW} (h : rF w w1) : rG L w w1 := ⟨h.1, fun o h1 _ _ => h.2.1 o h1, h.2.2.1, h.2.2.2.1, h.2.2.2.2⟩
theorem rdK_G {w w1 : zW} {s n L : Nat} {T : Nat → Int32} (h : rdK w s n T) (hL : 3 < L) (k : rG L w w1) : rdK w1 s n T := rdK_mv h k.1 (fun o j q => k.2.2.2.2 o j (fun e => q ⟨e.1, Or.inr e.2⟩)) (k.2.1 1 (by decide) (by omega) (by omega)) (k.2.1 2 (by decide) (by omega) (by omega))
theorem rG_l {w w1 : zW} {L K : Nat} (k : rG L w w1) (h : zR w 3 2 = some K) : zR w1 3 2 = some K := (k.2.2.2.2 3 2 (by decide)).trans h
theorem rQ_F {w w1 : zW} {T : Nat → Int32} {n L : Nat} {q : rQt} {p : Nat ⊕ Int32} (h : rQ w T n L q) (hL : 3 < L) (k : rF w w1) (hp : rS w1 T n p) : rQ w1 T n L (p, q.2) := ⟨hp, (congrFun (k.2.1 L (by omega)) 2).trans h.2.1, h.2.2.1, (k.2.1 (L + 1) (by omega)).trans h.2.2.2⟩
def rLo (s L : Nat) : Prop := L = s + 6 ∨ L = s + 9
theorem rLo_k {w : zW} {s n L : Nat} {T : Nat → Int32} (h : rdK w s n T) (hL : rLo s L) : zLw w L := by
  obtain ⟨_, _, _, _, _, _, a7, _⟩ := h
  rcases hL with rfl | rfl
  · exact a7.2.2.2.2.2.2.2.2.2.2.2.2.2.1
  · exact a7.2.2.2.2.2.2.2.2.2.2.2.2.2.2
theorem rLo_3 {w : zW} {s n L : Nat} {T : Nat → Int32} (h : rdK w s n T) (hL : rLo s L) : 3 < L := by
  have := h.2.2.2.2.2.2.2.1
  unfold rLo at hL
  omega
theorem c_addQ {w : zW} {s n L : Nat} {T : Nat → Int32} (hk : rdK w s n T) (hL : rLo s L) {q : rQt} (hq : rQ w T n L q) (x : Int32) (d : Nat) : zS 0 0 d m_Law_addStep (fun rv w1 => rv = none ∧ rG L w w1 ∧ rQ w1 T n L (q.1, adS x q.2)) 0 [(0, .ref L), (1, .int x)] [] w := by
  have hl := rLo_k hk hL
  have h3 := rLo_3 hk hL
  refine z_mono ?_ (c_Law_addStep hl.1 hl.2.2.2.1 hl.2.1 (by omega) hq.2.1 hq.2.2.1 x d)
  intro r w1 h
  obtain ⟨rfl, rfl⟩ := h
  obtain ⟨c, k, f⟩ := q
  refine ⟨rfl, ?_⟩
  by_cases hn : k < 1000
  · rw [if_pos hn]
    have e0 : ∀ o, o ≠ L → o ≠ L + 1 → zI (zsI (zsI w (L + 1) k x) L 2 (nI (k + 1))) o = zI w o := fun o h1 h2 => (z2_off (z2 (zI w) (L + 1) k x) 2 (nI (k + 1)) h1).trans (z2_off (zI w) k x h2)
    refine ⟨⟨rfl, fun o _ h1 h2 => e0 o h1 h2, fun j _ => congrFun (e0 3 (by omega) (by omega)) j, fun _ _ _ => rfl, fun _ _ _ => rfl⟩, ?_, ?_, ?_, ?_⟩
    · have hs := hq.1
      have e3 := e0 3 (by omega) (by omega)
      cases c with
      | inl p => exact ⟨(congrFun e3 9).trans hs.1, (congrFun e3 3).trans hs.2.1, (congrFun e3 5).trans hs.2.2.1, (congrFun e3 4).trans hs.2.2.2.1, fun q => (congrFun e3 6).trans (hs.2.2.2.2.1 q), hs.2.2.2.2.2⟩
      | inr j => exact ⟨(congrFun e3 9).trans hs.1, hs.2.1, (congrFun e3 4).trans hs.2.2.1, hs.2.2.2⟩
    · show z2 (z2 (zI w) (L + 1) k x) L 2 (nI (k + 1)) L 2 = nI (adS x (k, f)).1
      rw [z2_hit]; unfold adS; rw [if_pos hn]
    · show (adS x (k, f)).1 ≤ 1000
      unfold adS; rw [if_pos hn]; exact hn
    · show z2 (z2 (zI w) (L + 1) k x) L 2 (nI (k + 1)) (L + 1) = (adS x (k, f)).2
      rw [z2_off _ _ _ (by omega), z2_ru]
      unfold adS; rw [if_pos hn]
      rw [show zI w (L + 1) = f from hq.2.2.2]
  · rw [if_neg hn]
    refine ⟨rG_r L w, hq.1, ?_⟩
    unfold adS; rw [if_neg hn]; exact hq.2
def fctO (L M : Nat) (o : Option Nat) : Int32 := if o = some 1000016 then -1 else if o = some 1000017 then -2 else if L = M then (if o = some 1000007 then -3 else if o = some 1000018 then -4 else 0) else 0
def fctS (T : Nat → Int32) (n L s : Nat) (q : Nat ⊕ Int32) : Int32 := fctO L (s + 9) (tkw T n q)
set_option maxRecDepth 100000 in
set_option maxHeartbeats 4000000 in
theorem c_Reader_factTold {w : zW} {s n : Nat} {T : Nat → Int32} (hk : rdK w s n T) {L : Nat} (hL : rLo s L) (hl : zR w 3 2 = some L) (q : Nat ⊕ Int32) (hq : rS w T n q) (d : Nat) : zS 0 0 d m_Reader_factTold (fun rv w1 => rv = some (.int (fctS T n L s q)) ∧ w1 = w) 0 [(0, .ref 3)] [] w := by
  refine z_aload_n (pc := 0) (i := 0) (j := 0) rfl rfl rfl ?_
  refine z_getA (pc := 1) rfl fl_Reader_67 hk.1 rfl ?_
  refine z_gets (pc := 4) (C0 := "SmokeWeds$Word") (n1 := "HOUR") (d1 := "LSmokeWeds$Word;") (v := .ref 1000016) rfl (by decide +kernel) gl_Reader_218 ?_
  refine z_acmp_ne (x := (zR w 3 8)) (y := (some 1000016)) (pc := 7) (tgt := 12) rfl (by decide) (zid_t hq) (zid_c (by decide) (by decide)) (fun h7 => ?_) (fun h7 => ?_)
  · refine z_aload_n (pc := 12) (i := 0) (j := 0) rfl rfl rfl ?_
    refine z_getA (pc := 13) rfl fl_Reader_67 hk.1 rfl ?_
    refine z_gets (pc := 16) (C0 := "SmokeWeds$Word") (n1 := "DAYS") (d1 := "LSmokeWeds$Word;") (v := .ref 1000017) rfl (by decide +kernel) gl_Reader_221 ?_
    refine z_acmp_ne (x := (zR w 3 8)) (y := (some 1000017)) (pc := 19) (tgt := 25) rfl (by decide) (zid_t hq) (zid_c (by decide) (by decide)) (fun h19 => ?_) (fun h19 => ?_)
    · refine z_aload_n (pc := 25) (i := 0) (j := 0) rfl rfl rfl ?_
      refine z_getR (pc := 26) (x := L) rfl fl_Reader_29 hk.1 rfl hl ?_
      refine z_aload_n (pc := 29) (i := 0) (j := 0) rfl rfl rfl ?_
      refine z_getR (pc := 30) (x := s) rfl fl_Reader_21 hk.1 rfl hk.2.2.1 ?_
      refine z_getR (pc := 33) (x := s + 9) rfl fl_Reader_97 hk.2.2.2.2.2.2.1.1 rfl hk.2.2.2.2.2.2.1.2.2.2.2.2.2.2.2.2.2.2.2.1 ?_
      refine z_acmp_eq (x := (some L)) (y := (some (s + 9))) (pc := 36) (tgt := 41) rfl (by decide) (zid_k (rLo_k hk hL).1) (zid_k (hk.2.2.2.2.2.2.1).2.2.2.2.2.2.2.2.2.2.2.2.2.2.1) (fun h36 => ?_) (fun h36 => ?_)
      · refine z_aload_n (pc := 41) (i := 0) (j := 0) rfl rfl rfl ?_
        refine z_getA (pc := 42) rfl fl_Reader_67 hk.1 rfl ?_
        refine z_gets (pc := 45) (C0 := "SmokeWeds$Word") (n1 := "HIGH") (d1 := "LSmokeWeds$Word;") (v := .ref 1000007) rfl (by decide +kernel) gl_Reader_162 ?_
        refine z_acmp_ne (x := (zR w 3 8)) (y := (some 1000007)) (pc := 48) (tgt := 54) rfl (by decide) (zid_t hq) (zid_c (by decide) (by decide)) (fun h48 => ?_) (fun h48 => ?_)
        · refine z_aload_n (pc := 54) (i := 0) (j := 0) rfl rfl rfl ?_
          refine z_getA (pc := 55) rfl fl_Reader_67 hk.1 rfl ?_
          refine z_gets (pc := 58) (C0 := "SmokeWeds$Word") (n1 := "WAY") (d1 := "LSmokeWeds$Word;") (v := .ref 1000018) rfl (by decide +kernel) gl_Reader_224 ?_
          refine z_acmp_ne (x := (zR w 3 8)) (y := (some 1000018)) (pc := 61) (tgt := 69) rfl (by decide) (zid_t hq) (zid_c (by decide) (by decide)) (fun h61 => ?_) (fun h61 => ?_)
          · refine z_iconst (pc := 69) (v := 0) rfl (by decide) ?_
            exact z_iret (pc := 70) rfl rfl ⟨by unfold fctS fctO; rw [← rS_w hq, if_neg h7, if_neg h19, if_pos (Option.some.inj h36), if_neg h48, if_neg h61], rfl⟩
          · refine z_bipush (pc := 64) (v := (-4)) rfl (by decide) ?_
            refine z_goto (pc := 66) (tgt := 70) rfl (by decide) ?_
            exact z_iret (pc := 70) rfl rfl ⟨by unfold fctS fctO; rw [← rS_w hq, if_neg h7, if_neg h19, if_pos (Option.some.inj h36), if_neg h48, if_pos h61], rfl⟩
        · refine z_bipush (pc := 51) (v := (-3)) rfl (by decide) ?_
          exact z_iret (pc := 53) rfl rfl ⟨by unfold fctS fctO; rw [← rS_w hq, if_neg h7, if_neg h19, if_pos (Option.some.inj h36), if_pos h48], rfl⟩
      · refine z_iconst (pc := 39) (v := 0) rfl (by decide) ?_
        exact z_iret (pc := 40) rfl rfl ⟨by unfold fctS fctO; rw [← rS_w hq, if_neg h7, if_neg h19, if_neg (fun e => h36 (congrArg some e))], rfl⟩
    · refine z_bipush (pc := 22) (v := (-2)) rfl (by decide) ?_
      exact z_iret (pc := 24) rfl rfl ⟨by unfold fctS fctO; rw [← rS_w hq, if_neg h7, if_pos h19], rfl⟩
  · refine z_iconst (pc := 10) (v := (-1)) rfl (by decide) ?_
    exact z_iret (pc := 11) rfl rfl ⟨by unfold fctS fctO; rw [← rS_w hq, if_pos h7], rfl⟩
def expS (T : Nat → Int32) (n : Nat) (c : Int32) (q : Nat ⊕ Int32) : Nat ⊕ Int32 := nxt T n (if tkc T n q = c then q else wrg T n 1 q)
theorem c_Reader_wrong1 {w : zW} {s n : Nat} {T : Nat → Int32} (hk : rdK w s n T) (q : Nat ⊕ Int32) (hq : rS w T n q) (d : Nat) (hd : 1 ≤ d) : zS 0 0 d m_Reader_wrong (fun rv w1 => rv = none ∧ rF w w1 ∧ rS w1 T n (wrg T n 1 q)) 0 [(0, .ref 3), (1, .int 1)] [] w := c_Reader_wrong hk q hq (k := 1) (by decide) (by decide) d hd
theorem c_Reader_wrong3 {w : zW} {s n : Nat} {T : Nat → Int32} (hk : rdK w s n T) (q : Nat ⊕ Int32) (hq : rS w T n q) (d : Nat) (hd : 1 ≤ d) : zS 0 0 d m_Reader_wrong (fun rv w1 => rv = none ∧ rF w w1 ∧ rS w1 T n (wrg T n 3 q)) 0 [(0, .ref 3), (1, .int 3)] [] w := c_Reader_wrong hk q hq (k := 3) (by decide) (by decide) d hd
theorem c_Reader_wrong4 {w : zW} {s n : Nat} {T : Nat → Int32} (hk : rdK w s n T) (q : Nat ⊕ Int32) (hq : rS w T n q) (d : Nat) (hd : 1 ≤ d) : zS 0 0 d m_Reader_wrong (fun rv w1 => rv = none ∧ rF w w1 ∧ rS w1 T n (wrg T n 4 q)) 0 [(0, .ref 3), (1, .int 4)] [] w := c_Reader_wrong hk q hq (k := 4) (by decide) (by decide) d hd
theorem c_Reader_wrong5 {w : zW} {s n : Nat} {T : Nat → Int32} (hk : rdK w s n T) (q : Nat ⊕ Int32) (hq : rS w T n q) (d : Nat) (hd : 1 ≤ d) : zS 0 0 d m_Reader_wrong (fun rv w1 => rv = none ∧ rF w w1 ∧ rS w1 T n (wrg T n 5 q)) 0 [(0, .ref 3), (1, .int 5)] [] w := c_Reader_wrong hk q hq (k := 5) (by decide) (by decide) d hd
set_option maxRecDepth 100000 in
set_option maxHeartbeats 4000000 in
theorem c_Reader_expectSign {w : zW} {s n : Nat} {T : Nat → Int32} (hk : rdK w s n T) (q : Nat ⊕ Int32) (hq : rS w T n q) (c : Int32) (d : Nat) (hd : 5 ≤ d) : zS 0 0 d m_Reader_expectSign (fun rv w1 => rv = none ∧ rF w w1 ∧ rS w1 T n (expS T n c q)) 0 [(0, .ref 3), (1, .int c)] [] w := by
  refine z_aload_n (pc := 0) (i := 0) (j := 0) rfl rfl rfl ?_
  refine z_getI (pc := 1) rfl fl_Reader_61 hk.1 rfl ?_
  refine z_eqi (y := tkc T n q) (rS_c hq) ?_
  refine z_iload_n (pc := 4) (i := 1) (j := 1) rfl rfl rfl ?_
  refine z_icmp_eq (pc := 5) (tgt := 13) rfl (by decide) (fun h5 => ?_) (fun h5 => ?_)
  · refine z_aload_n (pc := 13) (i := 0) (j := 0) rfl rfl rfl ?_
    refine z_cV (pc := 14) (mc1 := 0) (ms1 := 0) (mc2 := 0) (ms2 := 0) (as := []) (rest := []) (o := 3) rfl rfl hk.1 ok_Reader_next rfl rfl cl_Reader_58 (by omega) (Nat.le_of_ble_eq_true rfl) (Nat.le_of_ble_eq_true rfl) (Nat.le_refl _) (Nat.le_refl _) (c_Reader_next hk q hq 4 (by decide)) (fun r1 w2 hp => ?_) rfl rfl
    obtain ⟨rfl, hF2, hS2⟩ := hp
    refine ⟨⟨by rw [hF2.1]; exact Nat.le_refl _, Or.inl (by rw [hF2.1])⟩, ?_⟩
    have hk2 := rdK_F hk hF2
    exact z_vret (pc := 17) rfl rfl ⟨rfl, hF2, by unfold expS; rw [if_pos h5]; exact hS2⟩
  · refine z_aload_n (pc := 8) (i := 0) (j := 0) rfl rfl rfl ?_
    refine z_iconst (pc := 9) (v := 1) rfl (by decide) ?_
    refine z_cV (pc := 10) (mc1 := 0) (ms1 := 0) (mc2 := 0) (ms2 := 0) (as := [.int 1]) (rest := []) (o := 3) rfl rfl hk.1 ok_Reader_wrong rfl rfl cl_Reader_122 (by omega) (Nat.le_of_ble_eq_true rfl) (Nat.le_of_ble_eq_true rfl) (Nat.le_refl _) (Nat.le_refl _) (c_Reader_wrong1 hk q hq 1 (by decide)) (fun r1 w1 hp => ?_) rfl rfl
    obtain ⟨rfl, hF1, hS1⟩ := hp
    refine ⟨⟨by rw [hF1.1]; exact Nat.le_refl _, Or.inl (by rw [hF1.1])⟩, ?_⟩
    have hk1 := rdK_F hk hF1
    refine z_aload_n (pc := 13) (i := 0) (j := 0) rfl rfl rfl ?_
    refine z_cV (pc := 14) (mc1 := 0) (ms1 := 0) (mc2 := 0) (ms2 := 0) (as := []) (rest := []) (o := 3) rfl rfl hk1.1 ok_Reader_next rfl rfl cl_Reader_58 (by omega) (Nat.le_of_ble_eq_true rfl) (Nat.le_of_ble_eq_true rfl) (Nat.le_refl _) (Nat.le_refl _) (c_Reader_next hk1 _ hS1 4 (by decide)) (fun r1 w2 hp => ?_) rfl rfl
    obtain ⟨rfl, hF2, hS2⟩ := hp
    refine ⟨⟨by rw [hF2.1]; exact Nat.le_refl _, Or.inl (by rw [hF2.1])⟩, ?_⟩
    have hk2 := rdK_F hk1 hF2
    exact z_vret (pc := 17) rfl rfl ⟨rfl, rF_t hF1 hF2, by unfold expS; rw [if_neg h5]; exact hS2⟩
def whl (b : rQt → Bool) (f : rQt → rQt) : Nat → rQt → rQt
  | 0, q => q
  | m + 1, q => if b q = true then whl b f m (f q) else q
theorem whl_t {b : rQt → Bool} {f : rQt → rQt} {m : Nat} {q : rQt} (h : b q = true) : whl b f (m + 1) q = whl b f m (f q) := if_pos h
theorem whl_f {b : rQt → Bool} {f : rQt → rQt} {m : Nat} {q : rQt} (h : ¬ b q = true) : whl b f (m + 1) q = q := if_neg h
section PZ
variable (T : Nat → Int32) (n : Nat)
def qN (q : rQt) : rQt := (nxt T n q.1, q.2)
def qA (x : Int32) (q : rQt) : rQt := (q.1, adS x q.2)
def qW (k : Int32) (q : rQt) : rQt := (wrg T n k q.1, q.2)
def bTim (q : rQt) : Bool := decide (tkc T n q.1 = 42)
def bSum (q : rQt) : Bool := decide (tkc T n q.1 = 43 ∨ tkc T n q.1 = 45)
def bCho (q : rQt) : Bool := decide (tkw T n q.1 = some 1000014 ∨ tkw T n q.1 = some 1000015)
def cProd (pt : rQt → rQt) (q : rQt) : rQt := whl (bTim T n) (fun q => qA (-12) (pt (qN T n q))) 1000 (pt q)
def cSum (pt : rQt → rQt) (q : rQt) : rQt := whl (bSum T n) (fun q => qA (if tkc T n q.1 = 43 then -10 else -11) (cProd T n pt (qN T n q))) 1000 (cProd T n pt q)
def cTest (pt : rQt → rQt) (q : rQt) : rQt := if tkc T n (cSum T n pt q).1 = 60 ∨ tkc T n (cSum T n pt q).1 = 61 then qA (if tkc T n (cSum T n pt q).1 = 60 then -8 else -9) (cSum T n pt (qN T n (cSum T n pt q))) else cSum T n pt q
def cChoice (pt : rQt → rQt) (q : rQt) : rQt := whl (bCho T n) (fun q => qA (if tkw T n q.1 = some 1000014 then -6 else -7) (cTest T n pt (qN T n q))) 1000 (cTest T n pt q)
def isOp (L s : Nat) (q : rQt) : Bool := decide (tkc T n q.1 = 2 ∨ tkc T n q.1 = 40 ∨ tkw T n q.1 = some 1000013 ∨ ¬ fctS T n L s q.1 = 0)
def cPart (L s : Nat) : Nat → rQt → rQt
  | 0, q => if isOp T n L s q = true then qW T n 5 q else qW T n 1 q
  | m + 1, q => if isOp T n L s q = true then (if tkc T n q.1 = 40 then (expS T n 41 (cChoice T n (cPart L s m) (qN T n q)).1, (cChoice T n (cPart L s m) (qN T n q)).2) else if tkw T n q.1 = some 1000013 then qA (-5) (cPart L s m (qN T n q)) else qN T n (qA (if tkc T n q.1 = 2 then tkn T n q.1 else fctS T n L s q.1) q)) else qW T n 1 q
def RC (s L : Nat) (m : zM) (i d : Nat) (f : rQt → rQt) : Prop := ∀ (w : zW) (q : rQt), rdK w s n T → zR w 3 2 = some L → rQ w T n L q → zS 0 0 d m (fun rv w1 => rv = none ∧ rG L w w1 ∧ rQ w1 T n L (f q)) 0 [(0, .ref 3), (1, .int (nI i))] [] w
end PZ
set_option maxRecDepth 100000 in
set_option maxHeartbeats 4000000 in
theorem l_Reader_readProduct {T : Nat → Int32} {n s L x d : Nat} (hL : rLo s L) {pt : rQt → rQt} (hP : RC T n s L m_Reader_readPart x d pt) : ∀ (m i : Nat) (w : zW) (q : rQt), i + m = 1000 → rdK w s n T → zR w 3 2 = some L → rQ w T n L q → zS 0 0 (d + 5) m_Reader_readProduct (fun rv w1 => rv = none ∧ rG L w w1 ∧ rQ w1 T n L (whl (bTim T n) (fun q => qA (-12) (pt (qN T n q))) m q)) 7 [(0, .ref 3), (1, .int (nI x)), (2, .int (nI i))] [] w := by
  intro m
  induction m with
  | zero =>
    intro i w q him hk hl hQ
    obtain rfl : i = 1000 := by omega
    refine z_iload_n (pc := 7) (i := 2) (j := 2) rfl rfl rfl ?_
    refine z_sipush (pc := 8) (v := 1000) rfl (by decide) ?_
    refine z_icmp_ge (pc := 11) (tgt := 47) rfl (by decide) (fun h11 => ?_) (fun h11 => absurd (by decide) h11)
    exact z_vret (pc := 47) rfl rfl ⟨rfl, rG_r L w, hQ⟩
  | succ m ih =>
    intro i w q him hk hl hQ
    have h3 := rLo_3 hk hL
    · skip
      refine z_iload_n (pc := 7) (i := 2) (j := 2) rfl rfl rfl ?_
      refine z_sipush (pc := 8) (v := 1000) rfl (by decide) ?_
      refine z_icmp_ge (pc := 11) (tgt := 47) rfl (by decide) (fun h11 => ?_) (fun h11 => ?_)
      · exact absurd h11 (nI_ge (b := 1000) (by omega) (by decide))
      · refine z_aload_n (pc := 14) (i := 0) (j := 0) rfl rfl rfl ?_
        refine z_getI (pc := 15) rfl fl_Reader_61 hk.1 rfl ?_
        refine z_eqi (y := tkc T n q.1) (rS_c hQ.1) ?_
        refine z_bipush (pc := 18) (v := 42) rfl (by decide) ?_
        refine z_icmp_ne (pc := 20) (tgt := 47) rfl (by decide) (fun h20 => ?_) (fun h20 => ?_)
        · have e0 : whl (bTim T n) (fun q => qA (-12) (pt (qN T n q))) (m + 1) q = q := whl_f (fun e => h20 (of_decide_eq_true e))
          exact z_vret (pc := 47) rfl rfl ⟨rfl, rG_r L w, by rw [e0]; exact hQ⟩
        · refine z_aload_n (pc := 23) (i := 0) (j := 0) rfl rfl rfl ?_
          refine z_cV (pc := 24) (mc1 := 0) (ms1 := 0) (mc2 := 0) (ms2 := 0) (as := []) (rest := []) (o := 3) rfl rfl hk.1 ok_Reader_next rfl rfl cl_Reader_58 (by omega) (Nat.le_of_ble_eq_true rfl) (Nat.le_of_ble_eq_true rfl) (Nat.le_refl _) (Nat.le_refl _) (c_Reader_next hk _ hQ.1 4 (by decide)) (fun r1 w1 hp => ?_) rfl rfl
          obtain ⟨rfl, hF1, hS1⟩ := hp
          refine ⟨⟨by rw [hF1.1]; exact Nat.le_refl _, Or.inl (by rw [hF1.1])⟩, ?_⟩
          have hQ1 := rQ_F hQ h3 hF1 hS1
          have hG1 : rG L w w1 := rG_F hF1
          have hk1 := rdK_F hk hF1
          have hl1 := rG_l hG1 hl
          refine z_aload_n (pc := 27) (i := 0) (j := 0) rfl rfl rfl ?_
          refine z_iload_n (pc := 28) (i := 1) (j := 1) rfl rfl rfl ?_
          refine z_cV (pc := 29) (mc1 := 0) (ms1 := 0) (mc2 := 0) (ms2 := 0) (as := [.int (nI x)]) (rest := []) (o := 3) rfl rfl hk1.1 ok_Reader_readPart rfl rfl cl_Reader_209 (by omega) (Nat.le_of_ble_eq_true rfl) (Nat.le_of_ble_eq_true rfl) (Nat.le_refl _) (Nat.le_refl _) (hP w1 _ hk1 hl1 hQ1) (fun r1 w2 hp => ?_) rfl rfl
          obtain ⟨rfl, hG2, hQ2⟩ := hp
          refine ⟨⟨by rw [hG2.1]; exact Nat.le_refl _, Or.inl (by rw [hG2.1])⟩, ?_⟩
          have hk2 := rdK_G hk1 h3 hG2
          have hl2 := rG_l hG2 hl1
          refine z_aload_n (pc := 32) (i := 0) (j := 0) rfl rfl rfl ?_
          refine z_getR (pc := 33) (x := L) rfl fl_Reader_29 hk2.1 rfl hl2 ?_
          refine z_bipush (pc := 36) (v := (-12)) rfl (by decide) ?_
          refine z_cV (pc := 38) (mc1 := 0) (ms1 := 0) (mc2 := 0) (ms2 := 0) (as := [.int (-12)]) (rest := []) (o := L) rfl rfl (rLo_k hk2 hL).1 ok_Law_addStep rfl rfl cl_Reader_200 (by omega) (Nat.le_of_ble_eq_true rfl) (Nat.le_of_ble_eq_true rfl) (Nat.le_refl _) (Nat.le_refl _) (c_addQ hk2 hL hQ2 (-12) 1) (fun r1 w3 hp => ?_) rfl rfl
          obtain ⟨rfl, hG3, hQ3⟩ := hp
          refine ⟨⟨by rw [hG3.1]; exact Nat.le_refl _, Or.inl (by rw [hG3.1])⟩, ?_⟩
          have hk3 := rdK_G hk2 h3 hG3
          have hl3 := rG_l hG3 hl2
          refine z_iinc (pc := 41) (i := 2) (j := 2) (v := nI (i + 1)) (ls' := [(0, .ref 3), (1, .int (nI x)), (2, .int (nI (i + 1)))]) rfl rfl (nI_1 i) (by decide) rfl ?_
          refine z_goto (pc := 44) (tgt := 7) rfl (by decide) ?_
          have e0 : whl (bTim T n) (fun q => qA (-12) (pt (qN T n q))) (m + 1) q = whl (bTim T n) (fun q => qA (-12) (pt (qN T n q))) m ((fun q => qA (-12) (pt (qN T n q))) q) := whl_t (decide_eq_true h20)
          have e1 : (fun q => qA (-12) (pt (qN T n q))) q = qA (-12) (pt (qN T n q)) := rfl
          refine z_mono (fun r w9 h9 => ?_) (z_drop ?_ (ih (i + 1) w3 _ (by omega) hk3 hl3 hQ3))
          · obtain ⟨h91, h92, h93⟩ := h9
            exact ⟨h91, rG_t hG1 (rG_t hG2 (rG_t hG3 h92)), by rw [e0, e1]; exact h93⟩
          · simp
set_option maxRecDepth 100000 in
set_option maxHeartbeats 4000000 in
theorem c_Reader_readProduct {T : Nat → Int32} {n s L x d : Nat} (hL : rLo s L) {pt : rQt → rQt} (hP : RC T n s L m_Reader_readPart x d pt) : RC T n s L m_Reader_readProduct x (d + 5) (cProd T n pt) := by
  intro w q hk hl hQ
  have h3 := rLo_3 hk hL
  have hP2 := hP
  refine z_aload_n (pc := 0) (i := 0) (j := 0) rfl rfl rfl ?_
  refine z_iload_n (pc := 1) (i := 1) (j := 1) rfl rfl rfl ?_
  refine z_cV (pc := 2) (mc1 := 0) (ms1 := 0) (mc2 := 0) (ms2 := 0) (as := [.int (nI x)]) (rest := []) (o := 3) rfl rfl hk.1 ok_Reader_readPart rfl rfl cl_Reader_209 (by omega) (Nat.le_of_ble_eq_true rfl) (Nat.le_of_ble_eq_true rfl) (Nat.le_refl _) (Nat.le_refl _) (hP w _ hk hl hQ) (fun r1 w1 hp => ?_) rfl rfl
  obtain ⟨rfl, hG1, hQ1⟩ := hp
  refine ⟨⟨by rw [hG1.1]; exact Nat.le_refl _, Or.inl (by rw [hG1.1])⟩, ?_⟩
  have hk1 := rdK_G hk h3 hG1
  have hl1 := rG_l hG1 hl
  refine z_iconst (pc := 5) (v := 0) rfl (by decide) ?_
  refine z_istore_n (pc := 6) (i := 2) (ls' := [(0, .ref 3), (1, .int (nI x)), (2, .int 0)]) rfl rfl (by decide) rfl ?_
  refine z_mono (fun r w9 h9 => ?_) (l_Reader_readProduct hL hP2 1000 0 w1 _ rfl hk1 hl1 hQ1)
  obtain ⟨h91, h92, h93⟩ := h9
  exact ⟨h91, rG_t hG1 h92, h93⟩
set_option maxRecDepth 100000 in
set_option maxHeartbeats 4000000 in
theorem l_Reader_readSum {T : Nat → Int32} {n s L x d : Nat} (hL : rLo s L) {pt : rQt → rQt} (hP : RC T n s L m_Reader_readProduct x d (cProd T n pt)) : ∀ (m i : Nat) (w : zW) (q : rQt), i + m = 1000 → rdK w s n T → zR w 3 2 = some L → rQ w T n L q → zS 0 0 (d + 5) m_Reader_readSum (fun rv w1 => rv = none ∧ rG L w w1 ∧ rQ w1 T n L (whl (bSum T n) (fun q => qA (if tkc T n q.1 = 43 then -10 else -11) (cProd T n pt (qN T n q))) m q)) 7 [(0, .ref 3), (1, .int (nI x)), (2, .int (nI i))] [] w := by
  intro m
  induction m with
  | zero =>
    intro i w q him hk hl hQ
    obtain rfl : i = 1000 := by omega
    refine z_iload_n (pc := 7) (i := 2) (j := 2) rfl rfl rfl ?_
    refine z_sipush (pc := 8) (v := 1000) rfl (by decide) ?_
    refine z_icmp_ge (pc := 11) (tgt := 72) rfl (by decide) (fun h11 => ?_) (fun h11 => absurd (by decide) h11)
    exact z_vret (pc := 72) rfl rfl ⟨rfl, rG_r L w, hQ⟩
  | succ m ih =>
    intro i w q him hk hl hQ
    have h3 := rLo_3 hk hL
    · skip
      refine z_iload_n (pc := 7) (i := 2) (j := 2) rfl rfl rfl ?_
      refine z_sipush (pc := 8) (v := 1000) rfl (by decide) ?_
      refine z_icmp_ge (pc := 11) (tgt := 72) rfl (by decide) (fun h11 => ?_) (fun h11 => ?_)
      · exact absurd h11 (nI_ge (b := 1000) (by omega) (by decide))
      · refine z_aload_n (pc := 14) (i := 0) (j := 0) rfl rfl rfl ?_
        refine z_getI (pc := 15) rfl fl_Reader_61 hk.1 rfl ?_
        refine z_eqi (y := tkc T n q.1) (rS_c hQ.1) ?_
        refine z_bipush (pc := 18) (v := 43) rfl (by decide) ?_
        refine z_icmp_eq (pc := 20) (tgt := 32) rfl (by decide) (fun h20 => ?_) (fun h20 => ?_)
        · refine z_aload_n (pc := 32) (i := 0) (j := 0) rfl rfl rfl ?_
          refine z_getI (pc := 33) rfl fl_Reader_61 hk.1 rfl ?_
          refine z_eqi (y := tkc T n q.1) (rS_c hQ.1) ?_
          refine z_bipush (pc := 36) (v := 43) rfl (by decide) ?_
          refine z_icmp_ne (pc := 38) (tgt := 46) rfl (by decide) (fun h38 => ?_) (fun h38 => ?_)
          · refine z_bipush (pc := 46) (v := (-11)) rfl (by decide) ?_
            refine z_istore_n (pc := 48) (i := 3) (ls' := [(0, .ref 3), (1, .int (nI x)), (2, .int (nI i)), (3, .int (-11))]) rfl rfl (by decide) rfl ?_
            refine z_aload_n (pc := 49) (i := 0) (j := 0) rfl rfl rfl ?_
            refine z_cV (pc := 50) (mc1 := 0) (ms1 := 0) (mc2 := 0) (ms2 := 0) (as := []) (rest := []) (o := 3) rfl rfl hk.1 ok_Reader_next rfl rfl cl_Reader_58 (by omega) (Nat.le_of_ble_eq_true rfl) (Nat.le_of_ble_eq_true rfl) (Nat.le_refl _) (Nat.le_refl _) (c_Reader_next hk _ hQ.1 4 (by decide)) (fun r1 w1 hp => ?_) rfl rfl
            obtain ⟨rfl, hF1, hS1⟩ := hp
            refine ⟨⟨by rw [hF1.1]; exact Nat.le_refl _, Or.inl (by rw [hF1.1])⟩, ?_⟩
            have hQ1 := rQ_F hQ h3 hF1 hS1
            have hG1 : rG L w w1 := rG_F hF1
            have hk1 := rdK_F hk hF1
            have hl1 := rG_l hG1 hl
            refine z_aload_n (pc := 53) (i := 0) (j := 0) rfl rfl rfl ?_
            refine z_iload_n (pc := 54) (i := 1) (j := 1) rfl rfl rfl ?_
            refine z_cV (pc := 55) (mc1 := 0) (ms1 := 0) (mc2 := 0) (ms2 := 0) (as := [.int (nI x)]) (rest := []) (o := 3) rfl rfl hk1.1 ok_Reader_readProduct rfl rfl cl_Reader_206 (by omega) (Nat.le_of_ble_eq_true rfl) (Nat.le_of_ble_eq_true rfl) (Nat.le_refl _) (Nat.le_refl _) (hP w1 _ hk1 hl1 hQ1) (fun r1 w2 hp => ?_) rfl rfl
            obtain ⟨rfl, hG2, hQ2⟩ := hp
            refine ⟨⟨by rw [hG2.1]; exact Nat.le_refl _, Or.inl (by rw [hG2.1])⟩, ?_⟩
            have hk2 := rdK_G hk1 h3 hG2
            have hl2 := rG_l hG2 hl1
            refine z_aload_n (pc := 58) (i := 0) (j := 0) rfl rfl rfl ?_
            refine z_getR (pc := 59) (x := L) rfl fl_Reader_29 hk2.1 rfl hl2 ?_
            refine z_iload_n (pc := 62) (i := 3) (j := 3) rfl rfl rfl ?_
            refine z_cV (pc := 63) (mc1 := 0) (ms1 := 0) (mc2 := 0) (ms2 := 0) (as := [.int (-11)]) (rest := []) (o := L) rfl rfl (rLo_k hk2 hL).1 ok_Law_addStep rfl rfl cl_Reader_200 (by omega) (Nat.le_of_ble_eq_true rfl) (Nat.le_of_ble_eq_true rfl) (Nat.le_refl _) (Nat.le_refl _) (c_addQ hk2 hL hQ2 (-11) 1) (fun r1 w3 hp => ?_) rfl rfl
            obtain ⟨rfl, hG3, hQ3⟩ := hp
            refine ⟨⟨by rw [hG3.1]; exact Nat.le_refl _, Or.inl (by rw [hG3.1])⟩, ?_⟩
            have hk3 := rdK_G hk2 h3 hG3
            have hl3 := rG_l hG3 hl2
            refine z_iinc (pc := 66) (i := 2) (j := 2) (v := nI (i + 1)) (ls' := [(0, .ref 3), (1, .int (nI x)), (2, .int (nI (i + 1))), (3, .int (-11))]) rfl rfl (nI_1 i) (by decide) rfl ?_
            refine z_goto (pc := 69) (tgt := 7) rfl (by decide) ?_
            have e0 : whl (bSum T n) (fun q => qA (if tkc T n q.1 = 43 then -10 else -11) (cProd T n pt (qN T n q))) (m + 1) q = whl (bSum T n) (fun q => qA (if tkc T n q.1 = 43 then -10 else -11) (cProd T n pt (qN T n q))) m ((fun q => qA (if tkc T n q.1 = 43 then -10 else -11) (cProd T n pt (qN T n q))) q) := whl_t (decide_eq_true (Or.inl h20))
            have e1 : (fun q => qA (if tkc T n q.1 = 43 then -10 else -11) (cProd T n pt (qN T n q))) q = qA (-11) (cProd T n pt (qN T n q)) := by show qA (if _ then _ else _) _ = _; rw [if_neg h38]
            refine z_mono (fun r w9 h9 => ?_) (z_drop ?_ (ih (i + 1) w3 _ (by omega) hk3 hl3 hQ3))
            · obtain ⟨h91, h92, h93⟩ := h9
              exact ⟨h91, rG_t hG1 (rG_t hG2 (rG_t hG3 h92)), by rw [e0, e1]; exact h93⟩
            · simp
          · refine z_bipush (pc := 41) (v := (-10)) rfl (by decide) ?_
            refine z_goto (pc := 43) (tgt := 48) rfl (by decide) ?_
            refine z_istore_n (pc := 48) (i := 3) (ls' := [(0, .ref 3), (1, .int (nI x)), (2, .int (nI i)), (3, .int (-10))]) rfl rfl (by decide) rfl ?_
            refine z_aload_n (pc := 49) (i := 0) (j := 0) rfl rfl rfl ?_
            refine z_cV (pc := 50) (mc1 := 0) (ms1 := 0) (mc2 := 0) (ms2 := 0) (as := []) (rest := []) (o := 3) rfl rfl hk.1 ok_Reader_next rfl rfl cl_Reader_58 (by omega) (Nat.le_of_ble_eq_true rfl) (Nat.le_of_ble_eq_true rfl) (Nat.le_refl _) (Nat.le_refl _) (c_Reader_next hk _ hQ.1 4 (by decide)) (fun r1 w1 hp => ?_) rfl rfl
            obtain ⟨rfl, hF1, hS1⟩ := hp
            refine ⟨⟨by rw [hF1.1]; exact Nat.le_refl _, Or.inl (by rw [hF1.1])⟩, ?_⟩
            have hQ1 := rQ_F hQ h3 hF1 hS1
            have hG1 : rG L w w1 := rG_F hF1
            have hk1 := rdK_F hk hF1
            have hl1 := rG_l hG1 hl
            refine z_aload_n (pc := 53) (i := 0) (j := 0) rfl rfl rfl ?_
            refine z_iload_n (pc := 54) (i := 1) (j := 1) rfl rfl rfl ?_
            refine z_cV (pc := 55) (mc1 := 0) (ms1 := 0) (mc2 := 0) (ms2 := 0) (as := [.int (nI x)]) (rest := []) (o := 3) rfl rfl hk1.1 ok_Reader_readProduct rfl rfl cl_Reader_206 (by omega) (Nat.le_of_ble_eq_true rfl) (Nat.le_of_ble_eq_true rfl) (Nat.le_refl _) (Nat.le_refl _) (hP w1 _ hk1 hl1 hQ1) (fun r1 w2 hp => ?_) rfl rfl
            obtain ⟨rfl, hG2, hQ2⟩ := hp
            refine ⟨⟨by rw [hG2.1]; exact Nat.le_refl _, Or.inl (by rw [hG2.1])⟩, ?_⟩
            have hk2 := rdK_G hk1 h3 hG2
            have hl2 := rG_l hG2 hl1
            refine z_aload_n (pc := 58) (i := 0) (j := 0) rfl rfl rfl ?_
            refine z_getR (pc := 59) (x := L) rfl fl_Reader_29 hk2.1 rfl hl2 ?_
            refine z_iload_n (pc := 62) (i := 3) (j := 3) rfl rfl rfl ?_
            refine z_cV (pc := 63) (mc1 := 0) (ms1 := 0) (mc2 := 0) (ms2 := 0) (as := [.int (-10)]) (rest := []) (o := L) rfl rfl (rLo_k hk2 hL).1 ok_Law_addStep rfl rfl cl_Reader_200 (by omega) (Nat.le_of_ble_eq_true rfl) (Nat.le_of_ble_eq_true rfl) (Nat.le_refl _) (Nat.le_refl _) (c_addQ hk2 hL hQ2 (-10) 1) (fun r1 w3 hp => ?_) rfl rfl
            obtain ⟨rfl, hG3, hQ3⟩ := hp
            refine ⟨⟨by rw [hG3.1]; exact Nat.le_refl _, Or.inl (by rw [hG3.1])⟩, ?_⟩
            have hk3 := rdK_G hk2 h3 hG3
            have hl3 := rG_l hG3 hl2
            refine z_iinc (pc := 66) (i := 2) (j := 2) (v := nI (i + 1)) (ls' := [(0, .ref 3), (1, .int (nI x)), (2, .int (nI (i + 1))), (3, .int (-10))]) rfl rfl (nI_1 i) (by decide) rfl ?_
            refine z_goto (pc := 69) (tgt := 7) rfl (by decide) ?_
            have e0 : whl (bSum T n) (fun q => qA (if tkc T n q.1 = 43 then -10 else -11) (cProd T n pt (qN T n q))) (m + 1) q = whl (bSum T n) (fun q => qA (if tkc T n q.1 = 43 then -10 else -11) (cProd T n pt (qN T n q))) m ((fun q => qA (if tkc T n q.1 = 43 then -10 else -11) (cProd T n pt (qN T n q))) q) := whl_t (decide_eq_true (Or.inl h20))
            have e1 : (fun q => qA (if tkc T n q.1 = 43 then -10 else -11) (cProd T n pt (qN T n q))) q = qA (-10) (cProd T n pt (qN T n q)) := by show qA (if _ then _ else _) _ = _; rw [if_pos h38]
            refine z_mono (fun r w9 h9 => ?_) (z_drop ?_ (ih (i + 1) w3 _ (by omega) hk3 hl3 hQ3))
            · obtain ⟨h91, h92, h93⟩ := h9
              exact ⟨h91, rG_t hG1 (rG_t hG2 (rG_t hG3 h92)), by rw [e0, e1]; exact h93⟩
            · simp
        · refine z_aload_n (pc := 23) (i := 0) (j := 0) rfl rfl rfl ?_
          refine z_getI (pc := 24) rfl fl_Reader_61 hk.1 rfl ?_
          refine z_eqi (y := tkc T n q.1) (rS_c hQ.1) ?_
          refine z_bipush (pc := 27) (v := 45) rfl (by decide) ?_
          refine z_icmp_ne (pc := 29) (tgt := 72) rfl (by decide) (fun h29 => ?_) (fun h29 => ?_)
          · have e0 : whl (bSum T n) (fun q => qA (if tkc T n q.1 = 43 then -10 else -11) (cProd T n pt (qN T n q))) (m + 1) q = q := whl_f (fun e => (of_decide_eq_true e).elim h20 h29)
            exact z_vret (pc := 72) rfl rfl ⟨rfl, rG_r L w, by rw [e0]; exact hQ⟩
          · refine z_aload_n (pc := 32) (i := 0) (j := 0) rfl rfl rfl ?_
            refine z_getI (pc := 33) rfl fl_Reader_61 hk.1 rfl ?_
            refine z_eqi (y := tkc T n q.1) (rS_c hQ.1) ?_
            refine z_bipush (pc := 36) (v := 43) rfl (by decide) ?_
            refine z_icmp_ne (pc := 38) (tgt := 46) rfl (by decide) (fun h38 => ?_) (fun h38 => ?_)
            · refine z_bipush (pc := 46) (v := (-11)) rfl (by decide) ?_
              refine z_istore_n (pc := 48) (i := 3) (ls' := [(0, .ref 3), (1, .int (nI x)), (2, .int (nI i)), (3, .int (-11))]) rfl rfl (by decide) rfl ?_
              refine z_aload_n (pc := 49) (i := 0) (j := 0) rfl rfl rfl ?_
              refine z_cV (pc := 50) (mc1 := 0) (ms1 := 0) (mc2 := 0) (ms2 := 0) (as := []) (rest := []) (o := 3) rfl rfl hk.1 ok_Reader_next rfl rfl cl_Reader_58 (by omega) (Nat.le_of_ble_eq_true rfl) (Nat.le_of_ble_eq_true rfl) (Nat.le_refl _) (Nat.le_refl _) (c_Reader_next hk _ hQ.1 4 (by decide)) (fun r1 w1 hp => ?_) rfl rfl
              obtain ⟨rfl, hF1, hS1⟩ := hp
              refine ⟨⟨by rw [hF1.1]; exact Nat.le_refl _, Or.inl (by rw [hF1.1])⟩, ?_⟩
              have hQ1 := rQ_F hQ h3 hF1 hS1
              have hG1 : rG L w w1 := rG_F hF1
              have hk1 := rdK_F hk hF1
              have hl1 := rG_l hG1 hl
              refine z_aload_n (pc := 53) (i := 0) (j := 0) rfl rfl rfl ?_
              refine z_iload_n (pc := 54) (i := 1) (j := 1) rfl rfl rfl ?_
              refine z_cV (pc := 55) (mc1 := 0) (ms1 := 0) (mc2 := 0) (ms2 := 0) (as := [.int (nI x)]) (rest := []) (o := 3) rfl rfl hk1.1 ok_Reader_readProduct rfl rfl cl_Reader_206 (by omega) (Nat.le_of_ble_eq_true rfl) (Nat.le_of_ble_eq_true rfl) (Nat.le_refl _) (Nat.le_refl _) (hP w1 _ hk1 hl1 hQ1) (fun r1 w2 hp => ?_) rfl rfl
              obtain ⟨rfl, hG2, hQ2⟩ := hp
              refine ⟨⟨by rw [hG2.1]; exact Nat.le_refl _, Or.inl (by rw [hG2.1])⟩, ?_⟩
              have hk2 := rdK_G hk1 h3 hG2
              have hl2 := rG_l hG2 hl1
              refine z_aload_n (pc := 58) (i := 0) (j := 0) rfl rfl rfl ?_
              refine z_getR (pc := 59) (x := L) rfl fl_Reader_29 hk2.1 rfl hl2 ?_
              refine z_iload_n (pc := 62) (i := 3) (j := 3) rfl rfl rfl ?_
              refine z_cV (pc := 63) (mc1 := 0) (ms1 := 0) (mc2 := 0) (ms2 := 0) (as := [.int (-11)]) (rest := []) (o := L) rfl rfl (rLo_k hk2 hL).1 ok_Law_addStep rfl rfl cl_Reader_200 (by omega) (Nat.le_of_ble_eq_true rfl) (Nat.le_of_ble_eq_true rfl) (Nat.le_refl _) (Nat.le_refl _) (c_addQ hk2 hL hQ2 (-11) 1) (fun r1 w3 hp => ?_) rfl rfl
              obtain ⟨rfl, hG3, hQ3⟩ := hp
              refine ⟨⟨by rw [hG3.1]; exact Nat.le_refl _, Or.inl (by rw [hG3.1])⟩, ?_⟩
              have hk3 := rdK_G hk2 h3 hG3
              have hl3 := rG_l hG3 hl2
              refine z_iinc (pc := 66) (i := 2) (j := 2) (v := nI (i + 1)) (ls' := [(0, .ref 3), (1, .int (nI x)), (2, .int (nI (i + 1))), (3, .int (-11))]) rfl rfl (nI_1 i) (by decide) rfl ?_
              refine z_goto (pc := 69) (tgt := 7) rfl (by decide) ?_
              have e0 : whl (bSum T n) (fun q => qA (if tkc T n q.1 = 43 then -10 else -11) (cProd T n pt (qN T n q))) (m + 1) q = whl (bSum T n) (fun q => qA (if tkc T n q.1 = 43 then -10 else -11) (cProd T n pt (qN T n q))) m ((fun q => qA (if tkc T n q.1 = 43 then -10 else -11) (cProd T n pt (qN T n q))) q) := whl_t (decide_eq_true (Or.inr h29))
              have e1 : (fun q => qA (if tkc T n q.1 = 43 then -10 else -11) (cProd T n pt (qN T n q))) q = qA (-11) (cProd T n pt (qN T n q)) := by show qA (if _ then _ else _) _ = _; rw [if_neg h38]
              refine z_mono (fun r w9 h9 => ?_) (z_drop ?_ (ih (i + 1) w3 _ (by omega) hk3 hl3 hQ3))
              · obtain ⟨h91, h92, h93⟩ := h9
                exact ⟨h91, rG_t hG1 (rG_t hG2 (rG_t hG3 h92)), by rw [e0, e1]; exact h93⟩
              · simp
            · refine z_bipush (pc := 41) (v := (-10)) rfl (by decide) ?_
              refine z_goto (pc := 43) (tgt := 48) rfl (by decide) ?_
              refine z_istore_n (pc := 48) (i := 3) (ls' := [(0, .ref 3), (1, .int (nI x)), (2, .int (nI i)), (3, .int (-10))]) rfl rfl (by decide) rfl ?_
              refine z_aload_n (pc := 49) (i := 0) (j := 0) rfl rfl rfl ?_
              refine z_cV (pc := 50) (mc1 := 0) (ms1 := 0) (mc2 := 0) (ms2 := 0) (as := []) (rest := []) (o := 3) rfl rfl hk.1 ok_Reader_next rfl rfl cl_Reader_58 (by omega) (Nat.le_of_ble_eq_true rfl) (Nat.le_of_ble_eq_true rfl) (Nat.le_refl _) (Nat.le_refl _) (c_Reader_next hk _ hQ.1 4 (by decide)) (fun r1 w1 hp => ?_) rfl rfl
              obtain ⟨rfl, hF1, hS1⟩ := hp
              refine ⟨⟨by rw [hF1.1]; exact Nat.le_refl _, Or.inl (by rw [hF1.1])⟩, ?_⟩
              have hQ1 := rQ_F hQ h3 hF1 hS1
              have hG1 : rG L w w1 := rG_F hF1
              have hk1 := rdK_F hk hF1
              have hl1 := rG_l hG1 hl
              refine z_aload_n (pc := 53) (i := 0) (j := 0) rfl rfl rfl ?_
              refine z_iload_n (pc := 54) (i := 1) (j := 1) rfl rfl rfl ?_
              refine z_cV (pc := 55) (mc1 := 0) (ms1 := 0) (mc2 := 0) (ms2 := 0) (as := [.int (nI x)]) (rest := []) (o := 3) rfl rfl hk1.1 ok_Reader_readProduct rfl rfl cl_Reader_206 (by omega) (Nat.le_of_ble_eq_true rfl) (Nat.le_of_ble_eq_true rfl) (Nat.le_refl _) (Nat.le_refl _) (hP w1 _ hk1 hl1 hQ1) (fun r1 w2 hp => ?_) rfl rfl
              obtain ⟨rfl, hG2, hQ2⟩ := hp
              refine ⟨⟨by rw [hG2.1]; exact Nat.le_refl _, Or.inl (by rw [hG2.1])⟩, ?_⟩
              have hk2 := rdK_G hk1 h3 hG2
              have hl2 := rG_l hG2 hl1
              refine z_aload_n (pc := 58) (i := 0) (j := 0) rfl rfl rfl ?_
              refine z_getR (pc := 59) (x := L) rfl fl_Reader_29 hk2.1 rfl hl2 ?_
              refine z_iload_n (pc := 62) (i := 3) (j := 3) rfl rfl rfl ?_
              refine z_cV (pc := 63) (mc1 := 0) (ms1 := 0) (mc2 := 0) (ms2 := 0) (as := [.int (-10)]) (rest := []) (o := L) rfl rfl (rLo_k hk2 hL).1 ok_Law_addStep rfl rfl cl_Reader_200 (by omega) (Nat.le_of_ble_eq_true rfl) (Nat.le_of_ble_eq_true rfl) (Nat.le_refl _) (Nat.le_refl _) (c_addQ hk2 hL hQ2 (-10) 1) (fun r1 w3 hp => ?_) rfl rfl
              obtain ⟨rfl, hG3, hQ3⟩ := hp
              refine ⟨⟨by rw [hG3.1]; exact Nat.le_refl _, Or.inl (by rw [hG3.1])⟩, ?_⟩
              have hk3 := rdK_G hk2 h3 hG3
              have hl3 := rG_l hG3 hl2
              refine z_iinc (pc := 66) (i := 2) (j := 2) (v := nI (i + 1)) (ls' := [(0, .ref 3), (1, .int (nI x)), (2, .int (nI (i + 1))), (3, .int (-10))]) rfl rfl (nI_1 i) (by decide) rfl ?_
              refine z_goto (pc := 69) (tgt := 7) rfl (by decide) ?_
              have e0 : whl (bSum T n) (fun q => qA (if tkc T n q.1 = 43 then -10 else -11) (cProd T n pt (qN T n q))) (m + 1) q = whl (bSum T n) (fun q => qA (if tkc T n q.1 = 43 then -10 else -11) (cProd T n pt (qN T n q))) m ((fun q => qA (if tkc T n q.1 = 43 then -10 else -11) (cProd T n pt (qN T n q))) q) := whl_t (decide_eq_true (Or.inr h29))
              have e1 : (fun q => qA (if tkc T n q.1 = 43 then -10 else -11) (cProd T n pt (qN T n q))) q = qA (-10) (cProd T n pt (qN T n q)) := by show qA (if _ then _ else _) _ = _; rw [if_pos h38]
              refine z_mono (fun r w9 h9 => ?_) (z_drop ?_ (ih (i + 1) w3 _ (by omega) hk3 hl3 hQ3))
              · obtain ⟨h91, h92, h93⟩ := h9
                exact ⟨h91, rG_t hG1 (rG_t hG2 (rG_t hG3 h92)), by rw [e0, e1]; exact h93⟩
              · simp
set_option maxRecDepth 100000 in
set_option maxHeartbeats 4000000 in
theorem c_Reader_readSum {T : Nat → Int32} {n s L x d : Nat} (hL : rLo s L) {pt : rQt → rQt} (hP : RC T n s L m_Reader_readProduct x d (cProd T n pt)) : RC T n s L m_Reader_readSum x (d + 5) (cSum T n pt) := by
  intro w q hk hl hQ
  have h3 := rLo_3 hk hL
  have hP2 := hP
  refine z_aload_n (pc := 0) (i := 0) (j := 0) rfl rfl rfl ?_
  refine z_iload_n (pc := 1) (i := 1) (j := 1) rfl rfl rfl ?_
  refine z_cV (pc := 2) (mc1 := 0) (ms1 := 0) (mc2 := 0) (ms2 := 0) (as := [.int (nI x)]) (rest := []) (o := 3) rfl rfl hk.1 ok_Reader_readProduct rfl rfl cl_Reader_206 (by omega) (Nat.le_of_ble_eq_true rfl) (Nat.le_of_ble_eq_true rfl) (Nat.le_refl _) (Nat.le_refl _) (hP w _ hk hl hQ) (fun r1 w1 hp => ?_) rfl rfl
  obtain ⟨rfl, hG1, hQ1⟩ := hp
  refine ⟨⟨by rw [hG1.1]; exact Nat.le_refl _, Or.inl (by rw [hG1.1])⟩, ?_⟩
  have hk1 := rdK_G hk h3 hG1
  have hl1 := rG_l hG1 hl
  refine z_iconst (pc := 5) (v := 0) rfl (by decide) ?_
  refine z_istore_n (pc := 6) (i := 2) (ls' := [(0, .ref 3), (1, .int (nI x)), (2, .int 0)]) rfl rfl (by decide) rfl ?_
  refine z_mono (fun r w9 h9 => ?_) (l_Reader_readSum hL hP2 1000 0 w1 _ rfl hk1 hl1 hQ1)
  obtain ⟨h91, h92, h93⟩ := h9
  exact ⟨h91, rG_t hG1 h92, h93⟩
set_option maxRecDepth 100000 in
set_option maxHeartbeats 4000000 in
theorem l_Reader_readChoice {T : Nat → Int32} {n s L x d : Nat} (hL : rLo s L) {pt : rQt → rQt} (hP : RC T n s L m_Reader_readTest x d (cTest T n pt)) : ∀ (m i : Nat) (w : zW) (q : rQt), i + m = 1000 → rdK w s n T → zR w 3 2 = some L → rQ w T n L q → zS 0 0 (d + 5) m_Reader_readChoice (fun rv w1 => rv = none ∧ rG L w w1 ∧ rQ w1 T n L (whl (bCho T n) (fun q => qA (if tkw T n q.1 = some 1000014 then -6 else -7) (cTest T n pt (qN T n q))) m q)) 7 [(0, .ref 3), (1, .int (nI x)), (2, .int (nI i))] [] w := by
  intro m
  induction m with
  | zero =>
    intro i w q him hk hl hQ
    obtain rfl : i = 1000 := by omega
    refine z_iload_n (pc := 7) (i := 2) (j := 2) rfl rfl rfl ?_
    refine z_sipush (pc := 8) (v := 1000) rfl (by decide) ?_
    refine z_icmp_ge (pc := 11) (tgt := 75) rfl (by decide) (fun h11 => ?_) (fun h11 => absurd (by decide) h11)
    exact z_vret (pc := 75) rfl rfl ⟨rfl, rG_r L w, hQ⟩
  | succ m ih =>
    intro i w q him hk hl hQ
    have h3 := rLo_3 hk hL
    · skip
      refine z_iload_n (pc := 7) (i := 2) (j := 2) rfl rfl rfl ?_
      refine z_sipush (pc := 8) (v := 1000) rfl (by decide) ?_
      refine z_icmp_ge (pc := 11) (tgt := 75) rfl (by decide) (fun h11 => ?_) (fun h11 => ?_)
      · exact absurd h11 (nI_ge (b := 1000) (by omega) (by decide))
      · refine z_aload_n (pc := 14) (i := 0) (j := 0) rfl rfl rfl ?_
        refine z_getA (pc := 15) rfl fl_Reader_67 hk.1 rfl ?_
        refine z_gets (pc := 18) (C0 := "SmokeWeds$Word") (n1 := "AND") (d1 := "LSmokeWeds$Word;") (v := .ref 1000014) rfl (by decide +kernel) gl_Reader_194 ?_
        refine z_acmp_eq (x := (zR w 3 8)) (y := (some 1000014)) (pc := 21) (tgt := 34) rfl (by decide) (zid_t hQ.1) (zid_c (by decide) (by decide)) (fun h21 => ?_) (fun h21 => ?_)
        · refine z_aload_n (pc := 34) (i := 0) (j := 0) rfl rfl rfl ?_
          refine z_getA (pc := 35) rfl fl_Reader_67 hk.1 rfl ?_
          refine z_gets (pc := 38) (C0 := "SmokeWeds$Word") (n1 := "AND") (d1 := "LSmokeWeds$Word;") (v := .ref 1000014) rfl (by decide +kernel) gl_Reader_194 ?_
          refine z_acmp_ne (x := (zR w 3 8)) (y := (some 1000014)) (pc := 41) (tgt := 49) rfl (by decide) (zid_t hQ.1) (zid_c (by decide) (by decide)) (fun h41 => ?_) (fun h41 => ?_)
          · refine z_bipush (pc := 49) (v := (-7)) rfl (by decide) ?_
            refine z_istore_n (pc := 51) (i := 3) (ls' := [(0, .ref 3), (1, .int (nI x)), (2, .int (nI i)), (3, .int (-7))]) rfl rfl (by decide) rfl ?_
            refine z_aload_n (pc := 52) (i := 0) (j := 0) rfl rfl rfl ?_
            refine z_cV (pc := 53) (mc1 := 0) (ms1 := 0) (mc2 := 0) (ms2 := 0) (as := []) (rest := []) (o := 3) rfl rfl hk.1 ok_Reader_next rfl rfl cl_Reader_58 (by omega) (Nat.le_of_ble_eq_true rfl) (Nat.le_of_ble_eq_true rfl) (Nat.le_refl _) (Nat.le_refl _) (c_Reader_next hk _ hQ.1 4 (by decide)) (fun r1 w1 hp => ?_) rfl rfl
            obtain ⟨rfl, hF1, hS1⟩ := hp
            refine ⟨⟨by rw [hF1.1]; exact Nat.le_refl _, Or.inl (by rw [hF1.1])⟩, ?_⟩
            have hQ1 := rQ_F hQ h3 hF1 hS1
            have hG1 : rG L w w1 := rG_F hF1
            have hk1 := rdK_F hk hF1
            have hl1 := rG_l hG1 hl
            refine z_aload_n (pc := 56) (i := 0) (j := 0) rfl rfl rfl ?_
            refine z_iload_n (pc := 57) (i := 1) (j := 1) rfl rfl rfl ?_
            refine z_cV (pc := 58) (mc1 := 0) (ms1 := 0) (mc2 := 0) (ms2 := 0) (as := [.int (nI x)]) (rest := []) (o := 3) rfl rfl hk1.1 ok_Reader_readTest rfl rfl cl_Reader_191 (by omega) (Nat.le_of_ble_eq_true rfl) (Nat.le_of_ble_eq_true rfl) (Nat.le_refl _) (Nat.le_refl _) (hP w1 _ hk1 hl1 hQ1) (fun r1 w2 hp => ?_) rfl rfl
            obtain ⟨rfl, hG2, hQ2⟩ := hp
            refine ⟨⟨by rw [hG2.1]; exact Nat.le_refl _, Or.inl (by rw [hG2.1])⟩, ?_⟩
            have hk2 := rdK_G hk1 h3 hG2
            have hl2 := rG_l hG2 hl1
            refine z_aload_n (pc := 61) (i := 0) (j := 0) rfl rfl rfl ?_
            refine z_getR (pc := 62) (x := L) rfl fl_Reader_29 hk2.1 rfl hl2 ?_
            refine z_iload_n (pc := 65) (i := 3) (j := 3) rfl rfl rfl ?_
            refine z_cV (pc := 66) (mc1 := 0) (ms1 := 0) (mc2 := 0) (ms2 := 0) (as := [.int (-7)]) (rest := []) (o := L) rfl rfl (rLo_k hk2 hL).1 ok_Law_addStep rfl rfl cl_Reader_200 (by omega) (Nat.le_of_ble_eq_true rfl) (Nat.le_of_ble_eq_true rfl) (Nat.le_refl _) (Nat.le_refl _) (c_addQ hk2 hL hQ2 (-7) 1) (fun r1 w3 hp => ?_) rfl rfl
            obtain ⟨rfl, hG3, hQ3⟩ := hp
            refine ⟨⟨by rw [hG3.1]; exact Nat.le_refl _, Or.inl (by rw [hG3.1])⟩, ?_⟩
            have hk3 := rdK_G hk2 h3 hG3
            have hl3 := rG_l hG3 hl2
            refine z_iinc (pc := 69) (i := 2) (j := 2) (v := nI (i + 1)) (ls' := [(0, .ref 3), (1, .int (nI x)), (2, .int (nI (i + 1))), (3, .int (-7))]) rfl rfl (nI_1 i) (by decide) rfl ?_
            refine z_goto (pc := 72) (tgt := 7) rfl (by decide) ?_
            have e0 : whl (bCho T n) (fun q => qA (if tkw T n q.1 = some 1000014 then -6 else -7) (cTest T n pt (qN T n q))) (m + 1) q = whl (bCho T n) (fun q => qA (if tkw T n q.1 = some 1000014 then -6 else -7) (cTest T n pt (qN T n q))) m ((fun q => qA (if tkw T n q.1 = some 1000014 then -6 else -7) (cTest T n pt (qN T n q))) q) := whl_t (decide_eq_true (Or.inl ((rS_w hQ.1).symm.trans h21)))
            have e1 : (fun q => qA (if tkw T n q.1 = some 1000014 then -6 else -7) (cTest T n pt (qN T n q))) q = qA (-7) (cTest T n pt (qN T n q)) := by show qA (if _ then _ else _) _ = _; rw [if_neg (fun z => h41 ((rS_w hQ.1).trans z))]
            refine z_mono (fun r w9 h9 => ?_) (z_drop ?_ (ih (i + 1) w3 _ (by omega) hk3 hl3 hQ3))
            · obtain ⟨h91, h92, h93⟩ := h9
              exact ⟨h91, rG_t hG1 (rG_t hG2 (rG_t hG3 h92)), by rw [e0, e1]; exact h93⟩
            · simp
          · refine z_bipush (pc := 44) (v := (-6)) rfl (by decide) ?_
            refine z_goto (pc := 46) (tgt := 51) rfl (by decide) ?_
            refine z_istore_n (pc := 51) (i := 3) (ls' := [(0, .ref 3), (1, .int (nI x)), (2, .int (nI i)), (3, .int (-6))]) rfl rfl (by decide) rfl ?_
            refine z_aload_n (pc := 52) (i := 0) (j := 0) rfl rfl rfl ?_
            refine z_cV (pc := 53) (mc1 := 0) (ms1 := 0) (mc2 := 0) (ms2 := 0) (as := []) (rest := []) (o := 3) rfl rfl hk.1 ok_Reader_next rfl rfl cl_Reader_58 (by omega) (Nat.le_of_ble_eq_true rfl) (Nat.le_of_ble_eq_true rfl) (Nat.le_refl _) (Nat.le_refl _) (c_Reader_next hk _ hQ.1 4 (by decide)) (fun r1 w1 hp => ?_) rfl rfl
            obtain ⟨rfl, hF1, hS1⟩ := hp
            refine ⟨⟨by rw [hF1.1]; exact Nat.le_refl _, Or.inl (by rw [hF1.1])⟩, ?_⟩
            have hQ1 := rQ_F hQ h3 hF1 hS1
            have hG1 : rG L w w1 := rG_F hF1
            have hk1 := rdK_F hk hF1
            have hl1 := rG_l hG1 hl
            refine z_aload_n (pc := 56) (i := 0) (j := 0) rfl rfl rfl ?_
            refine z_iload_n (pc := 57) (i := 1) (j := 1) rfl rfl rfl ?_
            refine z_cV (pc := 58) (mc1 := 0) (ms1 := 0) (mc2 := 0) (ms2 := 0) (as := [.int (nI x)]) (rest := []) (o := 3) rfl rfl hk1.1 ok_Reader_readTest rfl rfl cl_Reader_191 (by omega) (Nat.le_of_ble_eq_true rfl) (Nat.le_of_ble_eq_true rfl) (Nat.le_refl _) (Nat.le_refl _) (hP w1 _ hk1 hl1 hQ1) (fun r1 w2 hp => ?_) rfl rfl
            obtain ⟨rfl, hG2, hQ2⟩ := hp
            refine ⟨⟨by rw [hG2.1]; exact Nat.le_refl _, Or.inl (by rw [hG2.1])⟩, ?_⟩
            have hk2 := rdK_G hk1 h3 hG2
            have hl2 := rG_l hG2 hl1
            refine z_aload_n (pc := 61) (i := 0) (j := 0) rfl rfl rfl ?_
            refine z_getR (pc := 62) (x := L) rfl fl_Reader_29 hk2.1 rfl hl2 ?_
            refine z_iload_n (pc := 65) (i := 3) (j := 3) rfl rfl rfl ?_
            refine z_cV (pc := 66) (mc1 := 0) (ms1 := 0) (mc2 := 0) (ms2 := 0) (as := [.int (-6)]) (rest := []) (o := L) rfl rfl (rLo_k hk2 hL).1 ok_Law_addStep rfl rfl cl_Reader_200 (by omega) (Nat.le_of_ble_eq_true rfl) (Nat.le_of_ble_eq_true rfl) (Nat.le_refl _) (Nat.le_refl _) (c_addQ hk2 hL hQ2 (-6) 1) (fun r1 w3 hp => ?_) rfl rfl
            obtain ⟨rfl, hG3, hQ3⟩ := hp
            refine ⟨⟨by rw [hG3.1]; exact Nat.le_refl _, Or.inl (by rw [hG3.1])⟩, ?_⟩
            have hk3 := rdK_G hk2 h3 hG3
            have hl3 := rG_l hG3 hl2
            refine z_iinc (pc := 69) (i := 2) (j := 2) (v := nI (i + 1)) (ls' := [(0, .ref 3), (1, .int (nI x)), (2, .int (nI (i + 1))), (3, .int (-6))]) rfl rfl (nI_1 i) (by decide) rfl ?_
            refine z_goto (pc := 72) (tgt := 7) rfl (by decide) ?_
            have e0 : whl (bCho T n) (fun q => qA (if tkw T n q.1 = some 1000014 then -6 else -7) (cTest T n pt (qN T n q))) (m + 1) q = whl (bCho T n) (fun q => qA (if tkw T n q.1 = some 1000014 then -6 else -7) (cTest T n pt (qN T n q))) m ((fun q => qA (if tkw T n q.1 = some 1000014 then -6 else -7) (cTest T n pt (qN T n q))) q) := whl_t (decide_eq_true (Or.inl ((rS_w hQ.1).symm.trans h21)))
            have e1 : (fun q => qA (if tkw T n q.1 = some 1000014 then -6 else -7) (cTest T n pt (qN T n q))) q = qA (-6) (cTest T n pt (qN T n q)) := by show qA (if _ then _ else _) _ = _; rw [if_pos ((rS_w hQ.1).symm.trans h41)]
            refine z_mono (fun r w9 h9 => ?_) (z_drop ?_ (ih (i + 1) w3 _ (by omega) hk3 hl3 hQ3))
            · obtain ⟨h91, h92, h93⟩ := h9
              exact ⟨h91, rG_t hG1 (rG_t hG2 (rG_t hG3 h92)), by rw [e0, e1]; exact h93⟩
            · simp
        · refine z_aload_n (pc := 24) (i := 0) (j := 0) rfl rfl rfl ?_
          refine z_getA (pc := 25) rfl fl_Reader_67 hk.1 rfl ?_
          refine z_gets (pc := 28) (C0 := "SmokeWeds$Word") (n1 := "OR") (d1 := "LSmokeWeds$Word;") (v := .ref 1000015) rfl (by decide +kernel) gl_Reader_197 ?_
          refine z_acmp_ne (x := (zR w 3 8)) (y := (some 1000015)) (pc := 31) (tgt := 75) rfl (by decide) (zid_t hQ.1) (zid_c (by decide) (by decide)) (fun h31 => ?_) (fun h31 => ?_)
          · have e0 : whl (bCho T n) (fun q => qA (if tkw T n q.1 = some 1000014 then -6 else -7) (cTest T n pt (qN T n q))) (m + 1) q = q := whl_f (fun e => (of_decide_eq_true e).elim (fun z => h21 ((rS_w hQ.1).trans z)) (fun z => h31 ((rS_w hQ.1).trans z)))
            exact z_vret (pc := 75) rfl rfl ⟨rfl, rG_r L w, by rw [e0]; exact hQ⟩
          · refine z_aload_n (pc := 34) (i := 0) (j := 0) rfl rfl rfl ?_
            refine z_getA (pc := 35) rfl fl_Reader_67 hk.1 rfl ?_
            refine z_gets (pc := 38) (C0 := "SmokeWeds$Word") (n1 := "AND") (d1 := "LSmokeWeds$Word;") (v := .ref 1000014) rfl (by decide +kernel) gl_Reader_194 ?_
            refine z_acmp_ne (x := (zR w 3 8)) (y := (some 1000014)) (pc := 41) (tgt := 49) rfl (by decide) (zid_t hQ.1) (zid_c (by decide) (by decide)) (fun h41 => ?_) (fun h41 => ?_)
            · refine z_bipush (pc := 49) (v := (-7)) rfl (by decide) ?_
              refine z_istore_n (pc := 51) (i := 3) (ls' := [(0, .ref 3), (1, .int (nI x)), (2, .int (nI i)), (3, .int (-7))]) rfl rfl (by decide) rfl ?_
              refine z_aload_n (pc := 52) (i := 0) (j := 0) rfl rfl rfl ?_
              refine z_cV (pc := 53) (mc1 := 0) (ms1 := 0) (mc2 := 0) (ms2 := 0) (as := []) (rest := []) (o := 3) rfl rfl hk.1 ok_Reader_next rfl rfl cl_Reader_58 (by omega) (Nat.le_of_ble_eq_true rfl) (Nat.le_of_ble_eq_true rfl) (Nat.le_refl _) (Nat.le_refl _) (c_Reader_next hk _ hQ.1 4 (by decide)) (fun r1 w1 hp => ?_) rfl rfl
              obtain ⟨rfl, hF1, hS1⟩ := hp
              refine ⟨⟨by rw [hF1.1]; exact Nat.le_refl _, Or.inl (by rw [hF1.1])⟩, ?_⟩
              have hQ1 := rQ_F hQ h3 hF1 hS1
              have hG1 : rG L w w1 := rG_F hF1
              have hk1 := rdK_F hk hF1
              have hl1 := rG_l hG1 hl
              refine z_aload_n (pc := 56) (i := 0) (j := 0) rfl rfl rfl ?_
              refine z_iload_n (pc := 57) (i := 1) (j := 1) rfl rfl rfl ?_
              refine z_cV (pc := 58) (mc1 := 0) (ms1 := 0) (mc2 := 0) (ms2 := 0) (as := [.int (nI x)]) (rest := []) (o := 3) rfl rfl hk1.1 ok_Reader_readTest rfl rfl cl_Reader_191 (by omega) (Nat.le_of_ble_eq_true rfl) (Nat.le_of_ble_eq_true rfl) (Nat.le_refl _) (Nat.le_refl _) (hP w1 _ hk1 hl1 hQ1) (fun r1 w2 hp => ?_) rfl rfl
              obtain ⟨rfl, hG2, hQ2⟩ := hp
              refine ⟨⟨by rw [hG2.1]; exact Nat.le_refl _, Or.inl (by rw [hG2.1])⟩, ?_⟩
              have hk2 := rdK_G hk1 h3 hG2
              have hl2 := rG_l hG2 hl1
              refine z_aload_n (pc := 61) (i := 0) (j := 0) rfl rfl rfl ?_
              refine z_getR (pc := 62) (x := L) rfl fl_Reader_29 hk2.1 rfl hl2 ?_
              refine z_iload_n (pc := 65) (i := 3) (j := 3) rfl rfl rfl ?_
              refine z_cV (pc := 66) (mc1 := 0) (ms1 := 0) (mc2 := 0) (ms2 := 0) (as := [.int (-7)]) (rest := []) (o := L) rfl rfl (rLo_k hk2 hL).1 ok_Law_addStep rfl rfl cl_Reader_200 (by omega) (Nat.le_of_ble_eq_true rfl) (Nat.le_of_ble_eq_true rfl) (Nat.le_refl _) (Nat.le_refl _) (c_addQ hk2 hL hQ2 (-7) 1) (fun r1 w3 hp => ?_) rfl rfl
              obtain ⟨rfl, hG3, hQ3⟩ := hp
              refine ⟨⟨by rw [hG3.1]; exact Nat.le_refl _, Or.inl (by rw [hG3.1])⟩, ?_⟩
              have hk3 := rdK_G hk2 h3 hG3
              have hl3 := rG_l hG3 hl2
              refine z_iinc (pc := 69) (i := 2) (j := 2) (v := nI (i + 1)) (ls' := [(0, .ref 3), (1, .int (nI x)), (2, .int (nI (i + 1))), (3, .int (-7))]) rfl rfl (nI_1 i) (by decide) rfl ?_
              refine z_goto (pc := 72) (tgt := 7) rfl (by decide) ?_
              have e0 : whl (bCho T n) (fun q => qA (if tkw T n q.1 = some 1000014 then -6 else -7) (cTest T n pt (qN T n q))) (m + 1) q = whl (bCho T n) (fun q => qA (if tkw T n q.1 = some 1000014 then -6 else -7) (cTest T n pt (qN T n q))) m ((fun q => qA (if tkw T n q.1 = some 1000014 then -6 else -7) (cTest T n pt (qN T n q))) q) := whl_t (decide_eq_true (Or.inr ((rS_w hQ.1).symm.trans h31)))
              have e1 : (fun q => qA (if tkw T n q.1 = some 1000014 then -6 else -7) (cTest T n pt (qN T n q))) q = qA (-7) (cTest T n pt (qN T n q)) := by show qA (if _ then _ else _) _ = _; rw [if_neg (fun z => h41 ((rS_w hQ.1).trans z))]
              refine z_mono (fun r w9 h9 => ?_) (z_drop ?_ (ih (i + 1) w3 _ (by omega) hk3 hl3 hQ3))
              · obtain ⟨h91, h92, h93⟩ := h9
                exact ⟨h91, rG_t hG1 (rG_t hG2 (rG_t hG3 h92)), by rw [e0, e1]; exact h93⟩
              · simp
            · refine z_bipush (pc := 44) (v := (-6)) rfl (by decide) ?_
              refine z_goto (pc := 46) (tgt := 51) rfl (by decide) ?_
              refine z_istore_n (pc := 51) (i := 3) (ls' := [(0, .ref 3), (1, .int (nI x)), (2, .int (nI i)), (3, .int (-6))]) rfl rfl (by decide) rfl ?_
              refine z_aload_n (pc := 52) (i := 0) (j := 0) rfl rfl rfl ?_
              refine z_cV (pc := 53) (mc1 := 0) (ms1 := 0) (mc2 := 0) (ms2 := 0) (as := []) (rest := []) (o := 3) rfl rfl hk.1 ok_Reader_next rfl rfl cl_Reader_58 (by omega) (Nat.le_of_ble_eq_true rfl) (Nat.le_of_ble_eq_true rfl) (Nat.le_refl _) (Nat.le_refl _) (c_Reader_next hk _ hQ.1 4 (by decide)) (fun r1 w1 hp => ?_) rfl rfl
              obtain ⟨rfl, hF1, hS1⟩ := hp
              refine ⟨⟨by rw [hF1.1]; exact Nat.le_refl _, Or.inl (by rw [hF1.1])⟩, ?_⟩
              have hQ1 := rQ_F hQ h3 hF1 hS1
              have hG1 : rG L w w1 := rG_F hF1
              have hk1 := rdK_F hk hF1
              have hl1 := rG_l hG1 hl
              refine z_aload_n (pc := 56) (i := 0) (j := 0) rfl rfl rfl ?_
              refine z_iload_n (pc := 57) (i := 1) (j := 1) rfl rfl rfl ?_
              refine z_cV (pc := 58) (mc1 := 0) (ms1 := 0) (mc2 := 0) (ms2 := 0) (as := [.int (nI x)]) (rest := []) (o := 3) rfl rfl hk1.1 ok_Reader_readTest rfl rfl cl_Reader_191 (by omega) (Nat.le_of_ble_eq_true rfl) (Nat.le_of_ble_eq_true rfl) (Nat.le_refl _) (Nat.le_refl _) (hP w1 _ hk1 hl1 hQ1) (fun r1 w2 hp => ?_) rfl rfl
              obtain ⟨rfl, hG2, hQ2⟩ := hp
              refine ⟨⟨by rw [hG2.1]; exact Nat.le_refl _, Or.inl (by rw [hG2.1])⟩, ?_⟩
              have hk2 := rdK_G hk1 h3 hG2
              have hl2 := rG_l hG2 hl1
              refine z_aload_n (pc := 61) (i := 0) (j := 0) rfl rfl rfl ?_
              refine z_getR (pc := 62) (x := L) rfl fl_Reader_29 hk2.1 rfl hl2 ?_
              refine z_iload_n (pc := 65) (i := 3) (j := 3) rfl rfl rfl ?_
              refine z_cV (pc := 66) (mc1 := 0) (ms1 := 0) (mc2 := 0) (ms2 := 0) (as := [.int (-6)]) (rest := []) (o := L) rfl rfl (rLo_k hk2 hL).1 ok_Law_addStep rfl rfl cl_Reader_200 (by omega) (Nat.le_of_ble_eq_true rfl) (Nat.le_of_ble_eq_true rfl) (Nat.le_refl _) (Nat.le_refl _) (c_addQ hk2 hL hQ2 (-6) 1) (fun r1 w3 hp => ?_) rfl rfl
              obtain ⟨rfl, hG3, hQ3⟩ := hp
              refine ⟨⟨by rw [hG3.1]; exact Nat.le_refl _, Or.inl (by rw [hG3.1])⟩, ?_⟩
              have hk3 := rdK_G hk2 h3 hG3
              have hl3 := rG_l hG3 hl2
              refine z_iinc (pc := 69) (i := 2) (j := 2) (v := nI (i + 1)) (ls' := [(0, .ref 3), (1, .int (nI x)), (2, .int (nI (i + 1))), (3, .int (-6))]) rfl rfl (nI_1 i) (by decide) rfl ?_
              refine z_goto (pc := 72) (tgt := 7) rfl (by decide) ?_
              have e0 : whl (bCho T n) (fun q => qA (if tkw T n q.1 = some 1000014 then -6 else -7) (cTest T n pt (qN T n q))) (m + 1) q = whl (bCho T n) (fun q => qA (if tkw T n q.1 = some 1000014 then -6 else -7) (cTest T n pt (qN T n q))) m ((fun q => qA (if tkw T n q.1 = some 1000014 then -6 else -7) (cTest T n pt (qN T n q))) q) := whl_t (decide_eq_true (Or.inr ((rS_w hQ.1).symm.trans h31)))
              have e1 : (fun q => qA (if tkw T n q.1 = some 1000014 then -6 else -7) (cTest T n pt (qN T n q))) q = qA (-6) (cTest T n pt (qN T n q)) := by show qA (if _ then _ else _) _ = _; rw [if_pos ((rS_w hQ.1).symm.trans h41)]
              refine z_mono (fun r w9 h9 => ?_) (z_drop ?_ (ih (i + 1) w3 _ (by omega) hk3 hl3 hQ3))
              · obtain ⟨h91, h92, h93⟩ := h9
                exact ⟨h91, rG_t hG1 (rG_t hG2 (rG_t hG3 h92)), by rw [e0, e1]; exact h93⟩
              · simp
set_option maxRecDepth 100000 in
set_option maxHeartbeats 4000000 in
theorem c_Reader_readChoice {T : Nat → Int32} {n s L x d : Nat} (hL : rLo s L) {pt : rQt → rQt} (hP : RC T n s L m_Reader_readTest x d (cTest T n pt)) : RC T n s L m_Reader_readChoice x (d + 5) (cChoice T n pt) := by
  intro w q hk hl hQ
  have h3 := rLo_3 hk hL
  have hP2 := hP
  refine z_aload_n (pc := 0) (i := 0) (j := 0) rfl rfl rfl ?_
  refine z_iload_n (pc := 1) (i := 1) (j := 1) rfl rfl rfl ?_
  refine z_cV (pc := 2) (mc1 := 0) (ms1 := 0) (mc2 := 0) (ms2 := 0) (as := [.int (nI x)]) (rest := []) (o := 3) rfl rfl hk.1 ok_Reader_readTest rfl rfl cl_Reader_191 (by omega) (Nat.le_of_ble_eq_true rfl) (Nat.le_of_ble_eq_true rfl) (Nat.le_refl _) (Nat.le_refl _) (hP w _ hk hl hQ) (fun r1 w1 hp => ?_) rfl rfl
  obtain ⟨rfl, hG1, hQ1⟩ := hp
  refine ⟨⟨by rw [hG1.1]; exact Nat.le_refl _, Or.inl (by rw [hG1.1])⟩, ?_⟩
  have hk1 := rdK_G hk h3 hG1
  have hl1 := rG_l hG1 hl
  refine z_iconst (pc := 5) (v := 0) rfl (by decide) ?_
  refine z_istore_n (pc := 6) (i := 2) (ls' := [(0, .ref 3), (1, .int (nI x)), (2, .int 0)]) rfl rfl (by decide) rfl ?_
  refine z_mono (fun r w9 h9 => ?_) (l_Reader_readChoice hL hP2 1000 0 w1 _ rfl hk1 hl1 hQ1)
  obtain ⟨h91, h92, h93⟩ := h9
  exact ⟨h91, rG_t hG1 h92, h93⟩
