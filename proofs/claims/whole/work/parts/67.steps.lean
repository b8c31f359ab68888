/-! THE READER'S SMALL STEPS: a number within, a word, a name, a kind -/
def fltS : Nat ⊕ Int32 → Int32
  | .inl _ => 0
  | .inr k => k
theorem rS_f {w : zW} {T : Nat → Int32} {n : Nat} {q : Nat ⊕ Int32} (h : rS w T n q) : zI w 3 9 = fltS q := by
  cases q with
  | inl p => exact h.1
  | inr k => exact h.1
theorem rS_0 {w : zW} {T : Nat → Int32} {n : Nat} {q : Nat ⊕ Int32} (h : rS w T n q) (h2 : tkc T n q ≠ 1) : zI w 3 9 = 0 := by
  cases q with
  | inl p => exact h.1
  | inr k => exact absurd rfl h2
theorem rS_bad {w : zW} {T : Nat → Int32} {n : Nat} {k : Int32} {q : Nat ⊕ Int32} (h : rS w T n (wrg T n k q)) : zI w 3 9 ≠ 0 := by
  cases q with
  | inl p => rw [h.1]; exact h.2.1
  | inr j => rw [h.1]; exact h.2.1
theorem nxt_wrg (T : Nat → Int32) (n : Nat) (k : Int32) (q : Nat ⊕ Int32) : nxt T n (wrg T n k q) = wrg T n k q := by cases q <;> rfl
def numW (T : Nat → Int32) (n : Nat) (a b : Int32) (q : Nat ⊕ Int32) : Int32 × (Nat ⊕ Int32) := if tkc T n q = 2 then (if tkn T n q < a then (a, wrg T n 4 q) else if tkn T n q ≤ b then (tkn T n q, nxt T n q) else (a, wrg T n 4 q)) else (a, wrg T n 1 q)
def expW (T : Nat → Int32) (n : Nat) (c : Option Nat) (q : Nat ⊕ Int32) : Nat ⊕ Int32 := if tkw T n q = c then nxt T n q else wrg T n 1 q
def onceS (T : Nat → Int32) (n : Nat) (t : Int32) (q : Nat ⊕ Int32) : Nat ⊕ Int32 := if t = 0 then nxt T n q else wrg T n 3 q
def kndO (o : Option Nat) : Int32 := match o with
  | none => -1
  | some a => zkk.getD (a - 1000000) 0
def resO (o : Option Nat) : Int32 := match o with
  | none => 0
  | some a => zkr.getD (a - 1000000) 0
def kndS (T : Nat → Int32) (n : Nat) (q : Nat ⊕ Int32) : Nat ⊕ Int32 := if kndO (tkw T n q) = -1 then wrg T n 1 q else nxt T n q
set_option maxRecDepth 100000 in
set_option maxHeartbeats 4000000 in
theorem c_Reader_numberWithin {w : zW} {s n : Nat} {T : Nat → Int32} (hk : rdK w s n T) (q : Nat ⊕ Int32) (hq : rS w T n q) (a b : Int32) (d : Nat) (hd : 5 ≤ d) : zS 0 0 d m_Reader_numberWithin (fun rv w1 => rv = some (.int (numW T n a b q).1) ∧ rF w w1 ∧ rS w1 T n (numW T n a b q).2) 0 [(0, .ref 3), (1, .int a), (2, .int b)] [] w := by
  refine z_aload_n (pc := 0) (i := 0) (j := 0) rfl rfl rfl ?_
  refine z_getI (pc := 1) rfl fl_Reader_61 hk.1 rfl ?_
  refine z_eqi (y := tkc T n q) (rS_c hq) ?_
  refine z_iconst (pc := 4) (v := 2) rfl (by decide) ?_
  refine z_icmp_eq (pc := 5) (tgt := 16) rfl (by decide) (fun h5 => ?_) (fun h5 => ?_)
  · refine z_aload_n (pc := 16) (i := 0) (j := 0) rfl rfl rfl ?_
    refine z_getI (pc := 17) rfl fl_Reader_183 hk.1 rfl ?_
    refine z_eqi (y := tkn T n q) (rS_n hq h5) ?_
    refine z_iload_n (pc := 20) (i := 1) (j := 1) rfl rfl rfl ?_
    refine z_icmp_lt (pc := 21) (tgt := 32) rfl (by decide) (fun h21 => ?_) (fun h21 => ?_)
    · refine z_aload_n (pc := 32) (i := 0) (j := 0) rfl rfl rfl ?_
      refine z_iconst (pc := 33) (v := 4) rfl (by decide) ?_
      refine z_cV (pc := 34) (mc1 := 0) (ms1 := 0) (mc2 := 0) (ms2 := 0) (as := [.int 4]) (rest := []) (o := 3) rfl rfl hk.1 ok_Reader_wrong rfl rfl cl_Reader_122 (by omega) (Nat.le_of_ble_eq_true rfl) (Nat.le_of_ble_eq_true rfl) (Nat.le_refl _) (Nat.le_refl _) (c_Reader_wrong4 hk q hq 1 (by decide)) (fun r1 w1 hp => ?_) rfl rfl
      obtain ⟨rfl, hF1, hS1⟩ := hp
      refine ⟨⟨by rw [hF1.1]; exact Nat.le_refl _, Or.inl (by rw [hF1.1])⟩, ?_⟩
      have hk1 := rdK_F hk hF1
      refine z_aload_n (pc := 37) (i := 0) (j := 0) rfl rfl rfl ?_
      refine z_getI (pc := 38) rfl fl_Reader_39 hk1.1 rfl ?_
      refine z_if_ne (pc := 41) (tgt := 51) rfl (by decide) (fun h41 => ?_) (fun h41 => ?_)
      · refine z_iload_n (pc := 51) (i := 1) (j := 1) rfl rfl rfl ?_
        refine z_istore_n (pc := 52) (i := 3) (ls' := [(0, .ref 3), (1, .int a), (2, .int b), (3, .int a)]) rfl rfl (by decide) rfl ?_
        refine z_aload_n (pc := 53) (i := 0) (j := 0) rfl rfl rfl ?_
        refine z_cV (pc := 54) (mc1 := 0) (ms1 := 0) (mc2 := 0) (ms2 := 0) (as := []) (rest := []) (o := 3) rfl rfl hk1.1 ok_Reader_next rfl rfl cl_Reader_58 (by omega) (Nat.le_of_ble_eq_true rfl) (Nat.le_of_ble_eq_true rfl) (Nat.le_refl _) (Nat.le_refl _) (c_Reader_next hk1 _ hS1 4 (by decide)) (fun r1 w2 hp => ?_) rfl rfl
        obtain ⟨rfl, hF2, hS2⟩ := hp
        refine ⟨⟨by rw [hF2.1]; exact Nat.le_refl _, Or.inl (by rw [hF2.1])⟩, ?_⟩
        have hk2 := rdK_F hk1 hF2
        refine z_iload_n (pc := 57) (i := 3) (j := 3) rfl rfl rfl ?_
        exact z_iret (pc := 58) rfl rfl ⟨by unfold numW; rw [if_pos h5, if_pos h21], rF_t hF1 hF2, by unfold numW; rw [if_pos h5, if_pos h21, ← nxt_wrg]; exact hS2⟩
      · exact absurd h41 (rS_bad hS1)
    · refine z_aload_n (pc := 24) (i := 0) (j := 0) rfl rfl rfl ?_
      refine z_getI (pc := 25) rfl fl_Reader_183 hk.1 rfl ?_
      refine z_eqi (y := tkn T n q) (rS_n hq h5) ?_
      refine z_iload_n (pc := 28) (i := 2) (j := 2) rfl rfl rfl ?_
      refine z_icmp_le (pc := 29) (tgt := 37) rfl (by decide) (fun h29 => ?_) (fun h29 => ?_)
      · refine z_aload_n (pc := 37) (i := 0) (j := 0) rfl rfl rfl ?_
        refine z_getI (pc := 38) rfl fl_Reader_39 hk.1 rfl ?_
        refine z_eqi (y := 0) (rS_0 hq (by rw [h5]; decide)) ?_
        refine z_if_ne (pc := 41) (tgt := 51) rfl (by decide) (fun h41 => ?_) (fun h41 => ?_)
        · exact absurd rfl h41
        · refine z_aload_n (pc := 44) (i := 0) (j := 0) rfl rfl rfl ?_
          refine z_getI (pc := 45) rfl fl_Reader_183 hk.1 rfl ?_
          refine z_eqi (y := tkn T n q) (rS_n hq h5) ?_
          refine z_goto (pc := 48) (tgt := 52) rfl (by decide) ?_
          refine z_istore_n (pc := 52) (i := 3) (ls' := [(0, .ref 3), (1, .int a), (2, .int b), (3, .int (tkn T n q))]) rfl rfl (by decide) rfl ?_
          refine z_aload_n (pc := 53) (i := 0) (j := 0) rfl rfl rfl ?_
          refine z_cV (pc := 54) (mc1 := 0) (ms1 := 0) (mc2 := 0) (ms2 := 0) (as := []) (rest := []) (o := 3) rfl rfl hk.1 ok_Reader_next rfl rfl cl_Reader_58 (by omega) (Nat.le_of_ble_eq_true rfl) (Nat.le_of_ble_eq_true rfl) (Nat.le_refl _) (Nat.le_refl _) (c_Reader_next hk q hq 4 (by decide)) (fun r1 w2 hp => ?_) rfl rfl
          obtain ⟨rfl, hF2, hS2⟩ := hp
          refine ⟨⟨by rw [hF2.1]; exact Nat.le_refl _, Or.inl (by rw [hF2.1])⟩, ?_⟩
          have hk2 := rdK_F hk hF2
          refine z_iload_n (pc := 57) (i := 3) (j := 3) rfl rfl rfl ?_
          exact z_iret (pc := 58) rfl rfl ⟨by unfold numW; rw [if_pos h5, if_neg h21, if_pos h29], hF2, by unfold numW; rw [if_pos h5, if_neg h21, if_pos h29]; exact hS2⟩
      · refine z_aload_n (pc := 32) (i := 0) (j := 0) rfl rfl rfl ?_
        refine z_iconst (pc := 33) (v := 4) rfl (by decide) ?_
        refine z_cV (pc := 34) (mc1 := 0) (ms1 := 0) (mc2 := 0) (ms2 := 0) (as := [.int 4]) (rest := []) (o := 3) rfl rfl hk.1 ok_Reader_wrong rfl rfl cl_Reader_122 (by omega) (Nat.le_of_ble_eq_true rfl) (Nat.le_of_ble_eq_true rfl) (Nat.le_refl _) (Nat.le_refl _) (c_Reader_wrong4 hk q hq 1 (by decide)) (fun r1 w1 hp => ?_) rfl rfl
        obtain ⟨rfl, hF1, hS1⟩ := hp
        refine ⟨⟨by rw [hF1.1]; exact Nat.le_refl _, Or.inl (by rw [hF1.1])⟩, ?_⟩
        have hk1 := rdK_F hk hF1
        refine z_aload_n (pc := 37) (i := 0) (j := 0) rfl rfl rfl ?_
        refine z_getI (pc := 38) rfl fl_Reader_39 hk1.1 rfl ?_
        refine z_if_ne (pc := 41) (tgt := 51) rfl (by decide) (fun h41 => ?_) (fun h41 => ?_)
        · refine z_iload_n (pc := 51) (i := 1) (j := 1) rfl rfl rfl ?_
          refine z_istore_n (pc := 52) (i := 3) (ls' := [(0, .ref 3), (1, .int a), (2, .int b), (3, .int a)]) rfl rfl (by decide) rfl ?_
          refine z_aload_n (pc := 53) (i := 0) (j := 0) rfl rfl rfl ?_
          refine z_cV (pc := 54) (mc1 := 0) (ms1 := 0) (mc2 := 0) (ms2 := 0) (as := []) (rest := []) (o := 3) rfl rfl hk1.1 ok_Reader_next rfl rfl cl_Reader_58 (by omega) (Nat.le_of_ble_eq_true rfl) (Nat.le_of_ble_eq_true rfl) (Nat.le_refl _) (Nat.le_refl _) (c_Reader_next hk1 _ hS1 4 (by decide)) (fun r1 w2 hp => ?_) rfl rfl
          obtain ⟨rfl, hF2, hS2⟩ := hp
          refine ⟨⟨by rw [hF2.1]; exact Nat.le_refl _, Or.inl (by rw [hF2.1])⟩, ?_⟩
          have hk2 := rdK_F hk1 hF2
          refine z_iload_n (pc := 57) (i := 3) (j := 3) rfl rfl rfl ?_
          exact z_iret (pc := 58) rfl rfl ⟨by unfold numW; rw [if_pos h5, if_neg h21, if_neg h29], rF_t hF1 hF2, by unfold numW; rw [if_pos h5, if_neg h21, if_neg h29, ← nxt_wrg]; exact hS2⟩
        · exact absurd h41 (rS_bad hS1)
  · refine z_aload_n (pc := 8) (i := 0) (j := 0) rfl rfl rfl ?_
    refine z_iconst (pc := 9) (v := 1) rfl (by decide) ?_
    refine z_cV (pc := 10) (mc1 := 0) (ms1 := 0) (mc2 := 0) (ms2 := 0) (as := [.int 1]) (rest := []) (o := 3) rfl rfl hk.1 ok_Reader_wrong rfl rfl cl_Reader_122 (by omega) (Nat.le_of_ble_eq_true rfl) (Nat.le_of_ble_eq_true rfl) (Nat.le_refl _) (Nat.le_refl _) (c_Reader_wrong1 hk q hq 1 (by decide)) (fun r1 w1 hp => ?_) rfl rfl
    obtain ⟨rfl, hF1, hS1⟩ := hp
    refine ⟨⟨by rw [hF1.1]; exact Nat.le_refl _, Or.inl (by rw [hF1.1])⟩, ?_⟩
    have hk1 := rdK_F hk hF1
    refine z_goto (pc := 13) (tgt := 37) rfl (by decide) ?_
    refine z_aload_n (pc := 37) (i := 0) (j := 0) rfl rfl rfl ?_
    refine z_getI (pc := 38) rfl fl_Reader_39 hk1.1 rfl ?_
    refine z_if_ne (pc := 41) (tgt := 51) rfl (by decide) (fun h41 => ?_) (fun h41 => ?_)
    · refine z_iload_n (pc := 51) (i := 1) (j := 1) rfl rfl rfl ?_
      refine z_istore_n (pc := 52) (i := 3) (ls' := [(0, .ref 3), (1, .int a), (2, .int b), (3, .int a)]) rfl rfl (by decide) rfl ?_
      refine z_aload_n (pc := 53) (i := 0) (j := 0) rfl rfl rfl ?_
      refine z_cV (pc := 54) (mc1 := 0) (ms1 := 0) (mc2 := 0) (ms2 := 0) (as := []) (rest := []) (o := 3) rfl rfl hk1.1 ok_Reader_next rfl rfl cl_Reader_58 (by omega) (Nat.le_of_ble_eq_true rfl) (Nat.le_of_ble_eq_true rfl) (Nat.le_refl _) (Nat.le_refl _) (c_Reader_next hk1 _ hS1 4 (by decide)) (fun r1 w2 hp => ?_) rfl rfl
      obtain ⟨rfl, hF2, hS2⟩ := hp
      refine ⟨⟨by rw [hF2.1]; exact Nat.le_refl _, Or.inl (by rw [hF2.1])⟩, ?_⟩
      have hk2 := rdK_F hk1 hF2
      refine z_iload_n (pc := 57) (i := 3) (j := 3) rfl rfl rfl ?_
      exact z_iret (pc := 58) rfl rfl ⟨by unfold numW; rw [if_neg h5], rF_t hF1 hF2, by unfold numW; rw [if_neg h5, ← nxt_wrg]; exact hS2⟩
    · exact absurd h41 (rS_bad hS1)
set_option maxRecDepth 100000 in
set_option maxHeartbeats 4000000 in
theorem c_Reader_expectWord {w : zW} {s n : Nat} {T : Nat → Int32} (hk : rdK w s n T) (q : Nat ⊕ Int32) (hq : rS w T n q) {c : Nat} (hc1 : 1000000 ≤ c) (hc2 : c < 1000019) (d : Nat) (hd : 5 ≤ d) : zS 0 0 d m_Reader_expectWord (fun rv w1 => rv = none ∧ rF w w1 ∧ rS w1 T n (expW T n (some c) q)) 0 [(0, .ref 3), (1, .ref c)] [] w := by
  refine z_aload_n (pc := 0) (i := 0) (j := 0) rfl rfl rfl ?_
  refine z_getA (pc := 1) rfl fl_Reader_67 hk.1 rfl ?_
  refine z_aload_n (pc := 4) (i := 1) (j := 1) rfl rfl rfl ?_
  refine z_acmp_eq (x := (zR w 3 8)) (y := (some c)) (pc := 5) (tgt := 13) rfl (by decide) (zid_t hq) (zid_c hc1 hc2) (fun h5 => ?_) (fun h5 => ?_)
  · refine z_aload_n (pc := 13) (i := 0) (j := 0) rfl rfl rfl ?_
    refine z_cV (pc := 14) (mc1 := 0) (ms1 := 0) (mc2 := 0) (ms2 := 0) (as := []) (rest := []) (o := 3) rfl rfl hk.1 ok_Reader_next rfl rfl cl_Reader_58 (by omega) (Nat.le_of_ble_eq_true rfl) (Nat.le_of_ble_eq_true rfl) (Nat.le_refl _) (Nat.le_refl _) (c_Reader_next hk q hq 4 (by decide)) (fun r1 w2 hp => ?_) rfl rfl
    obtain ⟨rfl, hF2, hS2⟩ := hp
    refine ⟨⟨by rw [hF2.1]; exact Nat.le_refl _, Or.inl (by rw [hF2.1])⟩, ?_⟩
    have hk2 := rdK_F hk hF2
    exact z_vret (pc := 17) rfl rfl ⟨rfl, hF2, by unfold expW; rw [if_pos ((rS_w hq).symm.trans h5)]; exact hS2⟩
  · refine z_aload_n (pc := 8) (i := 0) (j := 0) rfl rfl rfl ?_
    refine z_iconst (pc := 9) (v := 1) rfl (by decide) ?_
    refine z_cV (pc := 10) (mc1 := 0) (ms1 := 0) (mc2 := 0) (ms2 := 0) (as := [.int 1]) (rest := []) (o := 3) rfl rfl hk.1 ok_Reader_wrong rfl rfl cl_Reader_122 (by omega) (Nat.le_of_ble_eq_true rfl) (Nat.le_of_ble_eq_true rfl) (Nat.le_refl _) (Nat.le_refl _) (c_Reader_wrong1 hk q hq 1 (by decide)) (fun r1 w1 hp => ?_) rfl rfl
    obtain ⟨rfl, hF1, hS1⟩ := hp
    refine ⟨⟨by rw [hF1.1]; exact Nat.le_refl _, Or.inl (by rw [hF1.1])⟩, ?_⟩
    have hk1 := rdK_F hk hF1
    refine z_aload_n (pc := 13) (i := 0) (j := 0) rfl rfl rfl ?_
    refine z_cV (pc := 14) (mc1 := 0) (ms1 := 0) (mc2 := 0) (ms2 := 0) (as := []) (rest := []) (o := 3) rfl rfl hk1.1 ok_Reader_next rfl rfl cl_Reader_58 (by omega) (Nat.le_of_ble_eq_true rfl) (Nat.le_of_ble_eq_true rfl) (Nat.le_refl _) (Nat.le_refl _) (c_Reader_next hk1 _ hS1 4 (by decide)) (fun r1 w2 hp => ?_) rfl rfl
    obtain ⟨rfl, hF2, hS2⟩ := hp
    refine ⟨⟨by rw [hF2.1]; exact Nat.le_refl _, Or.inl (by rw [hF2.1])⟩, ?_⟩
    have hk2 := rdK_F hk1 hF2
    exact z_vret (pc := 17) rfl rfl ⟨rfl, rF_t hF1 hF2, by unfold expW; rw [if_neg (fun z => h5 ((rS_w hq).trans z)), ← nxt_wrg]; exact hS2⟩
set_option maxRecDepth 100000 in
set_option maxHeartbeats 4000000 in
theorem c_Reader_once {w : zW} {s n : Nat} {T : Nat → Int32} (hk : rdK w s n T) (q : Nat ⊕ Int32) (hq : rS w T n q) (t : Int32) (d : Nat) (hd : 5 ≤ d) : zS 0 0 d m_Reader_once (fun rv w1 => rv = some (.int 1) ∧ rF w w1 ∧ rS w1 T n (onceS T n t q)) 0 [(0, .ref 3), (1, .int t)] [] w := by
  refine z_iload_n (pc := 0) (i := 1) (j := 1) rfl rfl rfl ?_
  refine z_if_eq (pc := 1) (tgt := 9) rfl (by decide) (fun h1 => ?_) (fun h1 => ?_)
  · refine z_aload_n (pc := 9) (i := 0) (j := 0) rfl rfl rfl ?_
    refine z_cV (pc := 10) (mc1 := 0) (ms1 := 0) (mc2 := 0) (ms2 := 0) (as := []) (rest := []) (o := 3) rfl rfl hk.1 ok_Reader_next rfl rfl cl_Reader_58 (by omega) (Nat.le_of_ble_eq_true rfl) (Nat.le_of_ble_eq_true rfl) (Nat.le_refl _) (Nat.le_refl _) (c_Reader_next hk q hq 4 (by decide)) (fun r1 w2 hp => ?_) rfl rfl
    obtain ⟨rfl, hF2, hS2⟩ := hp
    refine ⟨⟨by rw [hF2.1]; exact Nat.le_refl _, Or.inl (by rw [hF2.1])⟩, ?_⟩
    have hk2 := rdK_F hk hF2
    refine z_iconst (pc := 13) (v := 1) rfl (by decide) ?_
    exact z_zret (pc := 14) rfl rfl (by decide) ⟨rfl, hF2, by unfold onceS; rw [if_pos h1]; exact hS2⟩
  · refine z_aload_n (pc := 4) (i := 0) (j := 0) rfl rfl rfl ?_
    refine z_iconst (pc := 5) (v := 3) rfl (by decide) ?_
    refine z_cV (pc := 6) (mc1 := 0) (ms1 := 0) (mc2 := 0) (ms2 := 0) (as := [.int 3]) (rest := []) (o := 3) rfl rfl hk.1 ok_Reader_wrong rfl rfl cl_Reader_122 (by omega) (Nat.le_of_ble_eq_true rfl) (Nat.le_of_ble_eq_true rfl) (Nat.le_refl _) (Nat.le_refl _) (c_Reader_wrong3 hk q hq 1 (by decide)) (fun r1 w1 hp => ?_) rfl rfl
    obtain ⟨rfl, hF1, hS1⟩ := hp
    refine ⟨⟨by rw [hF1.1]; exact Nat.le_refl _, Or.inl (by rw [hF1.1])⟩, ?_⟩
    have hk1 := rdK_F hk hF1
    refine z_aload_n (pc := 9) (i := 0) (j := 0) rfl rfl rfl ?_
    refine z_cV (pc := 10) (mc1 := 0) (ms1 := 0) (mc2 := 0) (ms2 := 0) (as := []) (rest := []) (o := 3) rfl rfl hk1.1 ok_Reader_next rfl rfl cl_Reader_58 (by omega) (Nat.le_of_ble_eq_true rfl) (Nat.le_of_ble_eq_true rfl) (Nat.le_refl _) (Nat.le_refl _) (c_Reader_next hk1 _ hS1 4 (by decide)) (fun r1 w2 hp => ?_) rfl rfl
    obtain ⟨rfl, hF2, hS2⟩ := hp
    refine ⟨⟨by rw [hF2.1]; exact Nat.le_refl _, Or.inl (by rw [hF2.1])⟩, ?_⟩
    have hk2 := rdK_F hk1 hF2
    refine z_iconst (pc := 13) (v := 1) rfl (by decide) ?_
    exact z_zret (pc := 14) rfl rfl (by decide) ⟨rfl, rF_t hF1 hF2, by unfold onceS; rw [if_neg h1, ← nxt_wrg]; exact hS2⟩
theorem z_word {mc ms d : Nat} {M : zM} {P : Option Value → zW → Prop} {pc : Nat} {ls : List (Nat × Value)} {st : List Value} {w : zW} {idx a : Nat} {n1 d1 : String} {g : List Int32} (hf : zM.f M pc = some (.getfield idx, 3)) (hm : ("SmokeWeds$Word", n1, d1, fun k => Value.int (g.getD k 0)) ∈ zkF) (hw : Cond.fieldLink (zM.y M).cls idx "SmokeWeds$Word" n1 d1 ∈ zT) (ha : 1000000 ≤ a ∧ a < 1000019) (k : zS mc ms d M P (pc + 3) ls (.int (g.getD (a - 1000000) 0) :: st) w) : zS mc ms d M P pc ls (.ref a :: st) w := by
  obtain ⟨i, rfl⟩ : ∃ i, a = 1000000 + i := ⟨a - 1000000, by omega⟩
  rw [show 1000000 + i - 1000000 = i by omega] at k
  exact z_kget (f := fun k => Value.int (g.getD k 0)) hf hm (by omega) hw (fun _ => rfl) k
set_option maxRecDepth 100000 in
set_option maxHeartbeats 4000000 in
theorem c_Reader_expectKind {w : zW} {s n : Nat} {T : Nat → Int32} (hk : rdK w s n T) (q : Nat ⊕ Int32) (hq : rS w T n q) (d : Nat) (hd : 5 ≤ d) : zS 0 0 d m_Reader_expectKind (fun rv w1 => rv = some (.int (kndO (tkw T n q))) ∧ rF w w1 ∧ rS w1 T n (kndS T n q)) 0 [(0, .ref 3)] [] w := by
  cases hw : zR w 3 8 with
  | none =>
    refine z_aload_n (pc := 0) (i := 0) (j := 0) rfl rfl rfl ?_
    refine z_getN (pc := 1) rfl fl_Reader_67 hk.1 rfl hw ?_
    refine z_nonnullN (pc := 4) rfl ?_
    refine z_iconst (pc := 7) (v := (-1)) rfl (by decide) ?_
    refine z_goto (pc := 8) (tgt := 18) rfl (by decide) ?_
    refine z_istore_n (pc := 18) (i := 1) (ls' := [(0, .ref 3), (1, .int (-1))]) rfl rfl (by decide) rfl ?_
    refine z_iload_n (pc := 19) (i := 1) (j := 1) rfl rfl rfl ?_
    refine z_iconst (pc := 20) (v := (-1)) rfl (by decide) ?_
    refine z_icmp_ne (pc := 21) (tgt := 29) rfl (by decide) (fun h21 => ?_) (fun h21 => ?_)
    · exact absurd rfl h21
    · refine z_aload_n (pc := 24) (i := 0) (j := 0) rfl rfl rfl ?_
      refine z_iconst (pc := 25) (v := 1) rfl (by decide) ?_
      refine z_cV (pc := 26) (mc1 := 0) (ms1 := 0) (mc2 := 0) (ms2 := 0) (as := [.int 1]) (rest := []) (o := 3) rfl rfl hk.1 ok_Reader_wrong rfl rfl cl_Reader_122 (by omega) (Nat.le_of_ble_eq_true rfl) (Nat.le_of_ble_eq_true rfl) (Nat.le_refl _) (Nat.le_refl _) (c_Reader_wrong1 hk q hq 1 (by decide)) (fun r1 w1 hp => ?_) rfl rfl
      obtain ⟨rfl, hF1, hS1⟩ := hp
      refine ⟨⟨by rw [hF1.1]; exact Nat.le_refl _, Or.inl (by rw [hF1.1])⟩, ?_⟩
      have hk1 := rdK_F hk hF1
      refine z_aload_n (pc := 29) (i := 0) (j := 0) rfl rfl rfl ?_
      refine z_cV (pc := 30) (mc1 := 0) (ms1 := 0) (mc2 := 0) (ms2 := 0) (as := []) (rest := []) (o := 3) rfl rfl hk1.1 ok_Reader_next rfl rfl cl_Reader_58 (by omega) (Nat.le_of_ble_eq_true rfl) (Nat.le_of_ble_eq_true rfl) (Nat.le_refl _) (Nat.le_refl _) (c_Reader_next hk1 _ hS1 4 (by decide)) (fun r1 w2 hp => ?_) rfl rfl
      obtain ⟨rfl, hF2, hS2⟩ := hp
      refine ⟨⟨by rw [hF2.1]; exact Nat.le_refl _, Or.inl (by rw [hF2.1])⟩, ?_⟩
      have hk2 := rdK_F hk1 hF2
      refine z_iload_n (pc := 33) (i := 1) (j := 1) rfl rfl rfl ?_
      exact z_iret (pc := 34) rfl rfl ⟨by rw [show kndO (tkw T n q) = -1 from by rw [← rS_w hq, hw]; rfl], rF_t hF1 hF2, by unfold kndS; rw [show kndO (tkw T n q) = -1 from by rw [← rS_w hq, hw]; rfl]; rw [if_pos rfl, ← nxt_wrg]; exact hS2⟩
  | some a =>
    have ha := tkw_c ((rS_w hq).symm.trans hw)
    refine z_aload_n (pc := 0) (i := 0) (j := 0) rfl rfl rfl ?_
    refine z_getR (pc := 1) (x := a) rfl fl_Reader_67 hk.1 rfl hw ?_
    refine z_nonnull (pc := 4) (tgt := 11) rfl (by decide) ?_
    refine z_aload_n (pc := 11) (i := 0) (j := 0) rfl rfl rfl ?_
    refine z_getR (pc := 12) (x := a) rfl fl_Reader_67 hk.1 rfl hw ?_
    refine z_word (pc := 15) (g := zkk) (n1 := "kind") (d1 := "I") rfl (by simp [zkF]) gl_Reader_180 ha ?_
    refine z_istore_n (pc := 18) (i := 1) (ls' := [(0, .ref 3), (1, .int (zkk.getD (a - 1000000) 0))]) rfl rfl (by decide) rfl ?_
    refine z_iload_n (pc := 19) (i := 1) (j := 1) rfl rfl rfl ?_
    refine z_iconst (pc := 20) (v := (-1)) rfl (by decide) ?_
    refine z_icmp_ne (pc := 21) (tgt := 29) rfl (by decide) (fun h21 => ?_) (fun h21 => ?_)
    · refine z_aload_n (pc := 29) (i := 0) (j := 0) rfl rfl rfl ?_
      refine z_cV (pc := 30) (mc1 := 0) (ms1 := 0) (mc2 := 0) (ms2 := 0) (as := []) (rest := []) (o := 3) rfl rfl hk.1 ok_Reader_next rfl rfl cl_Reader_58 (by omega) (Nat.le_of_ble_eq_true rfl) (Nat.le_of_ble_eq_true rfl) (Nat.le_refl _) (Nat.le_refl _) (c_Reader_next hk q hq 4 (by decide)) (fun r1 w2 hp => ?_) rfl rfl
      obtain ⟨rfl, hF2, hS2⟩ := hp
      refine ⟨⟨by rw [hF2.1]; exact Nat.le_refl _, Or.inl (by rw [hF2.1])⟩, ?_⟩
      have hk2 := rdK_F hk hF2
      refine z_iload_n (pc := 33) (i := 1) (j := 1) rfl rfl rfl ?_
      exact z_iret (pc := 34) rfl rfl ⟨by rw [show kndO (tkw T n q) = zkk.getD (a - 1000000) 0 from by rw [← rS_w hq, hw]; rfl], hF2, by unfold kndS; rw [show kndO (tkw T n q) = zkk.getD (a - 1000000) 0 from by rw [← rS_w hq, hw]; rfl]; rw [if_neg h21]; exact hS2⟩
    · refine z_aload_n (pc := 24) (i := 0) (j := 0) rfl rfl rfl ?_
      refine z_iconst (pc := 25) (v := 1) rfl (by decide) ?_
      refine z_cV (pc := 26) (mc1 := 0) (ms1 := 0) (mc2 := 0) (ms2 := 0) (as := [.int 1]) (rest := []) (o := 3) rfl rfl hk.1 ok_Reader_wrong rfl rfl cl_Reader_122 (by omega) (Nat.le_of_ble_eq_true rfl) (Nat.le_of_ble_eq_true rfl) (Nat.le_refl _) (Nat.le_refl _) (c_Reader_wrong1 hk q hq 1 (by decide)) (fun r1 w1 hp => ?_) rfl rfl
      obtain ⟨rfl, hF1, hS1⟩ := hp
      refine ⟨⟨by rw [hF1.1]; exact Nat.le_refl _, Or.inl (by rw [hF1.1])⟩, ?_⟩
      have hk1 := rdK_F hk hF1
      refine z_aload_n (pc := 29) (i := 0) (j := 0) rfl rfl rfl ?_
      refine z_cV (pc := 30) (mc1 := 0) (ms1 := 0) (mc2 := 0) (ms2 := 0) (as := []) (rest := []) (o := 3) rfl rfl hk1.1 ok_Reader_next rfl rfl cl_Reader_58 (by omega) (Nat.le_of_ble_eq_true rfl) (Nat.le_of_ble_eq_true rfl) (Nat.le_refl _) (Nat.le_refl _) (c_Reader_next hk1 _ hS1 4 (by decide)) (fun r1 w2 hp => ?_) rfl rfl
      obtain ⟨rfl, hF2, hS2⟩ := hp
      refine ⟨⟨by rw [hF2.1]; exact Nat.le_refl _, Or.inl (by rw [hF2.1])⟩, ?_⟩
      have hk2 := rdK_F hk1 hF2
      refine z_iload_n (pc := 33) (i := 1) (j := 1) rfl rfl rfl ?_
      exact z_iret (pc := 34) rfl rfl ⟨by rw [show kndO (tkw T n q) = zkk.getD (a - 1000000) 0 from by rw [← rS_w hq, hw]; rfl], rF_t hF1 hF2, by unfold kndS; rw [show kndO (tkw T n q) = zkk.getD (a - 1000000) 0 from by rw [← rS_w hq, hw]; rfl]; rw [if_pos h21, ← nxt_wrg]; exact hS2⟩
def hasNm (N : Nat → Int64) (x : Int64) : Nat → Nat → Bool
  | 0, _ => false
  | m + 1, i => if N i = x then true else hasNm N x m (i + 1)
def hasAt (C R : Nat → Int32) (x y : Int32) : Nat → Nat → Bool
  | 0, _ => false
  | m + 1, i => if C i = x ∧ R i = y then true else hasAt C R x y m (i + 1)
