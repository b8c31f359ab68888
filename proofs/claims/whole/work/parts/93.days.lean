/-! THE OBJECT'S DAYS -/
abbrev CD : Type := (Nat → Int32) × Int32 × Nat × Int32 × Int32
def cdy (f : Nat → Nat → Int32) (s : Nat) (F : Int32 → Int32 → Int32 → Int32) (t n : Nat) : Nat × Nat := if f s 10 ≤ nI (nxN n / 65536 % 10) then (cyv F (f 21 8 + nI t), nxN n) else (nxN (nxN n) / 65536 % 8, nxN (nxN n))
theorem cdy_lt (f : Nat → Nat → Int32) (s : Nat) (F : Int32 → Int32 → Int32 → Int32) (t n : Nat) : (cdy f s F t n).1 < 8 ∧ (cdy f s F t n).2 < 2 ^ 31 := by
  unfold cdy
  split
  · exact ⟨(cyv_n F _).2, nxN_lt _⟩
  · exact ⟨Nat.mod_lt _ (by decide), nxN_lt _⟩
def cdM (f : Nat → Nat → Int32) (s C R H : Nat) (F G : Int32 → Int32 → Int32 → Int32) (t yv : Nat) : Nat → Int32 := cset f s C R yv G (f 21 8 + nI t) (f 21 10 &&& (f 21 11 ^^^ (-1))) H
def cdW (tv : Int32) (r m : Nat → Int32) (k : Nat) : Int32 := (if tv = 0 then r k else 0) ||| m k
def cdO (r : Nat → Int32) : Int32 := rsum (fun k => if bitc (r k) < 2 then 0 else 1) 8
def cdS (f : Nat → Nat → Int32) (s C R H : Nat) (F G : Int32 → Int32 → Int32 → Int32) (t : Nat) (q : CD) : CD :=
  (cdW (turnV q.2.2.2.2 (nI (cdy f s F t q.2.2.1).1)) q.1 (cdM f s C R H F G t (cdy f s F t q.2.2.1).1),
   q.2.1 + rsum (fun k => bitc (cdM f s C R H F G t (cdy f s F t q.2.2.1).1 k &&& ((if turnV q.2.2.2.2 (nI (cdy f s F t q.2.2.1).1) = 0 then q.1 k else 0) ^^^ (-1)))) 8 / 2,
   (cdy f s F t q.2.2.1).2,
   (if q.2.2.2.1 < cdO (cdW (turnV q.2.2.2.2 (nI (cdy f s F t q.2.2.1).1)) q.1 (cdM f s C R H F G t (cdy f s F t q.2.2.1).1)) then cdO (cdW (turnV q.2.2.2.2 (nI (cdy f s F t q.2.2.1).1)) q.1 (cdM f s C R H F G t (cdy f s F t q.2.2.1).1)) else q.2.2.2.1),
   nI (cdy f s F t q.2.2.1).1)
def cdT (f : Nat → Nat → Int32) (s C R H : Nat) (F G : Int32 → Int32 → Int32 → Int32) : Nat → Nat → CD → CD
  | 0, _, q => q
  | m + 1, t, q => cdT f s C R H F G m (t + 1) (cdS f s C R H F G t q)
theorem wdE {a b c e : Int32} (t : Int32) (h1 : a = b) (h2 : c = e) : bitc (a &&& ((if t = 0 then c else 0) ^^^ (-1))) = bitc (b &&& ((if t = 0 then e else 0) ^^^ (-1))) := by rw [h1, h2]
theorem ofE {a b : Int32} (h : a = b) : (if bitc a < 2 then (0 : Int32) else 1) = if bitc b < 2 then 0 else 1 := by rw [h]
def dFr (s : Nat) (w : zW) (f : Nat → Nat → Int32) : Prop := ∀ o, o ≠ s + 8 → o ≠ s + 11 → o ≠ 17 → o ≠ 18 → o ≠ 19 → o ≠ 20 → o ≠ 31 → f o = zI w o
theorem cdS_lt (f : Nat → Nat → Int32) (s C R H : Nat) (F G : Int32 → Int32 → Int32 → Int32) (t : Nat) (q : CD) : (cdS f s C R H F G t q).2.2.1 < 2 ^ 31 := (cdy_lt f s F t q.2.2.1).2
set_option maxRecDepth 100000 in
set_option maxHeartbeats 1000000 in
theorem l_days97 {w : zW} {s C R H : Nat} {F G : Int32 → Int32 → Int32 → Int32} (hx : zX w s) (hi : zXi (zI w) s C R H F G) (hs : stIn (zI w) s C R H) {n : Nat} (hn : n ≤ 72) (x1 x2 x4 x9 : Int32) {P : Option Value → zW → Prop} (d : Nat) (hd : 4 ≤ d) : ∀ (m t : Nat) (q : CD) (f : Nat → Nat → Int32), t + m = n → dFr s w f → (∀ k, k < 8 → f 31 k = q.1 k) → q.2.2.1 < 2 ^ 31 → (∀ (f : Nat → Nat → Int32) (Q : CD), dFr s w f → Q = cdT (zI w) s C R H F G m t q → zS 0 0 d m_SW_days P 242 [(0, .ref 0), (1, .int x1), (2, .int x2), (3, .int (nI n)), (4, .int x4), (5, .long (lN Q.2.2.1)), (7, .int Q.2.1), (8, .int Q.2.2.2.1), (9, .int x9)] [] (zuI w f)) → zS 0 0 d m_SW_days P 97 [(0, .ref 0), (1, .int x1), (2, .int x2), (3, .int (nI n)), (4, .int x4), (5, .long (lN q.2.2.1)), (7, .int q.2.1), (8, .int q.2.2.2.1), (9, .int x9), (10, .int q.2.2.2.2), (11, .int (nI t))] [] (zuI w f) := by
  have hss := (hx.2.2.2.2.2.2.2.2.2.2.2.2.2.2.2.2)
  intro m
  induction m with
  | zero =>
    intro t q f htm hf hr hq hK
    obtain rfl : t = n := by omega
    refine z_iload (pc := 97) (i := 11) (j := 10) rfl rfl ?_
    refine z_iload_n (pc := 99) (i := 3) (j := 3) rfl rfl rfl ?_
    refine z_icmp_ge (pc := 100) (tgt := 242) rfl (by decide) (fun h100 => ?_) (fun h100 => absurd (Int32.le_refl _) h100)
    refine z_drop ?_ (hK f q hf rfl)
    simp
  | succ m ih =>
    intro t q f htm hf hr hq hK
    have e21 : f 21 = zI w 21 := hf 21 (by omega) (by omega) (by omega) (by omega) (by omega) (by omega) (by omega)
    · skip
      refine z_iload (pc := 97) (i := 11) (j := 10) rfl rfl ?_
      refine z_iload_n (pc := 99) (i := 3) (j := 3) rfl rfl rfl ?_
      refine z_icmp_ge (pc := 100) (tgt := 242) rfl (by decide) (fun h100 => ?_) (fun h100 => ?_)
      · exact absurd h100 (nI_ge (b := n) (by omega) (by omega))
      · refine z_aload_n (pc := 103) (i := 0) (j := 0) rfl rfl rfl ?_
        refine z_getR (pc := 104) (x := s) rfl fl_SW_48 hx.1 rfl hx.2.2.2.2.2.2.2.1 ?_
        refine z_aload_n (pc := 107) (i := 0) (j := 0) rfl rfl rfl ?_
        refine z_getR (pc := 108) (x := 21) rfl fl_SW_31 hx.1 rfl hx.2.2.2.2.1 ?_
        refine z_getI (pc := 111) rfl fl_SW_104 hx.2.2.2.2.2.2.2.2.2.2.2.2.1.1 rfl ?_
        refine z_eqi (y := zI w 21 8) (congrFun e21 8) ?_
        refine z_iload (pc := 114) (i := 11) (j := 10) rfl rfl ?_
        refine z_iadd (pc := 116) rfl ?_
        refine z_cV (pc := 117) (mc1 := 0) (ms1 := 0) (mc2 := 0) (ms2 := 0) (as := [.int ((zI w 21 8) + (nI t))]) (rest := []) (o := s) rfl rfl hx.2.2.2.2.2.2.2.2.2.2.2.2.2.2.2.1.1 ok_Street_windIn rfl rfl cl_SW_107 (by omega) (Nat.le_of_ble_eq_true rfl) (Nat.le_of_ble_eq_true rfl) (Nat.le_refl _) (Nat.le_refl _) (c_Street_windIn (w := zuI w f) (hx.2.2.2.2.2.2.2.2.2.2.2.2.2.2.2.1) (zLaw_congr hi.2.2.2.2.2.2.1 (hf _ (by omega) (by omega) (by omega) (by omega) (by omega) (by omega) (by omega)) (hf _ (by omega) (by omega) (by omega) (by omega) (by omega) (by omega) (by omega))) (zI w 21 8 + nI t) 2 (by decide)) (fun r1 w1 hp => ?_) rfl rfl
        obtain ⟨f1, hw1, rfl, hf1⟩ := hp
        rw [hw1, (cyv_n F (zI w 21 8 + nI t)).1]
        refine ⟨⟨Nat.le_refl _, Or.inl rfl⟩, ?_⟩
        have hF1 : dFr s w f1 := fun o a1 a2 a3 a4 a5 a6 a7 => (hf1 o a1).trans (hf o a1 a2 a3 a4 a5 a6 a7)
        have hr1 : ∀ k, k < 8 → f1 31 k = q.1 k := fun k hk => (congrFun (hf1 31 (by omega)) k).trans (hr k hk)
        refine z_istore (pc := 120) (i := 12) (ls' := [(0, .ref 0), (1, .int x1), (2, .int x2), (3, .int (nI n)), (4, .int x4), (5, .long (lN q.2.2.1)), (7, .int q.2.1), (8, .int q.2.2.2.1), (9, .int x9), (10, .int q.2.2.2.2), (11, .int (nI t)), (12, .int (nI (cyv F (zI w 21 8 + nI t))))]) rfl (by decide) rfl ?_
        refine z_lload (pc := 122) (i := 5) (j := 5) rfl rfl ?_
        refine z_cS (pc := 124) (mc1 := 0) (ms1 := 0) (mc2 := 0) (ms2 := 0) (as := [.long (lN q.2.2.1)]) (rest := []) ok_SW_nextDraw rfl rfl cl_SW_218 (by omega) (Nat.le_of_ble_eq_true rfl) (Nat.le_of_ble_eq_true rfl) (Nat.le_refl _) (Nat.le_refl _) (c_SW_nextDraw (lN (q.2.2.1)) 0 _) (fun r1 w1 hp => ?_) rfl rfl
        obtain ⟨rfl, hwd⟩ := hp
        rw [hwd, nx_n hq]
        refine ⟨⟨Nat.le_refl _, Or.inl rfl⟩, ?_⟩
        refine z_lstore (pc := 127) (i := 5) (ls' := [(0, .ref 0), (1, .int x1), (2, .int x2), (3, .int (nI n)), (4, .int x4), (5, .long (lN (nxN (q.2.2.1)))), (7, .int q.2.1), (8, .int q.2.2.2.1), (9, .int x9), (10, .int q.2.2.2.2), (11, .int (nI t)), (12, .int (nI (cyv F (zI w 21 8 + nI t))))]) rfl (by decide) rfl ?_
        refine z_lload (pc := 129) (i := 5) (j := 5) rfl rfl ?_
        refine z_bipush (pc := 131) (v := 10) rfl (by decide) ?_
        refine z_cS (pc := 133) (mc1 := 0) (ms1 := 0) (mc2 := 0) (ms2 := 0) (as := [.long (lN (nxN (q.2.2.1))), .int 10]) (rest := []) ok_SW_drawBelow rfl rfl cl_SW_222 (by omega) (Nat.le_of_ble_eq_true rfl) (Nat.le_of_ble_eq_true rfl) (Nat.le_refl _) (Nat.le_refl _) (c_SW_drawBelow (lN (nxN q.2.2.1)) 10 (by decide) 1 (by decide) _) (fun r1 w1 hp => ?_) rfl rfl
        obtain ⟨rfl, hwd⟩ := hp
        rw [hwd, show (if (10 : Int32) < 1 then 1 else 10) = nI 10 from rfl, dr_n (n := nxN q.2.2.1) (m := 10) (nxN_lt _) (by decide) (by decide)]
        refine ⟨⟨Nat.le_refl _, Or.inl rfl⟩, ?_⟩
        have j162 : ∀ y : Nat × Nat, y = cdy (zI w) s F t q.2.2.1 → zS 0 0 d m_SW_days P 162 [(0, .ref 0), (1, .int x1), (2, .int x2), (3, .int (nI n)), (4, .int x4), (5, .long (lN y.2)), (7, .int q.2.1), (8, .int q.2.2.2.1), (9, .int x9), (10, .int q.2.2.2.2), (11, .int (nI t)), (12, .int (nI y.1))] [] (zuI w f1) := by
          intro y hy
          have hy8 : y.1 < 8 := by rw [hy]; exact (cdy_lt _ _ _ _ _).1
          have hc1 : cFr s (zuI w (zr (zI w) 31 (f1 31))) f1 := fun o a1 a2 a3 a4 a5 a6 => by
            by_cases z : o = 31
            · subst z; exact (zr_h (zI w) 31 (f1 31)).symm
            · exact (hF1 o a1 a2 a3 a4 a5 a6 z).trans (zr_o _ _ z).symm
          refine z_aload_n (pc := 162) (i := 0) (j := 0) rfl rfl rfl ?_
          refine z_getR (pc := 163) (x := 16) rfl fl_SW_24 hx.1 rfl hx.2.2.2.1 ?_
          refine z_aload_n (pc := 166) (i := 0) (j := 0) rfl rfl rfl ?_
          refine z_getR (pc := 167) (x := s) rfl fl_SW_48 hx.1 rfl hx.2.2.2.2.2.2.2.1 ?_
          refine z_aload_n (pc := 170) (i := 0) (j := 0) rfl rfl rfl ?_
          refine z_getR (pc := 171) (x := 21) rfl fl_SW_31 hx.1 rfl hx.2.2.2.2.1 ?_
          refine z_getI (pc := 174) rfl fl_SW_104 hx.2.2.2.2.2.2.2.2.2.2.2.2.1.1 rfl ?_
          refine z_eqi (y := zI w 21 8) (congrFun (hF1 21 (by omega) (by omega) (by omega) (by omega) (by omega) (by omega) (by omega)) 8) ?_
          refine z_iload (pc := 177) (i := 11) (j := 10) rfl rfl ?_
          refine z_iadd (pc := 179) rfl ?_
          refine z_iload (pc := 180) (i := 12) (j := 11) rfl rfl ?_
          refine z_aload_n (pc := 182) (i := 0) (j := 0) rfl rfl rfl ?_
          refine z_getR (pc := 183) (x := 21) rfl fl_SW_31 hx.1 rfl hx.2.2.2.2.1 ?_
          refine z_cV (pc := 186) (mc1 := 0) (ms1 := 0) (mc2 := 0) (ms2 := 0) (as := []) (rest := [.int (nI y.1), .int ((zI w 21 8) + (nI t)), .ref s, .ref 16]) (o := 21) rfl rfl hx.2.2.2.2.2.2.2.2.2.2.2.2.1.1 ok_Life_burning rfl rfl cl_SW_126 (by omega) (Nat.le_of_ble_eq_true rfl) (Nat.le_of_ble_eq_true rfl) (Nat.le_refl _) (Nat.le_refl _) (c_Life_burning (w := zuI w f1) (hx.2.2.2.2.2.2.2.2.2.2.2.2.1) 0) (fun r1 w1 hp => ?_) rfl rfl
          obtain ⟨rfl, hwb⟩ := hp
          rw [hwb, show zI (zuI w f1) 21 = zI w 21 from hF1 21 (by omega) (by omega) (by omega) (by omega) (by omega) (by omega) (by omega)]
          refine ⟨⟨Nat.le_refl _, Or.inl rfl⟩, ?_⟩
          refine z_cV (pc := 189) (mc1 := 0) (ms1 := 0) (mc2 := 0) (ms2 := 0) (as := [.ref s, .int ((zI w 21 8) + (nI t)), .int (nI y.1), .int (zI w 21 10 &&& (zI w 21 11 ^^^ (-1)))]) (rest := []) (o := 16) rfl rfl hx.2.2.2.2.2.2.2.2.2.2.2.1.1 ok_Smoke_rise rfl rfl cl_SW_136 (by omega) (Nat.le_of_ble_eq_true rfl) (Nat.le_of_ble_eq_true rfl) (Nat.le_refl _) (Nat.le_refl _) (c_airF (w := zuI w (zr (zI w) 31 (f1 31))) (F := F) (G := G) (C := C) (R := R) (H := H) hx (zXi_c hi (zr_o _ _ (by omega)) (zr_o _ _ (by omega)) (zr_o _ _ (by omega)) (zr_o _ _ (by omega)) (zr_o _ _ (by omega))) (stIn_c hs (zr_o _ _ (by omega)) (zr_o _ _ (by omega))) (f := f1) hc1 (zI w 21 8 + nI t) (zI w 21 10 &&& (zI w 21 11 ^^^ (-1))) (yv := y.1) hy8 3 (by decide)) (fun r1 w1 hp => ?_) rfl rfl
          obtain ⟨f2, hw2, rfl, hf2, hm2⟩ := hp
          rw [hw2]
          refine ⟨⟨Nat.le_refl _, Or.inl rfl⟩, ?_⟩
          have hm2b : ∀ k, k < 8 → f2 17 k = cdM (zI w) s C R H F G t y.1 k := fun k hk => (hm2 k hk).trans (cset_c (zr_o _ _ (by omega)) (zr_o _ _ (by omega)) (zr_o _ _ (by omega)) (zr_o _ _ (by omega)) C R y.1 G _ _ H k)
          have hr2 : ∀ k, k < 8 → f2 31 k = q.1 k := fun k hk => (congrFun (hf2 31 (by omega) (by omega) (by omega) (by omega) (by omega) (by omega)) k).trans ((congrFun (zr_h (zI w) 31 (f1 31)) k).trans (hr1 k hk))
          refine z_iload (pc := 192) (i := 7) (j := 6) rfl rfl ?_
          refine z_aload_n (pc := 194) (i := 0) (j := 0) rfl rfl rfl ?_
          refine z_getR (pc := 195) (x := 31) rfl fl_SW_41 hx.1 rfl hx.2.2.2.2.2.2.1 ?_
          refine z_iload (pc := 198) (i := 10) (j := 9) rfl rfl ?_
          refine z_iload (pc := 200) (i := 12) (j := 11) rfl rfl ?_
          refine z_cS (pc := 202) (mc1 := 0) (ms1 := 0) (mc2 := 0) (ms2 := 0) (as := [.int q.2.2.2.2, .int (nI y.1)]) (rest := [.ref 31, .int q.2.1]) ok_SW_turns rfl rfl cl_SW_190 (by omega) (Nat.le_of_ble_eq_true rfl) (Nat.le_of_ble_eq_true rfl) (Nat.le_refl _) (Nat.le_refl _) (c_SW_turns q.2.2.2.2 (nI y.1) 0 _) (fun r1 w1 hp => ?_) rfl rfl
          obtain ⟨rfl, hw1⟩ := hp
          rw [hw1]
          refine ⟨⟨Nat.le_refl _, Or.inl rfl⟩, ?_⟩
          refine z_aload_n (pc := 205) (i := 0) (j := 0) rfl rfl rfl ?_
          refine z_getR (pc := 206) (x := 16) rfl fl_SW_24 hx.1 rfl hx.2.2.2.1 ?_
          refine z_getR (pc := 209) (x := 17) rfl fl_SW_133 hx.2.2.2.2.2.2.2.2.2.2.2.1.1 rfl hx.2.2.2.2.2.2.2.2.2.2.2.1.2.2.2.2.2.1 ?_
          refine z_cS (pc := 212) (mc1 := 0) (ms1 := 0) (mc2 := 0) (ms2 := 0) (as := [.ref 31, .int (turnV q.2.2.2.2 (nI y.1)), .ref 17]) (rest := [.int q.2.1]) ok_SW_wed rfl rfl cl_SW_228 (by omega) (Nat.le_of_ble_eq_true rfl) (Nat.le_of_ble_eq_true rfl) (Nat.le_refl _) (Nat.le_refl _) (c_SW_wed (w := zuI w f2) (o := 31) (q := 17) hx.2.2.2.2.2.2.2.2.2.2.2.2.2.2.1 ((hx.2.2.2.2.2.2.2.2.2.2.2.1)).2.1 (by decide) (turnV q.2.2.2.2 (nI y.1)) 1 (by decide)) (fun r1 w1 hp => ?_) rfl rfl
          obtain ⟨rfl, hw3⟩ := hp
          rw [show rsum (fun k => bitc (zI (zuI w f2) 17 k &&& ((if turnV q.2.2.2.2 (nI y.1) = 0 then zI (zuI w f2) 31 k else 0) ^^^ (-1)))) 8 = rsum (fun k => bitc (cdM (zI w) s C R H F G t y.1 k &&& ((if turnV q.2.2.2.2 (nI y.1) = 0 then q.1 k else 0) ^^^ (-1)))) 8 from rsum_cg (g := fun k => bitc (zI (zuI w f2) 17 k &&& ((if turnV q.2.2.2.2 (nI y.1) = 0 then zI (zuI w f2) 31 k else 0) ^^^ (-1)))) (h := fun k => bitc (cdM (zI w) s C R H F G t y.1 k &&& ((if turnV q.2.2.2.2 (nI y.1) = 0 then q.1 k else 0) ^^^ (-1)))) 8 (fun k hk => wdE _ (hm2b k hk) (hr2 k hk))]
          obtain ⟨f3, hf3⟩ : ∃ x, x = zr (zI (zuI w f2)) 31 (wedR (zI (zuI w f2) 31) (zI (zuI w f2) 17) (turnV q.2.2.2.2 (nI y.1)) 8) := ⟨_, rfl⟩
          rw [hw3, ← hf3]
          refine ⟨⟨Nat.le_refl _, Or.inl rfl⟩, ?_⟩
          have hr3 : ∀ k, k < 8 → f3 31 k = cdW (turnV q.2.2.2.2 (nI y.1)) q.1 (cdM (zI w) s C R H F G t y.1) k := fun k hk => by
            rw [hf3, zr_h]; unfold wedR cdW; rw [if_pos hk]; show (if _ then f2 31 k else 0) ||| f2 17 k = _; rw [hm2b k hk, hr2 k hk]
          have hF3 : dFr s w f3 := fun o a1 a2 a3 a4 a5 a6 a7 => by
            rw [hf3, zr_o _ _ a7]; exact (hf2 o a1 a2 a3 a4 a5 a6).trans (zr_o _ _ a7)
          refine z_iadd (pc := 215) rfl ?_
          refine z_istore (pc := 216) (i := 7) (ls' := [(0, .ref 0), (1, .int x1), (2, .int x2), (3, .int (nI n)), (4, .int x4), (5, .long (lN y.2)), (7, .int (q.2.1 + (rsum (fun k => bitc (cdM (zI w) s C R H F G t y.1 k &&& ((if turnV q.2.2.2.2 (nI y.1) = 0 then q.1 k else 0) ^^^ (-1)))) 8 / 2))), (8, .int q.2.2.2.1), (9, .int x9), (10, .int q.2.2.2.2), (11, .int (nI t)), (12, .int (nI y.1))]) rfl (by decide) rfl ?_
          refine z_iload (pc := 218) (i := 8) (j := 7) rfl rfl ?_
          refine z_aload_n (pc := 220) (i := 0) (j := 0) rfl rfl rfl ?_
          refine z_getR (pc := 221) (x := 31) rfl fl_SW_41 hx.1 rfl hx.2.2.2.2.2.2.1 ?_
          refine z_cS (pc := 224) (mc1 := 0) (ms1 := 0) (mc2 := 0) (ms2 := 0) (as := [.ref 31]) (rest := [.int q.2.2.2.1]) ok_SW_wedOften rfl rfl cl_SW_232 (by omega) (Nat.le_of_ble_eq_true rfl) (Nat.le_of_ble_eq_true rfl) (Nat.le_refl _) (Nat.le_refl _) (c_SW_wedOften (w := zuI w f3) (o := 31) (N := 8) hx.2.2.2.2.2.2.2.2.2.2.2.2.2.2.1 (by decide) 1 (by decide)) (fun r1 w1 hp => ?_) rfl rfl
          obtain ⟨rfl, hwo⟩ := hp
          rw [hwo, show rsum (fun k => if bitc (zI (zuI w f3) 31 k) < 2 then 0 else 1) 8 = cdO (cdW (turnV q.2.2.2.2 (nI y.1)) q.1 (cdM (zI w) s C R H F G t y.1)) from rsum_cg (g := fun k => if bitc (zI (zuI w f3) 31 k) < 2 then 0 else 1) (h := fun k => if bitc (cdW (turnV q.2.2.2.2 (nI y.1)) q.1 (cdM (zI w) s C R H F G t y.1) k) < 2 then 0 else 1) 8 (fun k hk => ofE (hr3 k hk))]
          refine ⟨⟨Nat.le_refl _, Or.inl rfl⟩, ?_⟩
          refine z_mmax (pc := 227) rfl ml_SW_236 (by omega) (Nat.le_of_ble_eq_true rfl) ?_
          refine z_istore (pc := 230) (i := 8) (ls' := [(0, .ref 0), (1, .int x1), (2, .int x2), (3, .int (nI n)), (4, .int x4), (5, .long (lN y.2)), (7, .int (q.2.1 + (rsum (fun k => bitc (cdM (zI w) s C R H F G t y.1 k &&& ((if turnV q.2.2.2.2 (nI y.1) = 0 then q.1 k else 0) ^^^ (-1)))) 8 / 2))), (8, .int (if q.2.2.2.1 < cdO (cdW (turnV q.2.2.2.2 (nI y.1)) q.1 (cdM (zI w) s C R H F G t y.1)) then cdO (cdW (turnV q.2.2.2.2 (nI y.1)) q.1 (cdM (zI w) s C R H F G t y.1)) else q.2.2.2.1)), (9, .int x9), (10, .int q.2.2.2.2), (11, .int (nI t)), (12, .int (nI y.1))]) rfl (by decide) rfl ?_
          refine z_iload (pc := 232) (i := 12) (j := 11) rfl rfl ?_
          refine z_istore (pc := 234) (i := 10) (ls' := [(0, .ref 0), (1, .int x1), (2, .int x2), (3, .int (nI n)), (4, .int x4), (5, .long (lN y.2)), (7, .int (q.2.1 + (rsum (fun k => bitc (cdM (zI w) s C R H F G t y.1 k &&& ((if turnV q.2.2.2.2 (nI y.1) = 0 then q.1 k else 0) ^^^ (-1)))) 8 / 2))), (8, .int (if q.2.2.2.1 < cdO (cdW (turnV q.2.2.2.2 (nI y.1)) q.1 (cdM (zI w) s C R H F G t y.1)) then cdO (cdW (turnV q.2.2.2.2 (nI y.1)) q.1 (cdM (zI w) s C R H F G t y.1)) else q.2.2.2.1)), (9, .int x9), (10, .int (nI y.1)), (11, .int (nI t)), (12, .int (nI y.1))]) rfl (by decide) rfl ?_
          refine z_iinc (pc := 236) (i := 11) (j := 10) (v := nI (t + 1)) (ls' := [(0, .ref 0), (1, .int x1), (2, .int x2), (3, .int (nI n)), (4, .int x4), (5, .long (lN y.2)), (7, .int (q.2.1 + (rsum (fun k => bitc (cdM (zI w) s C R H F G t y.1 k &&& ((if turnV q.2.2.2.2 (nI y.1) = 0 then q.1 k else 0) ^^^ (-1)))) 8 / 2))), (8, .int (if q.2.2.2.1 < cdO (cdW (turnV q.2.2.2.2 (nI y.1)) q.1 (cdM (zI w) s C R H F G t y.1)) then cdO (cdW (turnV q.2.2.2.2 (nI y.1)) q.1 (cdM (zI w) s C R H F G t y.1)) else q.2.2.2.1)), (9, .int x9), (10, .int (nI y.1)), (11, .int (nI (t + 1))), (12, .int (nI y.1))]) rfl rfl (nI_1 t) (by decide) rfl ?_
          refine z_goto (pc := 239) (tgt := 97) rfl (by decide) ?_
          have e0 : cdS (zI w) s C R H F G t q = (cdW (turnV q.2.2.2.2 (nI y.1)) q.1 (cdM (zI w) s C R H F G t y.1), q.2.1 + (rsum (fun k => bitc (cdM (zI w) s C R H F G t y.1 k &&& ((if turnV q.2.2.2.2 (nI y.1) = 0 then q.1 k else 0) ^^^ (-1)))) 8 / 2), y.2, if q.2.2.2.1 < cdO (cdW (turnV q.2.2.2.2 (nI y.1)) q.1 (cdM (zI w) s C R H F G t y.1)) then cdO (cdW (turnV q.2.2.2.2 (nI y.1)) q.1 (cdM (zI w) s C R H F G t y.1)) else q.2.2.2.1, nI y.1) := by subst hy; rfl
          have kk := ih (t + 1) (cdS (zI w) s C R H F G t q) f3 (by omega) hF3 (fun k hk => by rw [e0]; exact hr3 k hk) (cdS_lt _ _ _ _ _ _ _ _ _) hK
          rw [e0] at kk
          refine z_drop ?_ kk
          simp
        refine z_aload_n (pc := 136) (i := 0) (j := 0) rfl rfl rfl ?_
        refine z_getR (pc := 137) (x := s) rfl fl_SW_48 hx.1 rfl hx.2.2.2.2.2.2.2.1 ?_
        refine z_getI (pc := 140) rfl fl_SW_226 hx.2.2.2.2.2.2.2.2.2.2.2.2.2.2.2.1.1 rfl ?_
        refine z_eqi (y := zI w s 10) (congrFun (hF1 s (by omega) (by omega) (by omega) (by omega) (by omega) (by omega) (by omega)) 10) ?_
        refine z_icmp_ge (pc := 143) (tgt := 162) rfl (by decide) (fun h143 => ?_) (fun h143 => ?_)
        · exact j162 (cyv F (zI w 21 8 + nI t), nxN q.2.2.1) (by unfold cdy; rw [if_pos h143])
        · refine z_lload (pc := 146) (i := 5) (j := 5) rfl rfl ?_
          refine z_cS (pc := 148) (mc1 := 0) (ms1 := 0) (mc2 := 0) (ms2 := 0) (as := [.long (lN (nxN (q.2.2.1)))]) (rest := []) ok_SW_nextDraw rfl rfl cl_SW_218 (by omega) (Nat.le_of_ble_eq_true rfl) (Nat.le_of_ble_eq_true rfl) (Nat.le_refl _) (Nat.le_refl _) (c_SW_nextDraw (lN (nxN q.2.2.1)) 0 _) (fun r1 w1 hp => ?_) rfl rfl
          obtain ⟨rfl, hwd⟩ := hp
          rw [hwd, nx_n (nxN_lt _)]
          refine ⟨⟨Nat.le_refl _, Or.inl rfl⟩, ?_⟩
          refine z_lstore (pc := 151) (i := 5) (ls' := [(0, .ref 0), (1, .int x1), (2, .int x2), (3, .int (nI n)), (4, .int x4), (5, .long (lN (nxN (nxN q.2.2.1)))), (7, .int q.2.1), (8, .int q.2.2.2.1), (9, .int x9), (10, .int q.2.2.2.2), (11, .int (nI t)), (12, .int (nI (cyv F (zI w 21 8 + nI t))))]) rfl (by decide) rfl ?_
          refine z_lload (pc := 153) (i := 5) (j := 5) rfl rfl ?_
          refine z_bipush (pc := 155) (v := 8) rfl (by decide) ?_
          refine z_cS (pc := 157) (mc1 := 0) (ms1 := 0) (mc2 := 0) (ms2 := 0) (as := [.long (lN (nxN (nxN q.2.2.1))), .int 8]) (rest := []) ok_SW_drawBelow rfl rfl cl_SW_222 (by omega) (Nat.le_of_ble_eq_true rfl) (Nat.le_of_ble_eq_true rfl) (Nat.le_refl _) (Nat.le_refl _) (c_SW_drawBelow (lN (nxN (nxN q.2.2.1))) 8 (by decide) 1 (by decide) _) (fun r1 w1 hp => ?_) rfl rfl
          obtain ⟨rfl, hwd⟩ := hp
          rw [hwd, show (if (8 : Int32) < 1 then 1 else 8) = nI 8 from rfl, dr_n (n := nxN (nxN q.2.2.1)) (m := 8) (nxN_lt _) (by decide) (by decide)]
          refine ⟨⟨Nat.le_refl _, Or.inl rfl⟩, ?_⟩
          refine z_istore (pc := 160) (i := 12) (ls' := [(0, .ref 0), (1, .int x1), (2, .int x2), (3, .int (nI n)), (4, .int x4), (5, .long (lN (nxN (nxN q.2.2.1)))), (7, .int q.2.1), (8, .int q.2.2.2.1), (9, .int x9), (10, .int q.2.2.2.2), (11, .int (nI t)), (12, .int (nI (nxN (nxN q.2.2.1) / 65536 % 8)))]) rfl (by decide) rfl ?_
          exact j162 (nxN (nxN q.2.2.1) / 65536 % 8, nxN (nxN q.2.2.1)) (by unfold cdy; rw [if_neg h143])
