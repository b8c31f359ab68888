/-! THE OBJECT'S FEAST -/
def pnG (m : Nat → Int32) (g : Int32) : Nat → Option Int32
  | 0 => some 0
  | k + 1 => match pnG m g k with
    | none => none
    | some e => if (g >>> (nI k &&& 31)) &&& 1 = 0 then some e else if bitc (m k &&& g) ≤ 1 then some (e + bitc (m k &&& g)) else none
def pnV (m : Nat → Int32) (g : Int32) : Int32 := match pnG m g 8 with
  | none => -1
  | some e => e / 2
theorem pnG_n {m : Nat → Int32} {g : Int32} {k : Nat} (h : pnG m g k = none) : ∀ j, pnG m g (k + j) = none
  | 0 => h
  | j + 1 => by
    show (match pnG m g (k + j) with | none => none | some e => _) = none
    rw [pnG_n h j]
theorem pnG_c {m m2 : Nat → Int32} (g : Int32) : ∀ n, (∀ k, k < n → m k = m2 k) → pnG m g n = pnG m2 g n
  | 0, _ => rfl
  | n + 1, e => by
    show (match pnG m g n with | none => none | some e => _) = (match pnG m2 g n with | none => none | some e => _)
    rw [pnG_c g n (fun k hk => e k (by omega)), e n (Nat.lt_succ_self n)]
theorem pnV_c {m m2 : Nat → Int32} (g : Int32) (e : ∀ k, k < 8 → m k = m2 k) : pnV m g = pnV m2 g := by unfold pnV; rw [pnG_c g 8 e]
def bgS (m : Nat → Int32) (op : Int32) (k : Nat) (q : Int32 × Int32) : Int32 × Int32 := if (if nI (k + 1) &&& (op ^^^ (-1)) = 0 then pnV m (nI (k + 1)) else -1) ≤ q.2 then q else (nI (k + 1), if nI (k + 1) &&& (op ^^^ (-1)) = 0 then pnV m (nI (k + 1)) else -1)
def bgN (m : Nat → Int32) (op : Int32) : Nat → Int32 × Int32
  | 0 => (0, 0)
  | k + 1 => bgS m op k (bgN m op k)
theorem bgN_c {m m2 : Nat → Int32} (op : Int32) (e : ∀ k, k < 8 → m k = m2 k) : ∀ n, bgN m op n = bgN m2 op n
  | 0 => rfl
  | n + 1 => by
    show bgS m op n (bgN m op n) = bgS m2 op n (bgN m2 op n)
    rw [bgN_c op e n]
    unfold bgS
    rw [pnV_c _ e]
set_option maxRecDepth 100000 in
set_option maxHeartbeats 4000000 in
theorem l_Smoke_pairs {w : zW} {a : Nat} (ha : zAir w a) (g : Int32) (d : Nat) (hd : 1 ≤ d) : ∀ (m k : Nat) (e : Int32), k + m = 8 → pnG (zI w (a + 1)) g k = some e → zS 0 0 d m_Smoke_pairsIfNoneTwice (fun rv w1 => rv = some (.int (pnV (zI w (a + 1)) g)) ∧ w1 = w) 4 [(0, .ref a), (1, .int g), (2, .int e), (3, .int (nI k))] [] w := by
  intro m
  induction m with
  | zero =>
    intro k e hkm he
    obtain rfl : k = 8 := by omega
    refine z_iload_n (pc := 4) (i := 3) (j := 3) rfl rfl rfl ?_
    refine z_bipush (pc := 5) (v := 8) rfl (by decide) ?_
    refine z_icmp_ge (pc := 7) (tgt := 50) rfl (by decide) (fun h7 => ?_) (fun h7 => absurd (by decide) h7)
    refine z_iload_n (pc := 50) (i := 2) (j := 2) rfl rfl rfl ?_
    refine z_iconst (pc := 51) (v := 2) rfl (by decide) ?_
    refine z_idiv (pc := 52) rfl (by decide) ?_
    exact z_iret (pc := 53) rfl rfl ⟨by unfold pnV; rw [he], rfl⟩
  | succ m ih =>
    intro k e hkm he
    · skip
      refine z_iload_n (pc := 4) (i := 3) (j := 3) rfl rfl rfl ?_
      refine z_bipush (pc := 5) (v := 8) rfl (by decide) ?_
      refine z_icmp_ge (pc := 7) (tgt := 50) rfl (by decide) (fun h7 => ?_) (fun h7 => ?_)
      · exact absurd h7 (nI_ge (b := 8) (by omega) (by decide))
      · refine z_iload_n (pc := 10) (i := 1) (j := 1) rfl rfl rfl ?_
        refine z_iload_n (pc := 11) (i := 3) (j := 3) rfl rfl rfl ?_
        refine z_cSN (pc := 12) (mc1 := 0) (ms1 := 0) (mc2 := 0) (ms2 := 0) (as := [.int g, .int (nI k)]) (rest := []) ok_SW_hasBit rfl rfl cl_Smoke_36 (by omega) (Nat.le_of_ble_eq_true rfl) (Nat.le_of_ble_eq_true rfl) (Nat.le_refl _) (Nat.le_refl _) (c_SW_hasBit g (nI k) 0 _) (fun r1 w1 hp => ?_) rfl rfl
        obtain ⟨rfl, hw1⟩ := hp
        rw [hw1]
        refine ⟨⟨Nat.le_refl _, Or.inl rfl⟩, ?_⟩
        refine z_if_eq (pc := 15) (tgt := 44) rfl (by decide) (fun h15 => ?_) (fun h15 => ?_)
        · have hz : (g >>> (nI k &&& 31)) &&& 1 = 0 := Decidable.byContradiction (fun z => by rw [if_neg z] at h15; exact absurd h15 (by decide))
          refine z_iinc (pc := 44) (i := 3) (j := 3) (v := nI (k + 1)) (ls' := [(0, .ref a), (1, .int g), (2, .int e), (3, .int (nI (k + 1)))]) rfl rfl (nI_1 k) (by decide) rfl ?_
          refine z_goto (pc := 47) (tgt := 4) rfl (by decide) ?_
          have e1 : pnG (zI w (a + 1)) g (k + 1) = some e := by
            show (match pnG (zI w (a + 1)) g k with | none => none | some e => _) = _
            rw [he]
            exact if_pos hz
          refine z_drop ?_ (ih (k + 1) e (by omega) e1)
          simp
        · have hz : ¬ (g >>> (nI k &&& 31)) &&& 1 = 0 := fun z => h15 (if_pos z)
          refine z_aload_n (pc := 18) (i := 0) (j := 0) rfl rfl rfl ?_
          refine z_getR (pc := 19) (x := a + 1) rfl fl_Smoke_9 ha.1 rfl ha.2.2.2.2.2.1 ?_
          refine z_iload_n (pc := 22) (i := 3) (j := 3) rfl rfl rfl ?_
          refine z_iald (pc := 23) rfl ha.2.1 (vp_in_nI (n := k) (N := 8) (by omega) (by decide)) ?_
          refine z_eqi (y := zI w (a + 1) k) (by rw [nI_clamp (by omega)]) ?_
          refine z_iload_n (pc := 24) (i := 1) (j := 1) rfl rfl rfl ?_
          refine z_iand (pc := 25) rfl ?_
          refine z_cS (pc := 26) (mc1 := 0) (ms1 := 0) (mc2 := 0) (ms2 := 0) (as := [.int ((zI w (a + 1) k) &&& g)]) (rest := []) ok_Integer_bitCount rfl rfl cl_Smoke_75 (by omega) (Nat.le_of_ble_eq_true rfl) (Nat.le_of_ble_eq_true rfl) (Nat.le_refl _) (Nat.le_refl _) (c_Integer_bitCount ((zI w (a + 1) k) &&& g) 0 _) (fun r1 w1 hp => ?_) rfl rfl
          obtain ⟨rfl, hw1⟩ := hp
          rw [hw1]
          refine ⟨⟨Nat.le_refl _, Or.inl rfl⟩, ?_⟩
          refine z_istore (pc := 29) (i := 4) (ls' := [(0, .ref a), (1, .int g), (2, .int e), (3, .int (nI k)), (4, .int (bitc ((zI w (a + 1) k) &&& g)))]) rfl (by decide) rfl ?_
          refine z_iload (pc := 31) (i := 4) (j := 4) rfl rfl ?_
          refine z_iconst (pc := 33) (v := 1) rfl (by decide) ?_
          refine z_icmp_le (pc := 34) (tgt := 39) rfl (by decide) (fun h34 => ?_) (fun h34 => ?_)
          · refine z_iload_n (pc := 39) (i := 2) (j := 2) rfl rfl rfl ?_
            refine z_iload (pc := 40) (i := 4) (j := 4) rfl rfl ?_
            refine z_iadd (pc := 42) rfl ?_
            refine z_istore_n (pc := 43) (i := 2) (ls' := [(0, .ref a), (1, .int g), (2, .int (e + (bitc ((zI w (a + 1) k) &&& g)))), (3, .int (nI k)), (4, .int (bitc ((zI w (a + 1) k) &&& g)))]) rfl rfl (by decide) rfl ?_
            refine z_iinc (pc := 44) (i := 3) (j := 3) (v := nI (k + 1)) (ls' := [(0, .ref a), (1, .int g), (2, .int (e + (bitc ((zI w (a + 1) k) &&& g)))), (3, .int (nI (k + 1))), (4, .int (bitc ((zI w (a + 1) k) &&& g)))]) rfl rfl (nI_1 k) (by decide) rfl ?_
            refine z_goto (pc := 47) (tgt := 4) rfl (by decide) ?_
            have e1 : pnG (zI w (a + 1)) g (k + 1) = some (e + bitc (zI w (a + 1) k &&& g)) := by
              show (match pnG (zI w (a + 1)) g k with | none => none | some e => _) = _
              rw [he]
              exact (if_neg hz).trans (if_pos h34)
            refine z_drop ?_ (ih (k + 1) _ (by omega) e1)
            simp
          · have e1 : pnG (zI w (a + 1)) g (k + 1) = none := by
              show (match pnG (zI w (a + 1)) g k with | none => none | some e => _) = _
              rw [he]
              exact (if_neg hz).trans (if_neg h34)
            have e2 := pnG_n e1 m
            rw [show k + 1 + m = 8 by omega] at e2
            have e3 : pnV (zI w (a + 1)) g = -1 := by unfold pnV; rw [e2]
            refine z_iconst (pc := 37) (v := (-1)) rfl (by decide) ?_
            exact z_iret (pc := 38) rfl rfl ⟨by rw [e3], rfl⟩
set_option maxRecDepth 100000 in
set_option maxHeartbeats 4000000 in
theorem c_Smoke_pairsIfNoneTwice {w : zW} {a : Nat} (ha : zAir w a) (g : Int32) (d : Nat) (hd : 1 ≤ d) : zS 0 0 d m_Smoke_pairsIfNoneTwice (fun rv w1 => rv = some (.int (pnV (zI w (a + 1)) g)) ∧ w1 = w) 0 [(0, .ref a), (1, .int g)] [] w := by
  refine z_iconst (pc := 0) (v := 0) rfl (by decide) ?_
  refine z_istore_n (pc := 1) (i := 2) (ls' := [(0, .ref a), (1, .int g), (2, .int 0)]) rfl rfl (by decide) rfl ?_
  refine z_iconst (pc := 2) (v := 0) rfl (by decide) ?_
  refine z_istore_n (pc := 3) (i := 3) (ls' := [(0, .ref a), (1, .int g), (2, .int 0), (3, .int 0)]) rfl rfl (by decide) rfl ?_
  exact l_Smoke_pairs ha g d hd 8 0 0 rfl rfl
set_option maxRecDepth 100000 in
set_option maxHeartbeats 4000000 in
theorem l_Smoke_best {w : zW} {a : Nat} (ha : zAir w a) (op : Int32) (d : Nat) (hd : 2 ≤ d) : ∀ (m k : Nat), k + m = 255 → zS 0 0 d m_Smoke_bestGuests (fun rv w1 => rv = some (.int (bgN (zI w (a + 1)) op 255).1) ∧ w1 = w) 7 [(0, .ref a), (1, .int op), (2, .int ((bgN (zI w (a + 1)) op k).1)), (3, .int ((bgN (zI w (a + 1)) op k).2)), (4, .int (nI (k + 1)))] [] w := by
  intro m
  induction m with
  | zero =>
    intro k hkm
    obtain rfl : k = 255 := by omega
    refine z_iload (pc := 7) (i := 4) (j := 4) rfl rfl ?_
    refine z_sipush (pc := 9) (v := 256) rfl (by decide) ?_
    refine z_icmp_ge (pc := 12) (tgt := 54) rfl (by decide) (fun h12 => ?_) (fun h12 => absurd (by decide) h12)
    refine z_iload_n (pc := 54) (i := 2) (j := 2) rfl rfl rfl ?_
    exact z_iret (pc := 55) rfl rfl ⟨rfl, rfl⟩
  | succ m ih =>
    intro k hkm
    · skip
      refine z_iload (pc := 7) (i := 4) (j := 4) rfl rfl ?_
      refine z_sipush (pc := 9) (v := 256) rfl (by decide) ?_
      refine z_icmp_ge (pc := 12) (tgt := 54) rfl (by decide) (fun h12 => ?_) (fun h12 => ?_)
      · exact absurd h12 (nI_ge (b := 256) (by omega) (by decide))
      · have j34 : ∀ u : Int32, (u = (if nI (k + 1) &&& (op ^^^ (-1)) = 0 then pnV (zI w (a + 1)) (nI (k + 1)) else -1)) → zS 0 0 d m_Smoke_bestGuests (fun rv w1 => rv = some (.int (bgN (zI w (a + 1)) op 255).1) ∧ w1 = w) 34 [(0, .ref a), (1, .int op), (2, .int ((bgN (zI w (a + 1)) op k).1)), (3, .int ((bgN (zI w (a + 1)) op k).2)), (4, .int (nI (k + 1)))] [.int u] w := by
          intro u h_j34
          refine z_istore (pc := 34) (i := 5) (ls' := [(0, .ref a), (1, .int op), (2, .int ((bgN (zI w (a + 1)) op k).1)), (3, .int ((bgN (zI w (a + 1)) op k).2)), (4, .int (nI (k + 1))), (5, .int u)]) rfl (by decide) rfl ?_
          refine z_iload (pc := 36) (i := 5) (j := 5) rfl rfl ?_
          refine z_iload_n (pc := 38) (i := 3) (j := 3) rfl rfl rfl ?_
          refine z_icmp_le (pc := 39) (tgt := 48) rfl (by decide) (fun h39 => ?_) (fun h39 => ?_)
          · refine z_iinc (pc := 48) (i := 4) (j := 4) (v := nI (k + 1 + 1)) (ls' := [(0, .ref a), (1, .int op), (2, .int ((bgN (zI w (a + 1)) op k).1)), (3, .int ((bgN (zI w (a + 1)) op k).2)), (4, .int (nI (k + 1 + 1))), (5, .int u)]) rfl rfl (nI_1 (k + 1)) (by decide) rfl ?_
            refine z_goto (pc := 51) (tgt := 7) rfl (by decide) ?_
            have e0 : bgN (zI w (a + 1)) op (k + 1) = bgN (zI w (a + 1)) op k := if_pos (h_j34 ▸ h39)
            have kk := ih (k + 1) (by omega)
            rw [e0] at kk
            refine z_drop ?_ kk
            simp
          · refine z_iload (pc := 42) (i := 4) (j := 4) rfl rfl ?_
            refine z_istore_n (pc := 44) (i := 2) (ls' := [(0, .ref a), (1, .int op), (2, .int (nI (k + 1))), (3, .int ((bgN (zI w (a + 1)) op k).2)), (4, .int (nI (k + 1))), (5, .int u)]) rfl rfl (by decide) rfl ?_
            refine z_iload (pc := 45) (i := 5) (j := 5) rfl rfl ?_
            refine z_istore_n (pc := 47) (i := 3) (ls' := [(0, .ref a), (1, .int op), (2, .int (nI (k + 1))), (3, .int u), (4, .int (nI (k + 1))), (5, .int u)]) rfl rfl (by decide) rfl ?_
            refine z_iinc (pc := 48) (i := 4) (j := 4) (v := nI (k + 1 + 1)) (ls' := [(0, .ref a), (1, .int op), (2, .int (nI (k + 1))), (3, .int u), (4, .int (nI (k + 1 + 1))), (5, .int u)]) rfl rfl (nI_1 (k + 1)) (by decide) rfl ?_
            refine z_goto (pc := 51) (tgt := 7) rfl (by decide) ?_
            have e0 : bgN (zI w (a + 1)) op (k + 1) = (nI (k + 1), (if nI (k + 1) &&& (op ^^^ (-1)) = 0 then pnV (zI w (a + 1)) (nI (k + 1)) else -1)) := if_neg (h_j34 ▸ h39)
            have kk := ih (k + 1) (by omega)
            rw [e0] at kk
            rw [← h_j34] at kk
            refine z_drop ?_ kk
            simp
        refine z_iload (pc := 15) (i := 4) (j := 4) rfl rfl ?_
        refine z_iload_n (pc := 17) (i := 1) (j := 1) rfl rfl rfl ?_
        refine z_iconst (pc := 18) (v := (-1)) rfl (by decide) ?_
        refine z_ixor (pc := 19) rfl ?_
        refine z_iand (pc := 20) rfl ?_
        refine z_if_ne (pc := 21) (tgt := 33) rfl (by decide) (fun h21 => ?_) (fun h21 => ?_)
        · refine z_iconst (pc := 33) (v := (-1)) rfl (by decide) ?_
          exact j34 _ (by rw [if_neg h21])
        · refine z_aload_n (pc := 24) (i := 0) (j := 0) rfl rfl rfl ?_
          refine z_iload (pc := 25) (i := 4) (j := 4) rfl rfl ?_
          refine z_cV (pc := 27) (mc1 := 0) (ms1 := 0) (mc2 := 0) (ms2 := 0) (as := [.int (nI (k + 1))]) (rest := []) (o := a) rfl rfl ha.1 ok_Smoke_pairsIfNoneTwice rfl rfl cl_Smoke_72 (by omega) (Nat.le_of_ble_eq_true rfl) (Nat.le_of_ble_eq_true rfl) (Nat.le_refl _) (Nat.le_refl _) (c_Smoke_pairsIfNoneTwice (w := w) ha (nI (k + 1)) 1 (by decide)) (fun r1 w1 hp => ?_) rfl rfl
          obtain ⟨rfl, hw1⟩ := hp
          rw [hw1]
          refine ⟨⟨Nat.le_refl _, Or.inl rfl⟩, ?_⟩
          refine z_goto (pc := 30) (tgt := 34) rfl (by decide) ?_
          exact j34 _ (by rw [if_pos h21])
set_option maxRecDepth 100000 in
set_option maxHeartbeats 4000000 in
theorem c_Smoke_bestGuests {w : zW} {a : Nat} (ha : zAir w a) (op : Int32) (d : Nat) (hd : 2 ≤ d) : zS 0 0 d m_Smoke_bestGuests (fun rv w1 => rv = some (.int (bgN (zI w (a + 1)) op 255).1) ∧ w1 = w) 0 [(0, .ref a), (1, .int op)] [] w := by
  refine z_iconst (pc := 0) (v := 0) rfl (by decide) ?_
  refine z_istore_n (pc := 1) (i := 2) (ls' := [(0, .ref a), (1, .int op), (2, .int 0)]) rfl rfl (by decide) rfl ?_
  refine z_iconst (pc := 2) (v := 0) rfl (by decide) ?_
  refine z_istore_n (pc := 3) (i := 3) (ls' := [(0, .ref a), (1, .int op), (2, .int 0), (3, .int 0)]) rfl rfl (by decide) rfl ?_
  refine z_iconst (pc := 4) (v := 1) rfl (by decide) ?_
  refine z_istore (pc := 5) (i := 4) (ls' := [(0, .ref a), (1, .int op), (2, .int 0), (3, .int 0), (4, .int 1)]) rfl (by decide) rfl ?_
  exact l_Smoke_best ha op d hd 255 0 rfl
def fsO (f : Nat → Nat → Int32) (H : Nat) : Int32 := ((1 <<< (nI H &&& 31)) - 1) &&& (f 21 11 ^^^ (-1))
def feastV (f : Nat → Nat → Int32) (s C R H : Nat) (F G : Int32 → Int32 → Int32 → Int32) (b v : Int32) : Int32 := if b < 0 then -1 else if 24 ≤ b then -1 else if v < 0 then -1 else if v ≤ 1 then (if v = 0 then pnV (cset (f) s C R (cyv F (f 21 8 + b)) G (f 21 8 + b) (((1 <<< (nI H &&& 31)) - 1) &&& (f 21 11 ^^^ (-1))) H) (bgN (cset (f) s C R (cyv F (f 21 8 + b)) G (f 21 8 + b) (((1 <<< (nI H &&& 31)) - 1) &&& (f 21 11 ^^^ (-1))) H) (((1 <<< (nI H &&& 31)) - 1) &&& (f 21 11 ^^^ (-1))) 255).1 else (bgN (cset (f) s C R (cyv F (f 21 8 + b)) G (f 21 8 + b) (((1 <<< (nI H &&& 31)) - 1) &&& (f 21 11 ^^^ (-1))) H) (((1 <<< (nI H &&& 31)) - 1) &&& (f 21 11 ^^^ (-1))) 255).1) else -1
set_option maxRecDepth 100000 in
set_option maxHeartbeats 4000000 in
theorem c_SW_feast {w : zW} {s C R H : Nat} {F G : Int32 → Int32 → Int32 → Int32} (hx : zX w s) (hi : zXi (zI w) s C R H F G) (hs : stIn (zI w) s C R H) (b v : Int32) (d : Nat) (hd : 5 ≤ d) : zS 0 0 d m_SW_feast (fun rv w1 => ∃ f, w1 = zuI w f ∧ cFr s w f ∧ rv = some (.int (feastV (zI w) s C R H F G b v))) 0 [(0, .ref 0), (1, .int b), (2, .int v)] [] w := by
  refine z_iload_n (pc := 0) (i := 1) (j := 1) rfl rfl rfl ?_
  refine z_if_lt (pc := 1) (tgt := 19) rfl (by decide) (fun h1 => ?_) (fun h1 => ?_)
  · refine z_iconst (pc := 19) (v := (-1)) rfl (by decide) ?_
    exact z_iret (pc := 20) rfl rfl ⟨zI w, rfl, cFr_r s w, by unfold feastV; rw [if_pos h1]⟩
  · refine z_iload_n (pc := 4) (i := 1) (j := 1) rfl rfl rfl ?_
    refine z_bipush (pc := 5) (v := 24) rfl (by decide) ?_
    refine z_icmp_ge (pc := 7) (tgt := 19) rfl (by decide) (fun h7 => ?_) (fun h7 => ?_)
    · refine z_iconst (pc := 19) (v := (-1)) rfl (by decide) ?_
      exact z_iret (pc := 20) rfl rfl ⟨zI w, rfl, cFr_r s w, by unfold feastV; rw [if_neg h1, if_pos h7]⟩
    · refine z_iload_n (pc := 10) (i := 2) (j := 2) rfl rfl rfl ?_
      refine z_if_lt (pc := 11) (tgt := 19) rfl (by decide) (fun h11 => ?_) (fun h11 => ?_)
      · refine z_iconst (pc := 19) (v := (-1)) rfl (by decide) ?_
        exact z_iret (pc := 20) rfl rfl ⟨zI w, rfl, cFr_r s w, by unfold feastV; rw [if_neg h1, if_neg h7, if_pos h11]⟩
      · refine z_iload_n (pc := 14) (i := 2) (j := 2) rfl rfl rfl ?_
        refine z_iconst (pc := 15) (v := 1) rfl (by decide) ?_
        refine z_icmp_le (pc := 16) (tgt := 21) rfl (by decide) (fun h16 => ?_) (fun h16 => ?_)
        · refine z_iconst (pc := 21) (v := 1) rfl (by decide) ?_
          refine z_aload_n (pc := 22) (i := 0) (j := 0) rfl rfl rfl ?_
          refine z_getR (pc := 23) (x := s) rfl fl_SW_48 hx.1 rfl hx.2.2.2.2.2.2.2.1 ?_
          refine z_getI (pc := 26) rfl fl_SW_171 hx.2.2.2.2.2.2.2.2.2.2.2.2.2.2.2.1.1 rfl ?_
          refine z_eqi (y := nI H) hi.2.2.1 ?_
          refine z_ishl (pc := 29) rfl ?_
          refine z_iconst (pc := 30) (v := 1) rfl (by decide) ?_
          refine z_isub (pc := 31) rfl ?_
          refine z_aload_n (pc := 32) (i := 0) (j := 0) rfl rfl rfl ?_
          refine z_getR (pc := 33) (x := 21) rfl fl_SW_31 hx.1 rfl hx.2.2.2.2.1 ?_
          refine z_getI (pc := 36) rfl fl_SW_91 hx.2.2.2.2.2.2.2.2.2.2.2.2.1.1 rfl ?_
          refine z_iconst (pc := 39) (v := (-1)) rfl (by decide) ?_
          refine z_ixor (pc := 40) rfl ?_
          refine z_iand (pc := 41) rfl ?_
          refine z_istore_n (pc := 42) (i := 3) (ls' := [(0, .ref 0), (1, .int b), (2, .int v), (3, .int (((1 <<< ((nI H) &&& 31)) - 1) &&& ((zI w 21 11) ^^^ (-1))))]) rfl rfl (by decide) rfl ?_
          refine z_aload_n (pc := 43) (i := 0) (j := 0) rfl rfl rfl ?_
          refine z_iload_n (pc := 44) (i := 1) (j := 1) rfl rfl rfl ?_
          refine z_iload_n (pc := 45) (i := 3) (j := 3) rfl rfl rfl ?_
          refine z_cV (pc := 46) (mc1 := 0) (ms1 := 0) (mc2 := 0) (ms2 := 0) (as := [.int b, .int (((1 <<< ((nI H) &&& 31)) - 1) &&& ((zI w 21 11) ^^^ (-1)))]) (rest := []) (o := 0) rfl rfl hx.1 ok_SW_rise rfl rfl cl_SW_129 (by omega) (Nat.le_of_ble_eq_true rfl) (Nat.le_of_ble_eq_true rfl) (Nat.le_refl _) (Nat.le_refl _) (c_riseF hx hi hs (cFr_r s w) b (((1 <<< (nI H &&& 31)) - 1) &&& (zI w 21 11 ^^^ (-1))) 4 (by decide)) (fun r1 w1 hp => ?_) rfl rfl
          obtain ⟨f1, hw1, rfl, hf1, hm1⟩ := hp
          rw [hw1]
          refine ⟨⟨Nat.le_refl _, Or.inl rfl⟩, ?_⟩
          refine z_pop (pc := 49) rfl rfl ?_
          refine z_aload_n (pc := 50) (i := 0) (j := 0) rfl rfl rfl ?_
          refine z_getR (pc := 51) (x := 16) rfl fl_SW_24 hx.1 rfl hx.2.2.2.1 ?_
          refine z_iload_n (pc := 54) (i := 3) (j := 3) rfl rfl rfl ?_
          refine z_cV (pc := 55) (mc1 := 0) (ms1 := 0) (mc2 := 0) (ms2 := 0) (as := [.int (((1 <<< ((nI H) &&& 31)) - 1) &&& ((zI w 21 11) ^^^ (-1)))]) (rest := []) (o := 16) rfl rfl hx.2.2.2.2.2.2.2.2.2.2.2.1.1 ok_Smoke_bestGuests rfl rfl cl_SW_174 (by omega) (Nat.le_of_ble_eq_true rfl) (Nat.le_of_ble_eq_true rfl) (Nat.le_refl _) (Nat.le_refl _) (c_Smoke_bestGuests (w := zuI w f1) (a := 16) (hx.2.2.2.2.2.2.2.2.2.2.2.1) (((1 <<< (nI H &&& 31)) - 1) &&& (zI w 21 11 ^^^ (-1))) 2 (by decide)) (fun r1 w1 hp => ?_) rfl rfl
          obtain ⟨rfl, hw2⟩ := hp
          rw [hw2, show bgN (zI (zuI w f1) (16 + 1)) (((1 <<< (nI H &&& 31)) - 1) &&& (zI w 21 11 ^^^ (-1))) 255 = bgN (cset (zI w) s C R (cyv F (zI w 21 8 + b)) G (zI w 21 8 + b) (((1 <<< (nI H &&& 31)) - 1) &&& (zI w 21 11 ^^^ (-1))) H) (((1 <<< (nI H &&& 31)) - 1) &&& (zI w 21 11 ^^^ (-1))) 255 from bgN_c _ hm1 255]
          refine ⟨⟨Nat.le_refl _, Or.inl rfl⟩, ?_⟩
          refine z_istore (pc := 58) (i := 4) (ls' := [(0, .ref 0), (1, .int b), (2, .int v), (3, .int (((1 <<< ((nI H) &&& 31)) - 1) &&& ((zI w 21 11) ^^^ (-1)))), (4, .int ((bgN (cset (zI w) s C R (cyv F (zI w 21 8 + b)) G (zI w 21 8 + b) (((1 <<< (nI H &&& 31)) - 1) &&& (zI w 21 11 ^^^ (-1))) H) (((1 <<< (nI H &&& 31)) - 1) &&& (zI w 21 11 ^^^ (-1))) 255).1))]) rfl (by decide) rfl ?_
          refine z_iload_n (pc := 60) (i := 2) (j := 2) rfl rfl rfl ?_
          refine z_if_ne (pc := 61) (tgt := 76) rfl (by decide) (fun h61 => ?_) (fun h61 => ?_)
          · refine z_iload (pc := 76) (i := 4) (j := 4) rfl rfl ?_
            exact z_iret (pc := 78) rfl rfl ⟨f1, rfl, hf1, by unfold feastV; rw [if_neg h1, if_neg h7, if_neg h11, if_pos h16, if_neg h61]⟩
          · refine z_aload_n (pc := 64) (i := 0) (j := 0) rfl rfl rfl ?_
            refine z_getR (pc := 65) (x := 16) rfl fl_SW_24 hx.1 rfl hx.2.2.2.1 ?_
            refine z_iload (pc := 68) (i := 4) (j := 4) rfl rfl ?_
            refine z_cV (pc := 70) (mc1 := 0) (ms1 := 0) (mc2 := 0) (ms2 := 0) (as := [.int ((bgN (cset (zI w) s C R (cyv F (zI w 21 8 + b)) G (zI w 21 8 + b) (((1 <<< (nI H &&& 31)) - 1) &&& (zI w 21 11 ^^^ (-1))) H) (((1 <<< (nI H &&& 31)) - 1) &&& (zI w 21 11 ^^^ (-1))) 255).1)]) (rest := []) (o := 16) rfl rfl hx.2.2.2.2.2.2.2.2.2.2.2.1.1 ok_Smoke_pairsIfNoneTwice rfl rfl cl_SW_177 (by omega) (Nat.le_of_ble_eq_true rfl) (Nat.le_of_ble_eq_true rfl) (Nat.le_refl _) (Nat.le_refl _) (c_Smoke_pairsIfNoneTwice (w := zuI w f1) (a := 16) (hx.2.2.2.2.2.2.2.2.2.2.2.1) _ 1 (by decide)) (fun r1 w1 hp => ?_) rfl rfl
            obtain ⟨rfl, hw2⟩ := hp
            rw [hw2, show pnV (zI (zuI w f1) (16 + 1)) (bgN (cset (zI w) s C R (cyv F (zI w 21 8 + b)) G (zI w 21 8 + b) (((1 <<< (nI H &&& 31)) - 1) &&& (zI w 21 11 ^^^ (-1))) H) (((1 <<< (nI H &&& 31)) - 1) &&& (zI w 21 11 ^^^ (-1))) 255).1 = pnV (cset (zI w) s C R (cyv F (zI w 21 8 + b)) G (zI w 21 8 + b) (((1 <<< (nI H &&& 31)) - 1) &&& (zI w 21 11 ^^^ (-1))) H) (bgN (cset (zI w) s C R (cyv F (zI w 21 8 + b)) G (zI w 21 8 + b) (((1 <<< (nI H &&& 31)) - 1) &&& (zI w 21 11 ^^^ (-1))) H) (((1 <<< (nI H &&& 31)) - 1) &&& (zI w 21 11 ^^^ (-1))) 255).1 from pnV_c _ hm1]
            refine ⟨⟨Nat.le_refl _, Or.inl rfl⟩, ?_⟩
            refine z_goto (pc := 73) (tgt := 78) rfl (by decide) ?_
            exact z_iret (pc := 78) rfl rfl ⟨f1, rfl, hf1, by unfold feastV; rw [if_neg h1, if_neg h7, if_neg h11, if_pos h16, if_pos h61]⟩
        · refine z_iconst (pc := 19) (v := (-1)) rfl (by decide) ?_
          exact z_iret (pc := 20) rfl rfl ⟨zI w, rfl, cFr_r s w, by unfold feastV; rw [if_neg h1, if_neg h7, if_neg h11, if_neg h16]⟩
