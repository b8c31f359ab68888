/-- one row of the ints replaced -/
def zr (f : Nat → Nat → Int32) (o : Nat) (g : Nat → Int32) : Nat → Nat → Int32 := fun a => if a = o then g else f a
theorem zr_h (f : Nat → Nat → Int32) (o : Nat) (g : Nat → Int32) : zr f o g o = g := if_pos rfl
theorem zr_o (f : Nat → Nat → Int32) {o a : Nat} (g : Nat → Int32) (h : a ≠ o) : zr f o g a = f a := if_neg h
theorem zr_put (f : Nat → Nat → Int32) (o k : Nat) (g : Nat → Int32) (x : Int32) : z2 (zr f o g) o k x = zr f o (upd g k x) := by
  funext a b
  unfold z2 zr upd
  by_cases h : a = o
  · subst h; simp
  · simp [h]
theorem zr_self (f : Nat → Nat → Int32) (o : Nat) : zr f o (f o) = f := by
  funext a
  unfold zr
  by_cases h : a = o <;> simp [h]
theorem zr_zr (f : Nat → Nat → Int32) (o : Nat) (g g2 : Nat → Int32) : zr (zr f o g) o g2 = zr f o g2 := by
  funext a
  unfold zr
  by_cases h : a = o <;> simp [h]
theorem z2_zr (f : Nat → Nat → Int32) (o k : Nat) (x : Int32) : z2 f o k x = zr f o (upd (f o) k x) := by
  funext a b
  unfold z2 zr upd
  by_cases h : a = o
  · subst h; simp
  · simp [h]
/-- who is wed behind the first i houses were looked at -/
def wedR (a b : Nat → Int32) (t : Int32) (i : Nat) : Nat → Int32 := fun k => if k < i then (if t = 0 then a k else 0) ||| b k else a k
theorem wedR_0 (a b : Nat → Int32) (t : Int32) : wedR a b t 0 = a := by funext k; simp [wedR]
theorem wedR_s (a b : Nat → Int32) (t : Int32) (i : Nat) : upd (wedR a b t i) i ((if t = 0 then a i else 0) ||| b i) = wedR a b t (i + 1) := by
  funext k
  unfold upd wedR
  by_cases h : k = i
  · subst h; simp
  · by_cases h2 : k < i
    · have : k < i + 1 := by omega
      simp [h, h2, this]
    · have : ¬ k < i + 1 := by omega
      simp [h, h2, this]
theorem wedR_i (a b : Nat → Int32) (t : Int32) (i : Nat) : wedR a b t i i = a i := by simp [wedR]
set_option maxRecDepth 100000 in
set_option maxHeartbeats 4000000 in
theorem l_SW_wed {w : zW} {o q : Nat} (h1 : w.1[o]? = some (10, 8)) (h2 : w.1[q]? = some (10, 8)) (hoq : o ≠ q) (t : Int32) (d : Nat) (hd : 1 ≤ d) : ∀ (m i : Nat), i ≤ 8 → 8 ≤ i + m → zS 0 0 d m_SW_wed (fun rv w1 => rv = some (.int (rsum (fun k => bitc (zI w q k &&& ((if t = 0 then zI w o k else 0) ^^^ (-1)))) 8 / 2)) ∧ w1 = zuI w (zr (zI w) o (wedR (zI w o) (zI w q) t 8))) 5 [(0, .ref o), (1, .int t), (2, .ref q), (3, .int (rsum (fun k => bitc (zI w q k &&& ((if t = 0 then zI w o k else 0) ^^^ (-1)))) i)), (4, .int (nI i))] [] (zuI w (zr (zI w) o (wedR (zI w o) (zI w q) t i))) := by
  have hex : zS 0 0 d m_SW_wed (fun rv w1 => rv = some (.int (rsum (fun k => bitc (zI w q k &&& ((if t = 0 then zI w o k else 0) ^^^ (-1)))) 8 / 2)) ∧ w1 = zuI w (zr (zI w) o (wedR (zI w o) (zI w q) t 8))) 5 [(0, .ref o), (1, .int t), (2, .ref q), (3, .int (rsum (fun k => bitc (zI w q k &&& ((if t = 0 then zI w o k else 0) ^^^ (-1)))) 8)), (4, .int (nI 8))] [] (zuI w (zr (zI w) o (wedR (zI w o) (zI w q) t 8))) := by
    refine z_iload (pc := 5) (i := 4) (j := 4) rfl rfl ?_
    refine z_bipush (pc := 7) (v := 8) rfl (by decide) ?_
    refine z_icmp_ge (pc := 9) (tgt := 58) rfl (by decide) (fun h9 => ?_) (fun h9 => ?_)
    · refine z_iload_n (pc := 58) (i := 3) (j := 3) rfl rfl rfl ?_
      refine z_iconst (pc := 59) (v := 2) rfl (by decide) ?_
      refine z_idiv (pc := 60) rfl (by decide) ?_
      exact z_iret (pc := 61) rfl rfl ⟨rfl, rfl⟩
    · exact absurd (by decide) h9
  intro m
  induction m with
  | zero =>
    intro i hi hm
    obtain rfl : i = 8 := by omega
    exact hex
  | succ m ih =>
    intro i hi hm
    by_cases hlt : i < 8
    · have kk := ih (i + 1) (by omega) (by omega)
      refine z_iload (pc := 5) (i := 4) (j := 4) rfl rfl ?_
      refine z_bipush (pc := 7) (v := 8) rfl (by decide) ?_
      refine z_icmp_ge (pc := 9) (tgt := 58) rfl (by decide) (fun h9 => ?_) (fun h9 => ?_)
      · exact absurd h9 (nI_ge (b := 8) hlt (by decide))
      · have j24 : ∀ s : Int32, (s = (if t = 0 then zI w o i else 0)) → zS 0 0 d m_SW_wed (fun rv w1 => rv = some (.int (rsum (fun k => bitc (zI w q k &&& ((if t = 0 then zI w o k else 0) ^^^ (-1)))) 8 / 2)) ∧ w1 = zuI w (zr (zI w) o (wedR (zI w o) (zI w q) t 8))) 24 [(0, .ref o), (1, .int t), (2, .ref q), (3, .int (rsum (fun k => bitc (zI w q k &&& ((if t = 0 then zI w o k else 0) ^^^ (-1)))) i)), (4, .int (nI i))] [.int s] (zuI w (zr (zI w) o (wedR (zI w o) (zI w q) t i))) := by
          intro s h_j24
          refine z_istore (pc := 24) (i := 5) (ls' := [(0, .ref o), (1, .int t), (2, .ref q), (3, .int (rsum (fun k => bitc (zI w q k &&& ((if t = 0 then zI w o k else 0) ^^^ (-1)))) i)), (4, .int (nI i)), (5, .int s)]) rfl (by decide) rfl ?_
          refine z_iload_n (pc := 26) (i := 3) (j := 3) rfl rfl rfl ?_
          refine z_aload_n (pc := 27) (i := 2) (j := 2) rfl rfl rfl ?_
          refine z_iload (pc := 28) (i := 4) (j := 4) rfl rfl ?_
          refine z_iald (pc := 30) rfl h2 (vp_in_nI hlt (by decide)) ?_
          refine z_eqi (y := zI w q i) (by rw [nI_clamp (by omega)]; exact congrFun (zr_o _ _ (Ne.symm hoq)) i) ?_
          refine z_iload (pc := 31) (i := 5) (j := 5) rfl rfl ?_
          refine z_iconst (pc := 33) (v := (-1)) rfl (by decide) ?_
          refine z_ixor (pc := 34) rfl ?_
          refine z_iand (pc := 35) rfl ?_
          refine z_cS (pc := 36) (mc1 := 0) (ms1 := 0) (mc2 := 0) (ms2 := 0) (as := [.int ((zI w q i) &&& (s ^^^ (-1)))]) (rest := [.int (rsum (fun k => bitc (zI w q k &&& ((if t = 0 then zI w o k else 0) ^^^ (-1)))) i)]) ok_Integer_bitCount rfl rfl cl_SW_275 (by omega) (Nat.le_of_ble_eq_true rfl) (Nat.le_of_ble_eq_true rfl) (Nat.le_refl _) (Nat.le_refl _) (c_Integer_bitCount _ 0 _) (fun r1 w1 hp => ?_) rfl rfl
          obtain ⟨rfl, hw1⟩ := hp
          rw [hw1]
          refine ⟨⟨Nat.le_refl _, Or.inl rfl⟩, ?_⟩
          refine z_iadd (pc := 39) rfl ?_
          refine z_istore_n (pc := 40) (i := 3) (ls' := [(0, .ref o), (1, .int t), (2, .ref q), (3, .int ((rsum (fun k => bitc (zI w q k &&& ((if t = 0 then zI w o k else 0) ^^^ (-1)))) i) + (bitc (zI w q i &&& (s ^^^ (-1)))))), (4, .int (nI i)), (5, .int s)]) rfl rfl (by decide) rfl ?_
          refine z_aload_n (pc := 41) (i := 0) (j := 0) rfl rfl rfl ?_
          refine z_iload (pc := 42) (i := 4) (j := 4) rfl rfl ?_
          refine z_iload (pc := 44) (i := 5) (j := 5) rfl rfl ?_
          refine z_aload_n (pc := 46) (i := 2) (j := 2) rfl rfl rfl ?_
          refine z_iload (pc := 47) (i := 4) (j := 4) rfl rfl ?_
          refine z_iald (pc := 49) rfl h2 (vp_in_nI hlt (by decide)) ?_
          refine z_eqi (y := zI w q i) (by rw [nI_clamp (by omega)]; exact congrFun (zr_o _ _ (Ne.symm hoq)) i) ?_
          refine z_ior (pc := 50) rfl ?_
          refine z_iast (pc := 51) rfl h1 (vp_in_nI hlt (by decide)) ?_
          refine z_iinc (pc := 52) (i := 4) (j := 4) (v := nI (i + 1)) (ls' := [(0, .ref o), (1, .int t), (2, .ref q), (3, .int ((rsum (fun k => bitc (zI w q k &&& ((if t = 0 then zI w o k else 0) ^^^ (-1)))) i) + (bitc (zI w q i &&& (s ^^^ (-1)))))), (4, .int (nI (i + 1))), (5, .int s)]) rfl rfl (nI_1 i) (by decide) rfl ?_
          refine z_goto (pc := 55) (tgt := 5) rfl (by decide) ?_
          rw [nI_clamp (by omega), h_j24]
          refine z_eqw (w2 := zuI w (zr (zI w) o (wedR (zI w o) (zI w q) t (i + 1)))) ?_ ?_
          · exact congrArg (zuI w) ((zr_put _ _ _ _ _).trans (by rw [wedR_s]))
          · refine z_drop ?_ kk
            simp [rsum]
        refine z_iload_n (pc := 12) (i := 1) (j := 1) rfl rfl rfl ?_
        refine z_if_eq (pc := 13) (tgt := 20) rfl (by decide) (fun h13 => ?_) (fun h13 => ?_)
        · refine z_aload_n (pc := 20) (i := 0) (j := 0) rfl rfl rfl ?_
          refine z_iload (pc := 21) (i := 4) (j := 4) rfl rfl ?_
          refine z_iald (pc := 23) rfl h1 (vp_in_nI hlt (by decide)) ?_
          refine z_eqi (y := zI w o i) (by rw [nI_clamp (by omega)]; exact (congrFun (zr_h _ _ _) i).trans (wedR_i _ _ _ _)) ?_
          exact j24 _ (by rw [if_pos h13])
        · refine z_iconst (pc := 16) (v := 0) rfl (by decide) ?_
          refine z_goto (pc := 17) (tgt := 24) rfl (by decide) ?_
          exact j24 _ (by rw [if_neg h13])
    · obtain rfl : i = 8 := by omega
      exact hex
set_option maxRecDepth 100000 in
set_option maxHeartbeats 4000000 in
theorem c_SW_wed {w : zW} {o q : Nat} (h1 : w.1[o]? = some (10, 8)) (h2 : w.1[q]? = some (10, 8)) (hoq : o ≠ q) (t : Int32) (d : Nat) (hd : 1 ≤ d) : zS 0 0 d m_SW_wed (fun rv w1 => rv = some (.int (rsum (fun k => bitc (zI w q k &&& ((if t = 0 then zI w o k else 0) ^^^ (-1)))) 8 / 2)) ∧ w1 = zuI w (zr (zI w) o (wedR (zI w o) (zI w q) t 8))) 0 [(0, .ref o), (1, .int t), (2, .ref q)] [] w := by
  refine z_iconst (pc := 0) (v := 0) rfl (by decide) ?_
  refine z_istore_n (pc := 1) (i := 3) (ls' := [(0, .ref o), (1, .int t), (2, .ref q), (3, .int 0)]) rfl rfl (by decide) rfl ?_
  refine z_iconst (pc := 2) (v := nI 0) rfl rfl ?_
  refine z_istore (pc := 3) (i := 4) (ls' := [(0, .ref o), (1, .int t), (2, .ref q), (3, .int 0), (4, .int (nI 0))]) rfl (by decide) rfl ?_
  refine z_eqw (w2 := zuI w (zr (zI w) o (wedR (zI w o) (zI w q) t 0))) ?_ (l_SW_wed h1 h2 hoq t d hd 8 0 (by omega) (by omega))
  rw [wedR_0, zr_self]
  rfl
