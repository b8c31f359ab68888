/-! THE MODEL'S WEDDINGS -/
theorem z2_ru (f : Nat → Nat → Int32) (o k : Nat) (x : Int32) : z2 f o k x o = upd (f o) k x := by funext b; unfold z2 upd; by_cases h : b = k <;> simp [h]
def mbit (x : Int32) (b : Nat) : Int32 := if (x >>> (nI b &&& 31)) &&& 1 = 1 then 1 else 0
def wedV (y u : Int32) : Int32 := if 0 < y then y + 1 else if u = 0 then 0 else y + 1
def wedE (ch v : Int32) : Int32 := if ch = 0 then 0 else if v ≤ 0 then 0 else if v - v / 3 * 3 = 0 then 1 else 0
def wedG (y u : Int32) (a b : Nat) : Int32 := if y = 0 then (if u = 0 then 0 else if nI b ≤ nI a then 0 else 1) else 0
def wedS (t ch : Int32) (met : Nat → Int32) (a b : Nat) (q : (Nat → Int32) × Int32) : (Nat → Int32) × Int32 :=
  (upd (upd q.1 (8 * a + b) (wedV (if t = 0 then q.1 (8 * a + b) else 0) (mbit (met a) b))) (64 + (8 * a + b)) (q.1 (64 + (8 * a + b)) + wedE ch (wedV (if t = 0 then q.1 (8 * a + b) else 0) (mbit (met a) b))), q.2 + wedG (if t = 0 then q.1 (8 * a + b) else 0) (mbit (met a) b) a b)
def wedN (t ch : Int32) (met : Nat → Int32) (a : Nat) (q : (Nat → Int32) × Int32) : Nat → (Nat → Int32) × Int32
  | 0 => q
  | b + 1 => wedS t ch met a b (wedN t ch met a q b)
def wedA (t ch : Int32) (met : Nat → Int32) (H : Nat) (q : (Nat → Int32) × Int32) : Nat → (Nat → Int32) × Int32
  | 0 => q
  | a + 1 => wedN t ch met a (wedA t ch met H q a) H
set_option maxRecDepth 100000 in
set_option maxHeartbeats 4000000 in
theorem lI_Mod_weds {w : zW} (hm : zMo w) {P : Option Value → zW → Prop} {H : Nat} (hH : zI w 46 4 = nI H) (hH8 : H ≤ 8) (t ch : Int32) {a : Nat} (ha : a < H) (q : (Nat → Int32) × Int32) (d : Nat) (kx : ∀ f : Nat → Nat → Int32, (f 67 = (wedN t ch (zI w 71) a q H).1 ∧ f 44 40 = (wedN t ch (zI w 71) a q H).2 ∧ (∀ o, o ≠ 44 → o ≠ 67 → f o = zI w o) ∧ (∀ k, k ≠ 40 → f 44 k = zI w 44 k)) → zS 0 0 d m_Mod_weds P 189 [(0, .ref 44), (1, .int t), (2, .int ch), (3, .int (nI a))] [] (zuI w f)) : ∀ (m i : Nat) (f : Nat → Nat → Int32), i ≤ H → H ≤ i + m → (f 67 = (wedN t ch (zI w 71) a q i).1 ∧ f 44 40 = (wedN t ch (zI w 71) a q i).2 ∧ (∀ o, o ≠ 44 → o ≠ 67 → f o = zI w o) ∧ (∀ k, k ≠ 40 → f 44 k = zI w 44 k)) → zS 0 0 d m_Mod_weds P 15 [(0, .ref 44), (1, .int t), (2, .int ch), (3, .int (nI a)), (4, .int (nI i))] [] (zuI w f) := by
  have hex : ∀ f : Nat → Nat → Int32, (f 67 = (wedN t ch (zI w 71) a q H).1 ∧ f 44 40 = (wedN t ch (zI w 71) a q H).2 ∧ (∀ o, o ≠ 44 → o ≠ 67 → f o = zI w o) ∧ (∀ k, k ≠ 40 → f 44 k = zI w 44 k)) → zS 0 0 d m_Mod_weds P 15 [(0, .ref 44), (1, .int t), (2, .int ch), (3, .int (nI a)), (4, .int (nI H))] [] (zuI w f) := by
    intro f hf
    refine z_iload (pc := 15) (i := 4) (j := 4) rfl rfl ?_
    refine z_aload_n (pc := 17) (i := 0) (j := 0) rfl rfl rfl ?_
    refine z_getR (pc := 18) (x := 46) rfl fl_Mod_13 hm.1 rfl (mr_46 hm) ?_
    refine z_iconst (pc := 21) (v := 4) rfl (by decide) ?_
    refine z_iald (pc := 22) rfl (mk_46 hm) (vp_in_nI (n := 4) (by decide) (by decide)) ?_
    refine z_eqi (y := nI H) ((congrFun (hf.2.2.1 46 (by decide) (by decide)) 4).trans hH) ?_
    refine z_icmp_ge (pc := 23) (tgt := 189) rfl (by decide) (fun h23 => ?_) (fun h23 => ?_)
    · exact z_drop (by simp) (kx f hf)
    · exact absurd (Int32.le_refl _) h23
  intro m
  induction m with
  | zero =>
    intro i f hi hmm hf
    obtain rfl : i = H := by omega
    exact hex f hf
  | succ m ih =>
    intro i f hi hmm hf
    by_cases hlt : i < H
    · skip
      refine z_iload (pc := 15) (i := 4) (j := 4) rfl rfl ?_
      refine z_aload_n (pc := 17) (i := 0) (j := 0) rfl rfl rfl ?_
      refine z_getR (pc := 18) (x := 46) rfl fl_Mod_13 hm.1 rfl (mr_46 hm) ?_
      refine z_iconst (pc := 21) (v := 4) rfl (by decide) ?_
      refine z_iald (pc := 22) rfl (mk_46 hm) (vp_in_nI (n := 4) (by decide) (by decide)) ?_
      refine z_eqi (y := nI H) ((congrFun (hf.2.2.1 46 (by decide) (by decide)) 4).trans hH) ?_
      refine z_icmp_ge (pc := 23) (tgt := 189) rfl (by decide) (fun h23 => ?_) (fun h23 => ?_)
      · exact absurd h23 (nI_ge (b := H) hlt (by omega))
      · refine z_bipush (pc := 26) (v := 8) rfl (by decide) ?_
        refine z_iload_n (pc := 28) (i := 3) (j := 3) rfl rfl rfl ?_
        refine z_imul (pc := 29) rfl ?_
        refine z_iload (pc := 30) (i := 4) (j := 4) rfl rfl ?_
        refine z_iadd (pc := 32) rfl ?_
        refine z_eqi (y := nI (8 * a + i)) (by rw [show (8 : Int32) = nI 8 from rfl, pk_mul, nI_add]) ?_
        refine z_istore (pc := 33) (i := 5) (ls' := [(0, .ref 44), (1, .int t), (2, .int ch), (3, .int (nI a)), (4, .int (nI i)), (5, .int (nI (8 * a + i)))]) rfl (by decide) rfl ?_
        refine z_iload_n (pc := 35) (i := 1) (j := 1) rfl rfl rfl ?_
        have j47 : ∀ g : Nat → Nat → Int32, (g 67 = (if t = 0 then (wedN t ch (zI w 71) a q i).1 else upd (wedN t ch (zI w 71) a q i).1 (8 * a + i) 0) ∧ ∀ o, o ≠ 67 → g o = f o) → zS 0 0 d m_Mod_weds P 47 [(0, .ref 44), (1, .int t), (2, .int ch), (3, .int (nI a)), (4, .int (nI i)), (5, .int (nI (8 * a + i)))] [] (zuI w g) := by
          intro g h_j47
          have gy : g 67 (8 * a + i) = (if t = 0 then (wedN t ch (zI w 71) a q i).1 (8 * a + i) else 0) := by
            rw [h_j47.1]
            split
            · rfl
            · exact pk_us
          generalize hy : (if t = 0 then (wedN t ch (zI w 71) a q i).1 (8 * a + i) else 0) = y at gy
          refine z_aload_n (pc := 47) (i := 0) (j := 0) rfl rfl rfl ?_
          refine z_getR (pc := 48) (x := 71) rfl fl_Mod_90 hm.1 rfl (mr_71 hm) ?_
          refine z_iload_n (pc := 51) (i := 3) (j := 3) rfl rfl rfl ?_
          refine z_iald (pc := 52) rfl (mk_71 hm) (vp_in_nI (show a < 8 by omega) (by decide)) ?_
          refine z_eqi (y := zI w 71 a) (by rw [nI_clamp (by omega)]; exact congrFun ((h_j47.2 71 (by decide)).trans (hf.2.2.1 71 (by decide) (by decide))) a) ?_
          refine z_iload (pc := 53) (i := 4) (j := 4) rfl rfl ?_
          refine z_ishr (pc := 55) rfl ?_
          refine z_iconst (pc := 56) (v := 1) rfl (by decide) ?_
          refine z_iand (pc := 57) rfl ?_
          have j67 : ∀ u : Int32, (u = mbit (zI w 71 a) i) → zS 0 0 d m_Mod_weds P 67 [(0, .ref 44), (1, .int t), (2, .int ch), (3, .int (nI a)), (4, .int (nI i)), (5, .int (nI (8 * a + i)))] [.int u] (zuI w g) := by
            intro u h_j67
            refine z_istore (pc := 67) (i := 6) (ls' := [(0, .ref 44), (1, .int t), (2, .int ch), (3, .int (nI a)), (4, .int (nI i)), (5, .int (nI (8 * a + i))), (6, .int u)]) rfl (by decide) rfl ?_
            refine z_aload_n (pc := 69) (i := 0) (j := 0) rfl rfl rfl ?_
            refine z_dup (pc := 70) rfl rfl ?_
            refine z_getI (pc := 71) rfl fl_Mod_314 hm.1 rfl ?_
            refine z_eqi (y := (wedN t ch (zI w 71) a q i).2) ((congrFun (h_j47.2 44 (by decide)) 40).trans hf.2.1) ?_
            refine z_aload_n (pc := 74) (i := 0) (j := 0) rfl rfl rfl ?_
            refine z_getR (pc := 75) (x := 67) rfl fl_Mod_78 hm.1 rfl (mr_67 hm) ?_
            refine z_iload (pc := 78) (i := 5) (j := 5) rfl rfl ?_
            refine z_iald (pc := 80) rfl (mk_67 hm) (vp_in_nI (show 8 * a + i < 1344 by omega) (by decide)) ?_
            refine z_eqi (y := y) (by rw [nI_clamp (by omega)]; exact gy) ?_
            have j100 : ∀ gg : Int32, (gg = wedG y u a i) → zS 0 0 d m_Mod_weds P 100 [(0, .ref 44), (1, .int t), (2, .int ch), (3, .int (nI a)), (4, .int (nI i)), (5, .int (nI (8 * a + i))), (6, .int u)] [.int gg, .int ((wedN t ch (zI w 71) a q i).2), .ref 44] (zuI w g) := by
              intro gg h_j100
              refine z_iadd (pc := 100) rfl ?_
              refine z_putI (pc := 101) rfl fl_Mod_314 hm.1 rfl  ?_
              refine z_aload_n (pc := 104) (i := 0) (j := 0) rfl rfl rfl ?_
              refine z_getR (pc := 105) (x := 67) rfl fl_Mod_78 hm.1 rfl (mr_67 hm) ?_
              refine z_iload (pc := 108) (i := 5) (j := 5) rfl rfl ?_
              refine z_aload_n (pc := 110) (i := 0) (j := 0) rfl rfl rfl ?_
              refine z_getR (pc := 111) (x := 67) rfl fl_Mod_78 hm.1 rfl (mr_67 hm) ?_
              refine z_iload (pc := 114) (i := 5) (j := 5) rfl rfl ?_
              refine z_iald (pc := 116) rfl (mk_67 hm) (vp_in_nI (show 8 * a + i < 1344 by omega) (by decide)) ?_
              refine z_eqi (y := y) (by rw [nI_clamp (by omega)]; exact (congrFun (z2_ro g (o := 44) (a := 67) 40 ((wedN t ch (zI w 71) a q i).2 + gg) (by decide)) _).trans gy) ?_
              have j138 : ∀ v : Int32, (v = wedV y u) → zS 0 0 d m_Mod_weds P 138 [(0, .ref 44), (1, .int t), (2, .int ch), (3, .int (nI a)), (4, .int (nI i)), (5, .int (nI (8 * a + i))), (6, .int u)] [.int v, .int (nI (8 * a + i)), .ref 67] (zuI w (z2 g 44 40 (((wedN t ch (zI w 71) a q i).2) + gg))) := by
                intro v h_j138
                refine z_iast (pc := 138) rfl (mk_67 hm) (vp_in_nI (show 8 * a + i < 1344 by omega) (by decide)) ?_
                refine z_aload_n (pc := 139) (i := 0) (j := 0) rfl rfl rfl ?_
                refine z_getR (pc := 140) (x := 67) rfl fl_Mod_78 hm.1 rfl (mr_67 hm) ?_
                refine z_bipush (pc := 143) (v := 64) rfl (by decide) ?_
                refine z_iload (pc := 145) (i := 5) (j := 5) rfl rfl ?_
                refine z_iadd (pc := 147) rfl ?_
                refine z_eqi (y := nI (64 + (8 * a + i))) (by rw [show (64 : Int32) = nI 64 from rfl, nI_add]) ?_
                refine z_dup2 (pc := 148) rfl rfl rfl ?_
                refine z_iald (pc := 149) rfl (mk_67 hm) (vp_in_nI (show 64 + (8 * a + i) < 1344 by omega) (by decide)) ?_
                refine z_eqi (y := (wedN t ch (zI w 71) a q i).1 (64 + (8 * a + i))) (by rw [nI_clamp (by omega), nI_clamp (by omega)]; refine (z2_k _ _ _ (by omega)).trans ((z2_o g (o := 44) (a := 67) 40 (64 + (8 * a + i)) ((wedN t ch (zI w 71) a q i).2 + gg) (by decide)).trans ?_); rw [h_j47.1]; split; rfl; exact pk_un (by omega)) ?_
                have j181 : ∀ e : Int32, (e = wedE ch v) → zS 0 0 d m_Mod_weds P 181 [(0, .ref 44), (1, .int t), (2, .int ch), (3, .int (nI a)), (4, .int (nI i)), (5, .int (nI (8 * a + i))), (6, .int u)] [.int e, .int ((wedN t ch (zI w 71) a q i).1 (64 + (8 * a + i))), .int (nI (64 + (8 * a + i))), .ref 67] (zuI w (z2 (z2 g 44 40 (((wedN t ch (zI w 71) a q i).2) + gg)) 67 (nI (8 * a + i)).toNatClampNeg v)) := by
                  intro e h_j181
                  refine z_iadd (pc := 181) rfl ?_
                  refine z_iast (pc := 182) rfl (mk_67 hm) (vp_in_nI (show 64 + (8 * a + i) < 1344 by omega) (by decide)) ?_
                  refine z_iinc (pc := 183) (i := 4) (j := 4) (v := nI (i + 1)) (ls' := [(0, .ref 44), (1, .int t), (2, .int ch), (3, .int (nI a)), (4, .int (nI (i + 1))), (5, .int (nI (8 * a + i))), (6, .int u)]) rfl rfl (nI_1 i) (by decide) rfl ?_
                  refine z_goto (pc := 186) (tgt := 15) rfl (by decide) ?_
                  rw [nI_clamp (show 8 * a + i < 2 ^ 31 by omega), nI_clamp (show 64 + (8 * a + i) < 2 ^ 31 by omega)]
                  have hS : wedN t ch (zI w 71) a q (i + 1) = (upd (upd (wedN t ch (zI w 71) a q i).1 (8 * a + i) v) (64 + (8 * a + i)) ((wedN t ch (zI w 71) a q i).1 (64 + (8 * a + i)) + e), (wedN t ch (zI w 71) a q i).2 + gg) := by
                    show wedS _ _ _ _ _ _ = _
                    unfold wedS
                    rw [hy, ← h_j67, ← h_j138, ← h_j181, ← h_j100]
                  refine z_drop ?_ (ih (i + 1) _ (by omega) (by omega) ⟨?_, ?_, fun o h1 h2 => ?_, fun k hk => ?_⟩)
                  · simp
                  · rw [hS]; refine (z2_ru _ _ _ _).trans ?_; refine congrArg (fun r => upd r (64 + (8 * a + i)) _) ?_; refine (z2_ru _ _ _ _).trans ?_; rw [show z2 g 44 40 ((wedN t ch (zI w 71) a q i).2 + gg) 67 = g 67 from z2_ro g (o := 44) (a := 67) _ _ (by decide), h_j47.1]; split; rfl; exact fa_upd_twice _ _ _ _
                  · rw [hS]; exact (z2_o (z2 (z2 g 44 40 ((wedN t ch (zI w 71) a q i).2 + gg)) 67 (8 * a + i) v) (o := 67) (a := 44) (64 + (8 * a + i)) 40 ((wedN t ch (zI w 71) a q i).1 (64 + (8 * a + i)) + e) (by decide)).trans ((z2_o (z2 g 44 40 ((wedN t ch (zI w 71) a q i).2 + gg)) (o := 67) (a := 44) (8 * a + i) 40 v (by decide)).trans (z2_hit g 44 40 ((wedN t ch (zI w 71) a q i).2 + gg)))
                  · exact (z2_ro _ (o := 67) _ _ h2).trans ((z2_ro _ (o := 67) _ _ h2).trans ((z2_ro g (o := 44) _ _ h1).trans ((h_j47.2 o h2).trans (hf.2.2.1 o h1 h2))))
                  · exact (z2_o (z2 (z2 g 44 40 ((wedN t ch (zI w 71) a q i).2 + gg)) 67 (8 * a + i) v) (o := 67) (a := 44) (64 + (8 * a + i)) k ((wedN t ch (zI w 71) a q i).1 (64 + (8 * a + i)) + e) (by decide)).trans ((z2_o (z2 g 44 40 ((wedN t ch (zI w 71) a q i).2 + gg)) (o := 67) (a := 44) (8 * a + i) k v (by decide)).trans ((z2_k g 44 _ hk).trans ((congrFun (h_j47.2 44 (by decide)) k).trans (hf.2.2.2 k hk))))
                refine z_iload_n (pc := 150) (i := 2) (j := 2) rfl rfl rfl ?_
                refine z_if_eq (pc := 151) (tgt := 180) rfl (by decide) (fun h151 => ?_) (fun h151 => ?_)
                · refine z_iconst (pc := 180) (v := 0) rfl (by decide) ?_
                  exact j181 _ (by unfold wedE; rw [if_pos h151])
                · refine z_aload_n (pc := 154) (i := 0) (j := 0) rfl rfl rfl ?_
                  refine z_getR (pc := 155) (x := 67) rfl fl_Mod_78 hm.1 rfl (mr_67 hm) ?_
                  refine z_iload (pc := 158) (i := 5) (j := 5) rfl rfl ?_
                  refine z_iald (pc := 160) rfl (mk_67 hm) (vp_in_nI (show 8 * a + i < 1344 by omega) (by decide)) ?_
                  refine z_eqi (y := v) (by rw [nI_clamp (by omega)]; exact z2_hit _ _ _ _) ?_
                  refine z_if_le (pc := 161) (tgt := 180) rfl (by decide) (fun h161 => ?_) (fun h161 => ?_)
                  · refine z_iconst (pc := 180) (v := 0) rfl (by decide) ?_
                    exact j181 _ (by unfold wedE; rw [if_neg h151, if_pos h161])
                  · refine z_aload_n (pc := 164) (i := 0) (j := 0) rfl rfl rfl ?_
                    refine z_getR (pc := 165) (x := 67) rfl fl_Mod_78 hm.1 rfl (mr_67 hm) ?_
                    refine z_iload (pc := 168) (i := 5) (j := 5) rfl rfl ?_
                    refine z_iald (pc := 170) rfl (mk_67 hm) (vp_in_nI (show 8 * a + i < 1344 by omega) (by decide)) ?_
                    refine z_eqi (y := v) (by rw [nI_clamp (by omega)]; exact z2_hit _ _ _ _) ?_
                    refine z_iconst (pc := 171) (v := 3) rfl (by decide) ?_
                    refine z_irem (pc := 172) rfl (by decide) ?_
                    refine z_if_ne (pc := 173) (tgt := 180) rfl (by decide) (fun h173 => ?_) (fun h173 => ?_)
                    · refine z_iconst (pc := 180) (v := 0) rfl (by decide) ?_
                      exact j181 _ (by unfold wedE; rw [if_neg h151, if_neg h161, if_neg h173])
                    · refine z_iconst (pc := 176) (v := 1) rfl (by decide) ?_
                      refine z_goto (pc := 177) (tgt := 181) rfl (by decide) ?_
                      exact j181 _ (by unfold wedE; rw [if_neg h151, if_neg h161, if_pos h173])
              refine z_if_gt (pc := 117) (tgt := 125) rfl (by decide) (fun h117 => ?_) (fun h117 => ?_)
              · refine z_aload_n (pc := 125) (i := 0) (j := 0) rfl rfl rfl ?_
                refine z_getR (pc := 126) (x := 67) rfl fl_Mod_78 hm.1 rfl (mr_67 hm) ?_
                refine z_iload (pc := 129) (i := 5) (j := 5) rfl rfl ?_
                refine z_iald (pc := 131) rfl (mk_67 hm) (vp_in_nI (show 8 * a + i < 1344 by omega) (by decide)) ?_
                refine z_eqi (y := y) (by rw [nI_clamp (by omega)]; exact (congrFun (z2_ro g (o := 44) (a := 67) 40 ((wedN t ch (zI w 71) a q i).2 + gg) (by decide)) _).trans gy) ?_
                refine z_iconst (pc := 132) (v := 1) rfl (by decide) ?_
                refine z_iadd (pc := 133) rfl ?_
                refine z_goto (pc := 134) (tgt := 138) rfl (by decide) ?_
                exact j138 _ (by unfold wedV; rw [if_pos h117])
              · refine z_iload (pc := 120) (i := 6) (j := 6) rfl rfl ?_
                refine z_if_eq (pc := 122) (tgt := 137) rfl (by decide) (fun h122 => ?_) (fun h122 => ?_)
                · refine z_iconst (pc := 137) (v := 0) rfl (by decide) ?_
                  exact j138 _ (by unfold wedV; rw [if_neg h117, if_pos h122])
                · refine z_aload_n (pc := 125) (i := 0) (j := 0) rfl rfl rfl ?_
                  refine z_getR (pc := 126) (x := 67) rfl fl_Mod_78 hm.1 rfl (mr_67 hm) ?_
                  refine z_iload (pc := 129) (i := 5) (j := 5) rfl rfl ?_
                  refine z_iald (pc := 131) rfl (mk_67 hm) (vp_in_nI (show 8 * a + i < 1344 by omega) (by decide)) ?_
                  refine z_eqi (y := y) (by rw [nI_clamp (by omega)]; exact (congrFun (z2_ro g (o := 44) (a := 67) 40 ((wedN t ch (zI w 71) a q i).2 + gg) (by decide)) _).trans gy) ?_
                  refine z_iconst (pc := 132) (v := 1) rfl (by decide) ?_
                  refine z_iadd (pc := 133) rfl ?_
                  refine z_goto (pc := 134) (tgt := 138) rfl (by decide) ?_
                  exact j138 _ (by unfold wedV; rw [if_neg h117, if_neg h122])
            refine z_if_ne (pc := 81) (tgt := 99) rfl (by decide) (fun h81 => ?_) (fun h81 => ?_)
            · refine z_iconst (pc := 99) (v := 0) rfl (by decide) ?_
              exact j100 _ (by unfold wedG; rw [if_neg h81])
            · refine z_iload (pc := 84) (i := 6) (j := 6) rfl rfl ?_
              refine z_if_eq (pc := 86) (tgt := 99) rfl (by decide) (fun h86 => ?_) (fun h86 => ?_)
              · refine z_iconst (pc := 99) (v := 0) rfl (by decide) ?_
                exact j100 _ (by unfold wedG; rw [if_pos h81, if_pos h86])
              · refine z_iload_n (pc := 89) (i := 3) (j := 3) rfl rfl rfl ?_
                refine z_iload (pc := 90) (i := 4) (j := 4) rfl rfl ?_
                refine z_icmp_ge (pc := 92) (tgt := 99) rfl (by decide) (fun h92 => ?_) (fun h92 => ?_)
                · refine z_iconst (pc := 99) (v := 0) rfl (by decide) ?_
                  exact j100 _ (by unfold wedG; rw [if_pos h81, if_neg h86, if_pos h92])
                · refine z_iconst (pc := 95) (v := 1) rfl (by decide) ?_
                  refine z_goto (pc := 96) (tgt := 100) rfl (by decide) ?_
                  exact j100 _ (by unfold wedG; rw [if_pos h81, if_neg h86, if_neg h92])
          refine z_iconst (pc := 58) (v := 1) rfl (by decide) ?_
          refine z_icmp_ne (pc := 59) (tgt := 66) rfl (by decide) (fun h59 => ?_) (fun h59 => ?_)
          · refine z_iconst (pc := 66) (v := 0) rfl (by decide) ?_
            exact j67 _ (by unfold mbit; rw [if_neg h59])
          · refine z_iconst (pc := 62) (v := 1) rfl (by decide) ?_
            refine z_goto (pc := 63) (tgt := 67) rfl (by decide) ?_
            exact j67 _ (by unfold mbit; rw [if_pos h59])
        refine z_if_eq (pc := 36) (tgt := 47) rfl (by decide) (fun h36 => ?_) (fun h36 => ?_)
        · exact j47 f ⟨by rw [if_pos h36]; exact hf.1, fun _ _ => rfl⟩
        · refine z_aload_n (pc := 39) (i := 0) (j := 0) rfl rfl rfl ?_
          refine z_getR (pc := 40) (x := 67) rfl fl_Mod_78 hm.1 rfl (mr_67 hm) ?_
          refine z_iload (pc := 43) (i := 5) (j := 5) rfl rfl ?_
          refine z_iconst (pc := 45) (v := 0) rfl (by decide) ?_
          refine z_iast (pc := 46) rfl (mk_67 hm) (vp_in_nI (show 8 * a + i < 1344 by omega) (by decide)) ?_
          exact j47 _ ⟨by rw [nI_clamp (by omega)]; exact (z2_ru f 67 _ 0).trans (by rw [if_neg h36, hf.1]), fun o ho => by rw [nI_clamp (by omega)]; exact z2_ro f (o := 67) _ 0 ho⟩
    · obtain rfl : i = H := by omega
      exact hex f hf
set_option maxRecDepth 100000 in
set_option maxHeartbeats 4000000 in
theorem lO_Mod_weds {w : zW} (hm : zMo w) {H : Nat} (hH : zI w 46 4 = nI H) (hH8 : H ≤ 8) (t ch : Int32) (d : Nat) : ∀ (m i : Nat) (f : Nat → Nat → Int32), i ≤ H → H ≤ i + m → (f 67 = (wedA t ch (zI w 71) H (zI w 67, zI w 44 40) i).1 ∧ f 44 40 = (wedA t ch (zI w 71) H (zI w 67, zI w 44 40) i).2 ∧ (∀ o, o ≠ 44 → o ≠ 67 → f o = zI w o) ∧ (∀ k, k ≠ 40 → f 44 k = zI w 44 k)) → zS 0 0 d m_Mod_weds (fun rv w1 => ∃ f, w1 = zuI w f ∧ rv = none ∧ f 67 = (wedA t ch (zI w 71) H (zI w 67, zI w 44 40) H).1 ∧ f 44 40 = (wedA t ch (zI w 71) H (zI w 67, zI w 44 40) H).2 ∧ (∀ o, o ≠ 44 → o ≠ 67 → f o = zI w o) ∧ (∀ k, k ≠ 40 → f 44 k = zI w 44 k)) 2 [(0, .ref 44), (1, .int t), (2, .int ch), (3, .int (nI i))] [] (zuI w f) := by
  have hex : ∀ f : Nat → Nat → Int32, (f 67 = (wedA t ch (zI w 71) H (zI w 67, zI w 44 40) H).1 ∧ f 44 40 = (wedA t ch (zI w 71) H (zI w 67, zI w 44 40) H).2 ∧ (∀ o, o ≠ 44 → o ≠ 67 → f o = zI w o) ∧ (∀ k, k ≠ 40 → f 44 k = zI w 44 k)) → zS 0 0 d m_Mod_weds (fun rv w1 => ∃ f, w1 = zuI w f ∧ rv = none ∧ f 67 = (wedA t ch (zI w 71) H (zI w 67, zI w 44 40) H).1 ∧ f 44 40 = (wedA t ch (zI w 71) H (zI w 67, zI w 44 40) H).2 ∧ (∀ o, o ≠ 44 → o ≠ 67 → f o = zI w o) ∧ (∀ k, k ≠ 40 → f 44 k = zI w 44 k)) 2 [(0, .ref 44), (1, .int t), (2, .int ch), (3, .int (nI H))] [] (zuI w f) := by
    intro f hf
    refine z_iload_n (pc := 2) (i := 3) (j := 3) rfl rfl rfl ?_
    refine z_aload_n (pc := 3) (i := 0) (j := 0) rfl rfl rfl ?_
    refine z_getR (pc := 4) (x := 46) rfl fl_Mod_13 hm.1 rfl (mr_46 hm) ?_
    refine z_iconst (pc := 7) (v := 4) rfl (by decide) ?_
    refine z_iald (pc := 8) rfl (mk_46 hm) (vp_in_nI (n := 4) (by decide) (by decide)) ?_
    refine z_eqi (y := nI H) ((congrFun (hf.2.2.1 46 (by decide) (by decide)) 4).trans hH) ?_
    refine z_icmp_ge (pc := 9) (tgt := 195) rfl (by decide) (fun h9 => ?_) (fun h9 => ?_)
    · exact z_vret (pc := 195) rfl rfl ⟨f, rfl, rfl, hf⟩
    · exact absurd (Int32.le_refl _) h9
  intro m
  induction m with
  | zero =>
    intro i f hi hmm hf
    obtain rfl : i = H := by omega
    exact hex f hf
  | succ m ih =>
    intro i f hi hmm hf
    by_cases hlt : i < H
    · skip
      refine z_iload_n (pc := 2) (i := 3) (j := 3) rfl rfl rfl ?_
      refine z_aload_n (pc := 3) (i := 0) (j := 0) rfl rfl rfl ?_
      refine z_getR (pc := 4) (x := 46) rfl fl_Mod_13 hm.1 rfl (mr_46 hm) ?_
      refine z_iconst (pc := 7) (v := 4) rfl (by decide) ?_
      refine z_iald (pc := 8) rfl (mk_46 hm) (vp_in_nI (n := 4) (by decide) (by decide)) ?_
      refine z_eqi (y := nI H) ((congrFun (hf.2.2.1 46 (by decide) (by decide)) 4).trans hH) ?_
      refine z_icmp_ge (pc := 9) (tgt := 195) rfl (by decide) (fun h9 => ?_) (fun h9 => ?_)
      · exact absurd h9 (nI_ge (b := H) hlt (by omega))
      · refine z_iconst (pc := 12) (v := 0) rfl (by decide) ?_
        refine z_istore (pc := 13) (i := 4) (ls' := [(0, .ref 44), (1, .int t), (2, .int ch), (3, .int (nI i)), (4, .int 0)]) rfl (by decide) rfl ?_
        refine lI_Mod_weds hm hH hH8 t ch hlt (wedA t ch (zI w 71) H (zI w 67, zI w 44 40) i) d ?_ H 0 f (by omega) (by omega) hf
        intro f hf
        refine z_iinc (pc := 189) (i := 3) (j := 3) (v := nI (i + 1)) (ls' := [(0, .ref 44), (1, .int t), (2, .int ch), (3, .int (nI (i + 1)))]) rfl rfl (nI_1 i) (by decide) rfl ?_
        refine z_goto (pc := 192) (tgt := 2) rfl (by decide) ?_
        exact ih (i + 1) f (by omega) (by omega) hf
    · obtain rfl : i = H := by omega
      exact hex f hf
set_option maxRecDepth 100000 in
set_option maxHeartbeats 4000000 in
theorem c_Mod_weds {w : zW} (hm : zMo w) {H : Nat} (hH : zI w 46 4 = nI H) (hH8 : H ≤ 8) (t ch : Int32) (d : Nat) : zS 0 0 d m_Mod_weds (fun rv w1 => ∃ f, w1 = zuI w f ∧ rv = none ∧ f 67 = (wedA t ch (zI w 71) H (zI w 67, zI w 44 40) H).1 ∧ f 44 40 = (wedA t ch (zI w 71) H (zI w 67, zI w 44 40) H).2 ∧ (∀ o, o ≠ 44 → o ≠ 67 → f o = zI w o) ∧ (∀ k, k ≠ 40 → f 44 k = zI w 44 k)) 0 [(0, .ref 44), (1, .int t), (2, .int ch)] [] w := by
  refine z_iconst (pc := 0) (v := nI 0) rfl rfl ?_
  refine z_istore_n (pc := 1) (i := 3) (ls' := [(0, .ref 44), (1, .int t), (2, .int ch), (3, .int (nI 0))]) rfl rfl (by decide) rfl ?_
  exact lO_Mod_weds hm hH hH8 t ch d H 0 (zI w) (by omega) (by omega) ⟨rfl, rfl, fun _ _ _ => rfl, fun _ _ => rfl⟩
