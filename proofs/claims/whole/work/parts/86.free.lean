/-! THE OBJECT: free by an hour -/
def mnI (x y : Int32) : Int32 := if y < x then y else x
def frcS (m ah pr cold : Int32) (yv : Nat) (q : Int32 × Int32) : Int32 × Int32 :=
  (mnI ((if turnV ah (nI yv) = 0 then q.1 else mnI q.1 q.2) + cold) (if m = 0 then (if turnV ah (nI yv) = 0 then q.1 else mnI q.1 q.2) + pr else 1000000),
   mnI ((if turnV ah (nI yv) = 0 then q.2 else 1000000) + cold) ((if m = 0 then (if turnV ah (nI yv) = 0 then q.2 else 1000000) else mnI (if turnV ah (nI yv) = 0 then q.1 else mnI q.1 q.2) (if turnV ah (nI yv) = 0 then q.2 else 1000000)) + pr))
def frcT (f : Nat → Nat → Int32) (s C R H : Nat) (F G : Int32 → Int32 → Int32 → Int32) (pr : Int32) (j : Nat) : Nat → Nat → Int32 → Int32 × Int32 → Int32 × Int32
  | 0, _, _, q => q
  | m + 1, t, ah, q => frcT f s C R H F G pr j m (t + 1) (nI (cyv F (f 21 8 + nI t))) (frcS (cset f s C R (cyv F (f 21 8 + nI t)) G (f 21 8 + nI t) ((f 21 10 ||| bitI j) &&& (f 21 11 ^^^ (-1))) H j) ah pr (f s 9) (cyv F (f 21 8 + nI t)) q)
set_option maxRecDepth 100000 in
set_option maxHeartbeats 4000000 in
theorem l_SW_free {w : zW} {s C R H : Nat} {F G : Int32 → Int32 → Int32 → Int32} (hx : zX w s) (hi : zXi (zI w) s C R H F G) (hs : stIn (zI w) s C R H) {j n : Nat} (hj8 : j < 8) (hn : n ≤ 24) (z pr : Int32) (d : Nat) (hd : 5 ≤ d) : ∀ (m t : Nat) (ah : Int32) (q : Int32 × Int32) (f : Nat → Nat → Int32), t + m = n → cFr s w f → zS 0 0 d m_SW_free (fun rv w1 => ∃ f, w1 = zuI w f ∧ cFr s w f ∧ rv = some (.int (if 1000000 ≤ (frcT (zI w) s C R H F G pr j m t ah q).1 then -1 else (frcT (zI w) s C R H F G pr j m t ah q).1))) 114 [(0, .ref 0), (1, .int (nI j)), (2, .int (nI n)), (3, .int z), (4, .int q.1), (5, .int q.2), (6, .int (bitI j)), (7, .int ah), (8, .int pr), (9, .int (nI t))] [] (zuI w f) := by
  have hss := (hx.2.2.2.2.2.2.2.2.2.2.2.2.2.2.2.2)
  intro m
  induction m with
  | zero =>
    intro t ah q f htm hf
    obtain rfl : t = n := by omega
    refine z_iload (pc := 114) (i := 9) (j := 9) rfl rfl ?_
    refine z_iload_n (pc := 116) (i := 2) (j := 2) rfl rfl rfl ?_
    refine z_icmp_ge (pc := 117) (tgt := 273) rfl (by decide) (fun h117 => ?_) (fun h117 => absurd (Int32.le_refl _) h117)
    refine z_iload (pc := 273) (i := 4) (j := 4) rfl rfl ?_
    refine z_ldc (pc := 275) (v := 1000000) rfl kl_SW_180 ?_
    refine z_icmp_ge (pc := 277) (tgt := 285) rfl (by decide) (fun h277 => ?_) (fun h277 => ?_)
    · refine z_iconst (pc := 285) (v := (-1)) rfl (by decide) ?_
      exact z_iret (pc := 286) rfl rfl ⟨f, rfl, hf, by rw [show frcT (zI w) s C R H F G pr j 0 t ah q = q from rfl, if_pos h277]⟩
    · refine z_iload (pc := 280) (i := 4) (j := 4) rfl rfl ?_
      refine z_goto (pc := 282) (tgt := 286) rfl (by decide) ?_
      exact z_iret (pc := 286) rfl rfl ⟨f, rfl, hf, by rw [show frcT (zI w) s C R H F G pr j 0 t ah q = q from rfl, if_neg h277]⟩
  | succ m ih =>
    intro t ah q f htm hf
    have e21 : f 21 = zI w 21 := hf 21 (by omega) (by omega) (by omega) (by omega) (by omega) (by omega)
    · skip
      refine z_iload (pc := 114) (i := 9) (j := 9) rfl rfl ?_
      refine z_iload_n (pc := 116) (i := 2) (j := 2) rfl rfl rfl ?_
      refine z_icmp_ge (pc := 117) (tgt := 273) rfl (by decide) (fun h117 => ?_) (fun h117 => ?_)
      · exact absurd h117 (nI_ge (b := n) (by omega) (by omega))
      · refine z_aload_n (pc := 120) (i := 0) (j := 0) rfl rfl rfl ?_
        refine z_iload (pc := 121) (i := 9) (j := 9) rfl rfl ?_
        refine z_aload_n (pc := 123) (i := 0) (j := 0) rfl rfl rfl ?_
        refine z_getR (pc := 124) (x := 21) rfl fl_SW_31 hx.1 rfl hx.2.2.2.2.1 ?_
        refine z_getI (pc := 127) rfl fl_SW_88 hx.2.2.2.2.2.2.2.2.2.2.2.2.1.1 rfl ?_
        refine z_eqi (y := zI w 21 10) (congrFun e21 10) ?_
        refine z_iload (pc := 130) (i := 6) (j := 6) rfl rfl ?_
        refine z_ior (pc := 132) rfl ?_
        refine z_aload_n (pc := 133) (i := 0) (j := 0) rfl rfl rfl ?_
        refine z_getR (pc := 134) (x := 21) rfl fl_SW_31 hx.1 rfl hx.2.2.2.2.1 ?_
        refine z_getI (pc := 137) rfl fl_SW_91 hx.2.2.2.2.2.2.2.2.2.2.2.2.1.1 rfl ?_
        refine z_eqi (y := zI w 21 11) (congrFun e21 11) ?_
        refine z_iconst (pc := 140) (v := (-1)) rfl (by decide) ?_
        refine z_ixor (pc := 141) rfl ?_
        refine z_iand (pc := 142) rfl ?_
        refine z_cV (pc := 143) (mc1 := 0) (ms1 := 0) (mc2 := 0) (ms2 := 0) (as := [.int (nI t), .int (((zI w 21 10) ||| (bitI j)) &&& ((zI w 21 11) ^^^ (-1)))]) (rest := []) (o := 0) rfl rfl hx.1 ok_SW_rise rfl rfl cl_SW_129 (by omega) (Nat.le_of_ble_eq_true rfl) (Nat.le_of_ble_eq_true rfl) (Nat.le_refl _) (Nat.le_refl _) (c_riseF hx hi hs hf (nI t) ((zI w 21 10 ||| bitI j) &&& (zI w 21 11 ^^^ (-1))) 4 (by decide)) (fun r1 w1 hp => ?_) rfl rfl
        obtain ⟨f1, hw1, rfl, hf1, hm1⟩ := hp
        rw [hw1]
        refine ⟨⟨Nat.le_refl _, Or.inl rfl⟩, ?_⟩
        have g0 : f1 s = zI w s := hf1 s (by omega) (by omega) (by omega) (by omega) (by omega) (by omega)
        refine z_istore (pc := 146) (i := 10) (ls' := [(0, .ref 0), (1, .int (nI j)), (2, .int (nI n)), (3, .int z), (4, .int q.1), (5, .int q.2), (6, .int (bitI j)), (7, .int ah), (8, .int pr), (9, .int (nI t)), (10, .int (nI (cyv F (zI w 21 8 + nI t))))]) rfl (by decide) rfl ?_
        refine z_iload (pc := 148) (i := 7) (j := 7) rfl rfl ?_
        refine z_iload (pc := 150) (i := 10) (j := 10) rfl rfl ?_
        refine z_cS (pc := 152) (mc1 := 0) (ms1 := 0) (mc2 := 0) (ms2 := 0) (as := [.int ah, .int (nI (cyv F (zI w 21 8 + nI t)))]) (rest := []) ok_SW_turns rfl rfl cl_SW_190 (by omega) (Nat.le_of_ble_eq_true rfl) (Nat.le_of_ble_eq_true rfl) (Nat.le_refl _) (Nat.le_refl _) (c_SW_turns ah (nI (cyv F (zI w 21 8 + nI t))) 0 _) (fun r1 w1 hp => ?_) rfl rfl
        obtain ⟨rfl, hw1⟩ := hp
        rw [hw1]
        refine ⟨⟨Nat.le_refl _, Or.inl rfl⟩, ?_⟩
        refine z_if_eq (pc := 155) (tgt := 171) rfl (by decide) (fun h155 => ?_) (fun h155 => ?_)
        · refine z_iload (pc := 171) (i := 10) (j := 10) rfl rfl ?_
          refine z_istore (pc := 173) (i := 7) (ls' := [(0, .ref 0), (1, .int (nI j)), (2, .int (nI n)), (3, .int z), (4, .int q.1), (5, .int q.2), (6, .int (bitI j)), (7, .int (nI (cyv F (zI w 21 8 + nI t)))), (8, .int pr), (9, .int (nI t)), (10, .int (nI (cyv F (zI w 21 8 + nI t))))]) rfl (by decide) rfl ?_
          refine z_aload_n (pc := 175) (i := 0) (j := 0) rfl rfl rfl ?_
          refine z_getR (pc := 176) (x := 16) rfl fl_SW_24 hx.1 rfl hx.2.2.2.1 ?_
          refine z_getR (pc := 179) (x := 17) rfl fl_SW_133 hx.2.2.2.2.2.2.2.2.2.2.2.1.1 rfl hx.2.2.2.2.2.2.2.2.2.2.2.1.2.2.2.2.2.1 ?_
          refine z_iload_n (pc := 182) (i := 1) (j := 1) rfl rfl rfl ?_
          refine z_iald (pc := 183) rfl hx.2.2.2.2.2.2.2.2.2.2.2.1.2.1 (vp_in_nI (n := j) (N := 8) hj8 (by decide)) ?_
          refine z_eqi (y := cset (zI w) s C R (cyv F (zI w 21 8 + nI t)) G (zI w 21 8 + nI t) ((zI w 21 10 ||| bitI j) &&& (zI w 21 11 ^^^ (-1))) H j) (by rw [nI_clamp (by omega)]; exact hm1 j hj8) ?_
          refine z_if_eq (pc := 184) (tgt := 191) rfl (by decide) (fun h184 => ?_) (fun h184 => ?_)
          · refine z_iconst (pc := 191) (v := 0) rfl (by decide) ?_
            refine z_istore (pc := 192) (i := 11) (ls' := [(0, .ref 0), (1, .int (nI j)), (2, .int (nI n)), (3, .int z), (4, .int q.1), (5, .int q.2), (6, .int (bitI j)), (7, .int (nI (cyv F (zI w 21 8 + nI t)))), (8, .int pr), (9, .int (nI t)), (10, .int (nI (cyv F (zI w 21 8 + nI t)))), (11, .int 0)]) rfl (by decide) rfl ?_
            refine z_iload (pc := 194) (i := 11) (j := 11) rfl rfl ?_
            refine z_if_eq (pc := 196) (tgt := 204) rfl (by decide) (fun h196 => ?_) (fun h196 => ?_)
            · refine z_iload (pc := 204) (i := 4) (j := 4) rfl rfl ?_
              refine z_iload (pc := 206) (i := 8) (j := 8) rfl rfl ?_
              refine z_iadd (pc := 208) rfl ?_
              refine z_istore (pc := 209) (i := 12) (ls' := [(0, .ref 0), (1, .int (nI j)), (2, .int (nI n)), (3, .int z), (4, .int q.1), (5, .int q.2), (6, .int (bitI j)), (7, .int (nI (cyv F (zI w 21 8 + nI t)))), (8, .int pr), (9, .int (nI t)), (10, .int (nI (cyv F (zI w 21 8 + nI t)))), (11, .int 0), (12, .int (q.1 + pr))]) rfl (by decide) rfl ?_
              refine z_iload (pc := 211) (i := 11) (j := 11) rfl rfl ?_
              refine z_if_eq (pc := 213) (tgt := 226) rfl (by decide) (fun h213 => ?_) (fun h213 => ?_)
              · refine z_iload (pc := 226) (i := 5) (j := 5) rfl rfl ?_
                refine z_iload (pc := 228) (i := 8) (j := 8) rfl rfl ?_
                refine z_iadd (pc := 230) rfl ?_
                refine z_istore (pc := 231) (i := 13) (ls' := [(0, .ref 0), (1, .int (nI j)), (2, .int (nI n)), (3, .int z), (4, .int q.1), (5, .int q.2), (6, .int (bitI j)), (7, .int (nI (cyv F (zI w 21 8 + nI t)))), (8, .int pr), (9, .int (nI t)), (10, .int (nI (cyv F (zI w 21 8 + nI t)))), (11, .int 0), (12, .int (q.1 + pr)), (13, .int (q.2 + pr))]) rfl (by decide) rfl ?_
                refine z_iload (pc := 233) (i := 4) (j := 4) rfl rfl ?_
                refine z_aload_n (pc := 235) (i := 0) (j := 0) rfl rfl rfl ?_
                refine z_getR (pc := 236) (x := s) rfl fl_SW_48 hx.1 rfl hx.2.2.2.2.2.2.2.1 ?_
                refine z_getI (pc := 239) rfl fl_SW_184 hx.2.2.2.2.2.2.2.2.2.2.2.2.2.2.2.1.1 rfl ?_
                refine z_eqi (y := zI w s 9) (congrFun g0 9) ?_
                refine z_iadd (pc := 242) rfl ?_
                refine z_iload (pc := 243) (i := 12) (j := 12) rfl rfl ?_
                refine z_mmin (pc := 245) rfl ml_SW_193 (by omega) (Nat.le_of_ble_eq_true rfl) ?_
                refine z_istore (pc := 248) (i := 4) (ls' := [(0, .ref 0), (1, .int (nI j)), (2, .int (nI n)), (3, .int z), (4, .int (if q.1 + pr < q.1 + (zI w s 9) then q.1 + pr else q.1 + (zI w s 9))), (5, .int q.2), (6, .int (bitI j)), (7, .int (nI (cyv F (zI w 21 8 + nI t)))), (8, .int pr), (9, .int (nI t)), (10, .int (nI (cyv F (zI w 21 8 + nI t)))), (11, .int 0), (12, .int (q.1 + pr)), (13, .int (q.2 + pr))]) rfl (by decide) rfl ?_
                refine z_iload (pc := 250) (i := 5) (j := 5) rfl rfl ?_
                refine z_aload_n (pc := 252) (i := 0) (j := 0) rfl rfl rfl ?_
                refine z_getR (pc := 253) (x := s) rfl fl_SW_48 hx.1 rfl hx.2.2.2.2.2.2.2.1 ?_
                refine z_getI (pc := 256) rfl fl_SW_184 hx.2.2.2.2.2.2.2.2.2.2.2.2.2.2.2.1.1 rfl ?_
                refine z_eqi (y := zI w s 9) (congrFun g0 9) ?_
                refine z_iadd (pc := 259) rfl ?_
                refine z_iload (pc := 260) (i := 13) (j := 13) rfl rfl ?_
                refine z_mmin (pc := 262) rfl ml_SW_193 (by omega) (Nat.le_of_ble_eq_true rfl) ?_
                refine z_istore (pc := 265) (i := 5) (ls' := [(0, .ref 0), (1, .int (nI j)), (2, .int (nI n)), (3, .int z), (4, .int (if q.1 + pr < q.1 + (zI w s 9) then q.1 + pr else q.1 + (zI w s 9))), (5, .int (if q.2 + pr < q.2 + (zI w s 9) then q.2 + pr else q.2 + (zI w s 9))), (6, .int (bitI j)), (7, .int (nI (cyv F (zI w 21 8 + nI t)))), (8, .int pr), (9, .int (nI t)), (10, .int (nI (cyv F (zI w 21 8 + nI t)))), (11, .int 0), (12, .int (q.1 + pr)), (13, .int (q.2 + pr))]) rfl (by decide) rfl ?_
                refine z_iinc (pc := 267) (i := 9) (j := 9) (v := nI (t + 1)) (ls' := [(0, .ref 0), (1, .int (nI j)), (2, .int (nI n)), (3, .int z), (4, .int (if q.1 + pr < q.1 + (zI w s 9) then q.1 + pr else q.1 + (zI w s 9))), (5, .int (if q.2 + pr < q.2 + (zI w s 9) then q.2 + pr else q.2 + (zI w s 9))), (6, .int (bitI j)), (7, .int (nI (cyv F (zI w 21 8 + nI t)))), (8, .int pr), (9, .int (nI (t + 1))), (10, .int (nI (cyv F (zI w 21 8 + nI t)))), (11, .int 0), (12, .int (q.1 + pr)), (13, .int (q.2 + pr))]) rfl rfl (nI_1 t) (by decide) rfl ?_
                refine z_goto (pc := 270) (tgt := 114) rfl (by decide) ?_
                have hT : turnV ah (nI (cyv F (zI w 21 8 + nI t))) = 0 := h155
                have e0 : frcS (cset (zI w) s C R (cyv F (zI w 21 8 + nI t)) G (zI w 21 8 + nI t) ((zI w 21 10 ||| bitI j) &&& (zI w 21 11 ^^^ (-1))) H j) ah pr (zI w s 9) (cyv F (zI w 21 8 + nI t)) q = (if q.1 + pr < q.1 + (zI w s 9) then q.1 + pr else q.1 + (zI w s 9), if q.2 + pr < q.2 + (zI w s 9) then q.2 + pr else q.2 + (zI w s 9)) := by
                  unfold frcS mnI
                  simp only [hT, h184, if_true, if_false, ite_true, ite_false]
                have kk := ih (t + 1) (nI (cyv F (zI w 21 8 + nI t))) (frcS (cset (zI w) s C R (cyv F (zI w 21 8 + nI t)) G (zI w 21 8 + nI t) ((zI w 21 10 ||| bitI j) &&& (zI w 21 11 ^^^ (-1))) H j) ah pr (zI w s 9) (cyv F (zI w 21 8 + nI t)) q) f1 (by omega) hf1
                rw [e0] at kk
                refine z_mono (fun r w9 h9 => ?_) (z_drop ?_ kk)
                · obtain ⟨f9, a1, a2, a3⟩ := h9
                  refine ⟨f9, a1, a2, ?_⟩
                  rw [show frcT (zI w) s C R H F G pr j (m + 1) t ah q = frcT (zI w) s C R H F G pr j m (t + 1) (nI (cyv F (zI w 21 8 + nI t))) (frcS (cset (zI w) s C R (cyv F (zI w 21 8 + nI t)) G (zI w 21 8 + nI t) ((zI w 21 10 ||| bitI j) &&& (zI w 21 11 ^^^ (-1))) H j) ah pr (zI w s 9) (cyv F (zI w 21 8 + nI t)) q) from rfl, e0]
                  exact a3
                · simp
              · exact absurd rfl h213
            · exact absurd rfl h196
          · refine z_iconst (pc := 187) (v := 1) rfl (by decide) ?_
            refine z_goto (pc := 188) (tgt := 192) rfl (by decide) ?_
            refine z_istore (pc := 192) (i := 11) (ls' := [(0, .ref 0), (1, .int (nI j)), (2, .int (nI n)), (3, .int z), (4, .int q.1), (5, .int q.2), (6, .int (bitI j)), (7, .int (nI (cyv F (zI w 21 8 + nI t)))), (8, .int pr), (9, .int (nI t)), (10, .int (nI (cyv F (zI w 21 8 + nI t)))), (11, .int 1)]) rfl (by decide) rfl ?_
            refine z_iload (pc := 194) (i := 11) (j := 11) rfl rfl ?_
            refine z_if_eq (pc := 196) (tgt := 204) rfl (by decide) (fun h196 => ?_) (fun h196 => ?_)
            · exact absurd h196 (by decide)
            · refine z_ldc (pc := 199) (v := 1000000) rfl kl_SW_180 ?_
              refine z_goto (pc := 201) (tgt := 209) rfl (by decide) ?_
              refine z_istore (pc := 209) (i := 12) (ls' := [(0, .ref 0), (1, .int (nI j)), (2, .int (nI n)), (3, .int z), (4, .int q.1), (5, .int q.2), (6, .int (bitI j)), (7, .int (nI (cyv F (zI w 21 8 + nI t)))), (8, .int pr), (9, .int (nI t)), (10, .int (nI (cyv F (zI w 21 8 + nI t)))), (11, .int 1), (12, .int 1000000)]) rfl (by decide) rfl ?_
              refine z_iload (pc := 211) (i := 11) (j := 11) rfl rfl ?_
              refine z_if_eq (pc := 213) (tgt := 226) rfl (by decide) (fun h213 => ?_) (fun h213 => ?_)
              · exact absurd h213 (by decide)
              · refine z_iload (pc := 216) (i := 4) (j := 4) rfl rfl ?_
                refine z_iload (pc := 218) (i := 5) (j := 5) rfl rfl ?_
                refine z_mmin (pc := 220) rfl ml_SW_193 (by omega) (Nat.le_of_ble_eq_true rfl) ?_
                refine z_goto (pc := 223) (tgt := 228) rfl (by decide) ?_
                refine z_iload (pc := 228) (i := 8) (j := 8) rfl rfl ?_
                refine z_iadd (pc := 230) rfl ?_
                refine z_istore (pc := 231) (i := 13) (ls' := [(0, .ref 0), (1, .int (nI j)), (2, .int (nI n)), (3, .int z), (4, .int q.1), (5, .int q.2), (6, .int (bitI j)), (7, .int (nI (cyv F (zI w 21 8 + nI t)))), (8, .int pr), (9, .int (nI t)), (10, .int (nI (cyv F (zI w 21 8 + nI t)))), (11, .int 1), (12, .int 1000000), (13, .int ((if q.2 < q.1 then q.2 else q.1) + pr))]) rfl (by decide) rfl ?_
                refine z_iload (pc := 233) (i := 4) (j := 4) rfl rfl ?_
                refine z_aload_n (pc := 235) (i := 0) (j := 0) rfl rfl rfl ?_
                refine z_getR (pc := 236) (x := s) rfl fl_SW_48 hx.1 rfl hx.2.2.2.2.2.2.2.1 ?_
                refine z_getI (pc := 239) rfl fl_SW_184 hx.2.2.2.2.2.2.2.2.2.2.2.2.2.2.2.1.1 rfl ?_
                refine z_eqi (y := zI w s 9) (congrFun g0 9) ?_
                refine z_iadd (pc := 242) rfl ?_
                refine z_iload (pc := 243) (i := 12) (j := 12) rfl rfl ?_
                refine z_mmin (pc := 245) rfl ml_SW_193 (by omega) (Nat.le_of_ble_eq_true rfl) ?_
                refine z_istore (pc := 248) (i := 4) (ls' := [(0, .ref 0), (1, .int (nI j)), (2, .int (nI n)), (3, .int z), (4, .int (if 1000000 < q.1 + (zI w s 9) then 1000000 else q.1 + (zI w s 9))), (5, .int q.2), (6, .int (bitI j)), (7, .int (nI (cyv F (zI w 21 8 + nI t)))), (8, .int pr), (9, .int (nI t)), (10, .int (nI (cyv F (zI w 21 8 + nI t)))), (11, .int 1), (12, .int 1000000), (13, .int ((if q.2 < q.1 then q.2 else q.1) + pr))]) rfl (by decide) rfl ?_
                refine z_iload (pc := 250) (i := 5) (j := 5) rfl rfl ?_
                refine z_aload_n (pc := 252) (i := 0) (j := 0) rfl rfl rfl ?_
                refine z_getR (pc := 253) (x := s) rfl fl_SW_48 hx.1 rfl hx.2.2.2.2.2.2.2.1 ?_
                refine z_getI (pc := 256) rfl fl_SW_184 hx.2.2.2.2.2.2.2.2.2.2.2.2.2.2.2.1.1 rfl ?_
                refine z_eqi (y := zI w s 9) (congrFun g0 9) ?_
                refine z_iadd (pc := 259) rfl ?_
                refine z_iload (pc := 260) (i := 13) (j := 13) rfl rfl ?_
                refine z_mmin (pc := 262) rfl ml_SW_193 (by omega) (Nat.le_of_ble_eq_true rfl) ?_
                refine z_istore (pc := 265) (i := 5) (ls' := [(0, .ref 0), (1, .int (nI j)), (2, .int (nI n)), (3, .int z), (4, .int (if 1000000 < q.1 + (zI w s 9) then 1000000 else q.1 + (zI w s 9))), (5, .int (if (if q.2 < q.1 then q.2 else q.1) + pr < q.2 + (zI w s 9) then (if q.2 < q.1 then q.2 else q.1) + pr else q.2 + (zI w s 9))), (6, .int (bitI j)), (7, .int (nI (cyv F (zI w 21 8 + nI t)))), (8, .int pr), (9, .int (nI t)), (10, .int (nI (cyv F (zI w 21 8 + nI t)))), (11, .int 1), (12, .int 1000000), (13, .int ((if q.2 < q.1 then q.2 else q.1) + pr))]) rfl (by decide) rfl ?_
                refine z_iinc (pc := 267) (i := 9) (j := 9) (v := nI (t + 1)) (ls' := [(0, .ref 0), (1, .int (nI j)), (2, .int (nI n)), (3, .int z), (4, .int (if 1000000 < q.1 + (zI w s 9) then 1000000 else q.1 + (zI w s 9))), (5, .int (if (if q.2 < q.1 then q.2 else q.1) + pr < q.2 + (zI w s 9) then (if q.2 < q.1 then q.2 else q.1) + pr else q.2 + (zI w s 9))), (6, .int (bitI j)), (7, .int (nI (cyv F (zI w 21 8 + nI t)))), (8, .int pr), (9, .int (nI (t + 1))), (10, .int (nI (cyv F (zI w 21 8 + nI t)))), (11, .int 1), (12, .int 1000000), (13, .int ((if q.2 < q.1 then q.2 else q.1) + pr))]) rfl rfl (nI_1 t) (by decide) rfl ?_
                refine z_goto (pc := 270) (tgt := 114) rfl (by decide) ?_
                have hT : turnV ah (nI (cyv F (zI w 21 8 + nI t))) = 0 := h155
                have e0 : frcS (cset (zI w) s C R (cyv F (zI w 21 8 + nI t)) G (zI w 21 8 + nI t) ((zI w 21 10 ||| bitI j) &&& (zI w 21 11 ^^^ (-1))) H j) ah pr (zI w s 9) (cyv F (zI w 21 8 + nI t)) q = (if 1000000 < q.1 + (zI w s 9) then 1000000 else q.1 + (zI w s 9), if (if q.2 < q.1 then q.2 else q.1) + pr < q.2 + (zI w s 9) then (if q.2 < q.1 then q.2 else q.1) + pr else q.2 + (zI w s 9)) := by
                  unfold frcS mnI
                  simp only [hT, h184, if_true, if_false, ite_true, ite_false]
                have kk := ih (t + 1) (nI (cyv F (zI w 21 8 + nI t))) (frcS (cset (zI w) s C R (cyv F (zI w 21 8 + nI t)) G (zI w 21 8 + nI t) ((zI w 21 10 ||| bitI j) &&& (zI w 21 11 ^^^ (-1))) H j) ah pr (zI w s 9) (cyv F (zI w 21 8 + nI t)) q) f1 (by omega) hf1
                rw [e0] at kk
                refine z_mono (fun r w9 h9 => ?_) (z_drop ?_ kk)
                · obtain ⟨f9, a1, a2, a3⟩ := h9
                  refine ⟨f9, a1, a2, ?_⟩
                  rw [show frcT (zI w) s C R H F G pr j (m + 1) t ah q = frcT (zI w) s C R H F G pr j m (t + 1) (nI (cyv F (zI w 21 8 + nI t))) (frcS (cset (zI w) s C R (cyv F (zI w 21 8 + nI t)) G (zI w 21 8 + nI t) ((zI w 21 10 ||| bitI j) &&& (zI w 21 11 ^^^ (-1))) H j) ah pr (zI w s 9) (cyv F (zI w 21 8 + nI t)) q) from rfl, e0]
                  exact a3
                · simp
        · refine z_iload (pc := 158) (i := 4) (j := 4) rfl rfl ?_
          refine z_iload (pc := 160) (i := 5) (j := 5) rfl rfl ?_
          refine z_mmin (pc := 162) rfl ml_SW_193 (by omega) (Nat.le_of_ble_eq_true rfl) ?_
          refine z_istore (pc := 165) (i := 4) (ls' := [(0, .ref 0), (1, .int (nI j)), (2, .int (nI n)), (3, .int z), (4, .int (if q.2 < q.1 then q.2 else q.1)), (5, .int q.2), (6, .int (bitI j)), (7, .int ah), (8, .int pr), (9, .int (nI t)), (10, .int (nI (cyv F (zI w 21 8 + nI t))))]) rfl (by decide) rfl ?_
          refine z_ldc (pc := 167) (v := 1000000) rfl kl_SW_180 ?_
          refine z_istore (pc := 169) (i := 5) (ls' := [(0, .ref 0), (1, .int (nI j)), (2, .int (nI n)), (3, .int z), (4, .int (if q.2 < q.1 then q.2 else q.1)), (5, .int 1000000), (6, .int (bitI j)), (7, .int ah), (8, .int pr), (9, .int (nI t)), (10, .int (nI (cyv F (zI w 21 8 + nI t))))]) rfl (by decide) rfl ?_
          refine z_iload (pc := 171) (i := 10) (j := 10) rfl rfl ?_
          refine z_istore (pc := 173) (i := 7) (ls' := [(0, .ref 0), (1, .int (nI j)), (2, .int (nI n)), (3, .int z), (4, .int (if q.2 < q.1 then q.2 else q.1)), (5, .int 1000000), (6, .int (bitI j)), (7, .int (nI (cyv F (zI w 21 8 + nI t)))), (8, .int pr), (9, .int (nI t)), (10, .int (nI (cyv F (zI w 21 8 + nI t))))]) rfl (by decide) rfl ?_
          refine z_aload_n (pc := 175) (i := 0) (j := 0) rfl rfl rfl ?_
          refine z_getR (pc := 176) (x := 16) rfl fl_SW_24 hx.1 rfl hx.2.2.2.1 ?_
          refine z_getR (pc := 179) (x := 17) rfl fl_SW_133 hx.2.2.2.2.2.2.2.2.2.2.2.1.1 rfl hx.2.2.2.2.2.2.2.2.2.2.2.1.2.2.2.2.2.1 ?_
          refine z_iload_n (pc := 182) (i := 1) (j := 1) rfl rfl rfl ?_
          refine z_iald (pc := 183) rfl hx.2.2.2.2.2.2.2.2.2.2.2.1.2.1 (vp_in_nI (n := j) (N := 8) hj8 (by decide)) ?_
          refine z_eqi (y := cset (zI w) s C R (cyv F (zI w 21 8 + nI t)) G (zI w 21 8 + nI t) ((zI w 21 10 ||| bitI j) &&& (zI w 21 11 ^^^ (-1))) H j) (by rw [nI_clamp (by omega)]; exact hm1 j hj8) ?_
          refine z_if_eq (pc := 184) (tgt := 191) rfl (by decide) (fun h184 => ?_) (fun h184 => ?_)
          · refine z_iconst (pc := 191) (v := 0) rfl (by decide) ?_
            refine z_istore (pc := 192) (i := 11) (ls' := [(0, .ref 0), (1, .int (nI j)), (2, .int (nI n)), (3, .int z), (4, .int (if q.2 < q.1 then q.2 else q.1)), (5, .int 1000000), (6, .int (bitI j)), (7, .int (nI (cyv F (zI w 21 8 + nI t)))), (8, .int pr), (9, .int (nI t)), (10, .int (nI (cyv F (zI w 21 8 + nI t)))), (11, .int 0)]) rfl (by decide) rfl ?_
            refine z_iload (pc := 194) (i := 11) (j := 11) rfl rfl ?_
            refine z_if_eq (pc := 196) (tgt := 204) rfl (by decide) (fun h196 => ?_) (fun h196 => ?_)
            · refine z_iload (pc := 204) (i := 4) (j := 4) rfl rfl ?_
              refine z_iload (pc := 206) (i := 8) (j := 8) rfl rfl ?_
              refine z_iadd (pc := 208) rfl ?_
              refine z_istore (pc := 209) (i := 12) (ls' := [(0, .ref 0), (1, .int (nI j)), (2, .int (nI n)), (3, .int z), (4, .int (if q.2 < q.1 then q.2 else q.1)), (5, .int 1000000), (6, .int (bitI j)), (7, .int (nI (cyv F (zI w 21 8 + nI t)))), (8, .int pr), (9, .int (nI t)), (10, .int (nI (cyv F (zI w 21 8 + nI t)))), (11, .int 0), (12, .int ((if q.2 < q.1 then q.2 else q.1) + pr))]) rfl (by decide) rfl ?_
              refine z_iload (pc := 211) (i := 11) (j := 11) rfl rfl ?_
              refine z_if_eq (pc := 213) (tgt := 226) rfl (by decide) (fun h213 => ?_) (fun h213 => ?_)
              · refine z_iload (pc := 226) (i := 5) (j := 5) rfl rfl ?_
                refine z_iload (pc := 228) (i := 8) (j := 8) rfl rfl ?_
                refine z_iadd (pc := 230) rfl ?_
                refine z_istore (pc := 231) (i := 13) (ls' := [(0, .ref 0), (1, .int (nI j)), (2, .int (nI n)), (3, .int z), (4, .int (if q.2 < q.1 then q.2 else q.1)), (5, .int 1000000), (6, .int (bitI j)), (7, .int (nI (cyv F (zI w 21 8 + nI t)))), (8, .int pr), (9, .int (nI t)), (10, .int (nI (cyv F (zI w 21 8 + nI t)))), (11, .int 0), (12, .int ((if q.2 < q.1 then q.2 else q.1) + pr)), (13, .int (1000000 + pr))]) rfl (by decide) rfl ?_
                refine z_iload (pc := 233) (i := 4) (j := 4) rfl rfl ?_
                refine z_aload_n (pc := 235) (i := 0) (j := 0) rfl rfl rfl ?_
                refine z_getR (pc := 236) (x := s) rfl fl_SW_48 hx.1 rfl hx.2.2.2.2.2.2.2.1 ?_
                refine z_getI (pc := 239) rfl fl_SW_184 hx.2.2.2.2.2.2.2.2.2.2.2.2.2.2.2.1.1 rfl ?_
                refine z_eqi (y := zI w s 9) (congrFun g0 9) ?_
                refine z_iadd (pc := 242) rfl ?_
                refine z_iload (pc := 243) (i := 12) (j := 12) rfl rfl ?_
                refine z_mmin (pc := 245) rfl ml_SW_193 (by omega) (Nat.le_of_ble_eq_true rfl) ?_
                refine z_istore (pc := 248) (i := 4) (ls' := [(0, .ref 0), (1, .int (nI j)), (2, .int (nI n)), (3, .int z), (4, .int (if (if q.2 < q.1 then q.2 else q.1) + pr < (if q.2 < q.1 then q.2 else q.1) + (zI w s 9) then (if q.2 < q.1 then q.2 else q.1) + pr else (if q.2 < q.1 then q.2 else q.1) + (zI w s 9))), (5, .int 1000000), (6, .int (bitI j)), (7, .int (nI (cyv F (zI w 21 8 + nI t)))), (8, .int pr), (9, .int (nI t)), (10, .int (nI (cyv F (zI w 21 8 + nI t)))), (11, .int 0), (12, .int ((if q.2 < q.1 then q.2 else q.1) + pr)), (13, .int (1000000 + pr))]) rfl (by decide) rfl ?_
                refine z_iload (pc := 250) (i := 5) (j := 5) rfl rfl ?_
                refine z_aload_n (pc := 252) (i := 0) (j := 0) rfl rfl rfl ?_
                refine z_getR (pc := 253) (x := s) rfl fl_SW_48 hx.1 rfl hx.2.2.2.2.2.2.2.1 ?_
                refine z_getI (pc := 256) rfl fl_SW_184 hx.2.2.2.2.2.2.2.2.2.2.2.2.2.2.2.1.1 rfl ?_
                refine z_eqi (y := zI w s 9) (congrFun g0 9) ?_
                refine z_iadd (pc := 259) rfl ?_
                refine z_iload (pc := 260) (i := 13) (j := 13) rfl rfl ?_
                refine z_mmin (pc := 262) rfl ml_SW_193 (by omega) (Nat.le_of_ble_eq_true rfl) ?_
                refine z_istore (pc := 265) (i := 5) (ls' := [(0, .ref 0), (1, .int (nI j)), (2, .int (nI n)), (3, .int z), (4, .int (if (if q.2 < q.1 then q.2 else q.1) + pr < (if q.2 < q.1 then q.2 else q.1) + (zI w s 9) then (if q.2 < q.1 then q.2 else q.1) + pr else (if q.2 < q.1 then q.2 else q.1) + (zI w s 9))), (5, .int (if 1000000 + pr < 1000000 + (zI w s 9) then 1000000 + pr else 1000000 + (zI w s 9))), (6, .int (bitI j)), (7, .int (nI (cyv F (zI w 21 8 + nI t)))), (8, .int pr), (9, .int (nI t)), (10, .int (nI (cyv F (zI w 21 8 + nI t)))), (11, .int 0), (12, .int ((if q.2 < q.1 then q.2 else q.1) + pr)), (13, .int (1000000 + pr))]) rfl (by decide) rfl ?_
                refine z_iinc (pc := 267) (i := 9) (j := 9) (v := nI (t + 1)) (ls' := [(0, .ref 0), (1, .int (nI j)), (2, .int (nI n)), (3, .int z), (4, .int (if (if q.2 < q.1 then q.2 else q.1) + pr < (if q.2 < q.1 then q.2 else q.1) + (zI w s 9) then (if q.2 < q.1 then q.2 else q.1) + pr else (if q.2 < q.1 then q.2 else q.1) + (zI w s 9))), (5, .int (if 1000000 + pr < 1000000 + (zI w s 9) then 1000000 + pr else 1000000 + (zI w s 9))), (6, .int (bitI j)), (7, .int (nI (cyv F (zI w 21 8 + nI t)))), (8, .int pr), (9, .int (nI (t + 1))), (10, .int (nI (cyv F (zI w 21 8 + nI t)))), (11, .int 0), (12, .int ((if q.2 < q.1 then q.2 else q.1) + pr)), (13, .int (1000000 + pr))]) rfl rfl (nI_1 t) (by decide) rfl ?_
                refine z_goto (pc := 270) (tgt := 114) rfl (by decide) ?_
                have hT : ¬ turnV ah (nI (cyv F (zI w 21 8 + nI t))) = 0 := h155
                have e0 : frcS (cset (zI w) s C R (cyv F (zI w 21 8 + nI t)) G (zI w 21 8 + nI t) ((zI w 21 10 ||| bitI j) &&& (zI w 21 11 ^^^ (-1))) H j) ah pr (zI w s 9) (cyv F (zI w 21 8 + nI t)) q = (if (if q.2 < q.1 then q.2 else q.1) + pr < (if q.2 < q.1 then q.2 else q.1) + (zI w s 9) then (if q.2 < q.1 then q.2 else q.1) + pr else (if q.2 < q.1 then q.2 else q.1) + (zI w s 9), if 1000000 + pr < 1000000 + (zI w s 9) then 1000000 + pr else 1000000 + (zI w s 9)) := by
                  unfold frcS mnI
                  simp only [hT, h184, if_true, if_false, ite_true, ite_false]
                have kk := ih (t + 1) (nI (cyv F (zI w 21 8 + nI t))) (frcS (cset (zI w) s C R (cyv F (zI w 21 8 + nI t)) G (zI w 21 8 + nI t) ((zI w 21 10 ||| bitI j) &&& (zI w 21 11 ^^^ (-1))) H j) ah pr (zI w s 9) (cyv F (zI w 21 8 + nI t)) q) f1 (by omega) hf1
                rw [e0] at kk
                refine z_mono (fun r w9 h9 => ?_) (z_drop ?_ kk)
                · obtain ⟨f9, a1, a2, a3⟩ := h9
                  refine ⟨f9, a1, a2, ?_⟩
                  rw [show frcT (zI w) s C R H F G pr j (m + 1) t ah q = frcT (zI w) s C R H F G pr j m (t + 1) (nI (cyv F (zI w 21 8 + nI t))) (frcS (cset (zI w) s C R (cyv F (zI w 21 8 + nI t)) G (zI w 21 8 + nI t) ((zI w 21 10 ||| bitI j) &&& (zI w 21 11 ^^^ (-1))) H j) ah pr (zI w s 9) (cyv F (zI w 21 8 + nI t)) q) from rfl, e0]
                  exact a3
                · simp
              · exact absurd rfl h213
            · exact absurd rfl h196
          · refine z_iconst (pc := 187) (v := 1) rfl (by decide) ?_
            refine z_goto (pc := 188) (tgt := 192) rfl (by decide) ?_
            refine z_istore (pc := 192) (i := 11) (ls' := [(0, .ref 0), (1, .int (nI j)), (2, .int (nI n)), (3, .int z), (4, .int (if q.2 < q.1 then q.2 else q.1)), (5, .int 1000000), (6, .int (bitI j)), (7, .int (nI (cyv F (zI w 21 8 + nI t)))), (8, .int pr), (9, .int (nI t)), (10, .int (nI (cyv F (zI w 21 8 + nI t)))), (11, .int 1)]) rfl (by decide) rfl ?_
            refine z_iload (pc := 194) (i := 11) (j := 11) rfl rfl ?_
            refine z_if_eq (pc := 196) (tgt := 204) rfl (by decide) (fun h196 => ?_) (fun h196 => ?_)
            · exact absurd h196 (by decide)
            · refine z_ldc (pc := 199) (v := 1000000) rfl kl_SW_180 ?_
              refine z_goto (pc := 201) (tgt := 209) rfl (by decide) ?_
              refine z_istore (pc := 209) (i := 12) (ls' := [(0, .ref 0), (1, .int (nI j)), (2, .int (nI n)), (3, .int z), (4, .int (if q.2 < q.1 then q.2 else q.1)), (5, .int 1000000), (6, .int (bitI j)), (7, .int (nI (cyv F (zI w 21 8 + nI t)))), (8, .int pr), (9, .int (nI t)), (10, .int (nI (cyv F (zI w 21 8 + nI t)))), (11, .int 1), (12, .int 1000000)]) rfl (by decide) rfl ?_
              refine z_iload (pc := 211) (i := 11) (j := 11) rfl rfl ?_
              refine z_if_eq (pc := 213) (tgt := 226) rfl (by decide) (fun h213 => ?_) (fun h213 => ?_)
              · exact absurd h213 (by decide)
              · refine z_iload (pc := 216) (i := 4) (j := 4) rfl rfl ?_
                refine z_iload (pc := 218) (i := 5) (j := 5) rfl rfl ?_
                refine z_mmin (pc := 220) rfl ml_SW_193 (by omega) (Nat.le_of_ble_eq_true rfl) ?_
                refine z_goto (pc := 223) (tgt := 228) rfl (by decide) ?_
                refine z_iload (pc := 228) (i := 8) (j := 8) rfl rfl ?_
                refine z_iadd (pc := 230) rfl ?_
                refine z_istore (pc := 231) (i := 13) (ls' := [(0, .ref 0), (1, .int (nI j)), (2, .int (nI n)), (3, .int z), (4, .int (if q.2 < q.1 then q.2 else q.1)), (5, .int 1000000), (6, .int (bitI j)), (7, .int (nI (cyv F (zI w 21 8 + nI t)))), (8, .int pr), (9, .int (nI t)), (10, .int (nI (cyv F (zI w 21 8 + nI t)))), (11, .int 1), (12, .int 1000000), (13, .int ((if 1000000 < if q.2 < q.1 then q.2 else q.1 then 1000000 else if q.2 < q.1 then q.2 else q.1) + pr))]) rfl (by decide) rfl ?_
                refine z_iload (pc := 233) (i := 4) (j := 4) rfl rfl ?_
                refine z_aload_n (pc := 235) (i := 0) (j := 0) rfl rfl rfl ?_
                refine z_getR (pc := 236) (x := s) rfl fl_SW_48 hx.1 rfl hx.2.2.2.2.2.2.2.1 ?_
                refine z_getI (pc := 239) rfl fl_SW_184 hx.2.2.2.2.2.2.2.2.2.2.2.2.2.2.2.1.1 rfl ?_
                refine z_eqi (y := zI w s 9) (congrFun g0 9) ?_
                refine z_iadd (pc := 242) rfl ?_
                refine z_iload (pc := 243) (i := 12) (j := 12) rfl rfl ?_
                refine z_mmin (pc := 245) rfl ml_SW_193 (by omega) (Nat.le_of_ble_eq_true rfl) ?_
                refine z_istore (pc := 248) (i := 4) (ls' := [(0, .ref 0), (1, .int (nI j)), (2, .int (nI n)), (3, .int z), (4, .int (if 1000000 < (if q.2 < q.1 then q.2 else q.1) + (zI w s 9) then 1000000 else (if q.2 < q.1 then q.2 else q.1) + (zI w s 9))), (5, .int 1000000), (6, .int (bitI j)), (7, .int (nI (cyv F (zI w 21 8 + nI t)))), (8, .int pr), (9, .int (nI t)), (10, .int (nI (cyv F (zI w 21 8 + nI t)))), (11, .int 1), (12, .int 1000000), (13, .int ((if 1000000 < if q.2 < q.1 then q.2 else q.1 then 1000000 else if q.2 < q.1 then q.2 else q.1) + pr))]) rfl (by decide) rfl ?_
                refine z_iload (pc := 250) (i := 5) (j := 5) rfl rfl ?_
                refine z_aload_n (pc := 252) (i := 0) (j := 0) rfl rfl rfl ?_
                refine z_getR (pc := 253) (x := s) rfl fl_SW_48 hx.1 rfl hx.2.2.2.2.2.2.2.1 ?_
                refine z_getI (pc := 256) rfl fl_SW_184 hx.2.2.2.2.2.2.2.2.2.2.2.2.2.2.2.1.1 rfl ?_
                refine z_eqi (y := zI w s 9) (congrFun g0 9) ?_
                refine z_iadd (pc := 259) rfl ?_
                refine z_iload (pc := 260) (i := 13) (j := 13) rfl rfl ?_
                refine z_mmin (pc := 262) rfl ml_SW_193 (by omega) (Nat.le_of_ble_eq_true rfl) ?_
                refine z_istore (pc := 265) (i := 5) (ls' := [(0, .ref 0), (1, .int (nI j)), (2, .int (nI n)), (3, .int z), (4, .int (if 1000000 < (if q.2 < q.1 then q.2 else q.1) + (zI w s 9) then 1000000 else (if q.2 < q.1 then q.2 else q.1) + (zI w s 9))), (5, .int (if (if 1000000 < if q.2 < q.1 then q.2 else q.1 then 1000000 else if q.2 < q.1 then q.2 else q.1) + pr < 1000000 + (zI w s 9) then (if 1000000 < if q.2 < q.1 then q.2 else q.1 then 1000000 else if q.2 < q.1 then q.2 else q.1) + pr else 1000000 + (zI w s 9))), (6, .int (bitI j)), (7, .int (nI (cyv F (zI w 21 8 + nI t)))), (8, .int pr), (9, .int (nI t)), (10, .int (nI (cyv F (zI w 21 8 + nI t)))), (11, .int 1), (12, .int 1000000), (13, .int ((if 1000000 < if q.2 < q.1 then q.2 else q.1 then 1000000 else if q.2 < q.1 then q.2 else q.1) + pr))]) rfl (by decide) rfl ?_
                refine z_iinc (pc := 267) (i := 9) (j := 9) (v := nI (t + 1)) (ls' := [(0, .ref 0), (1, .int (nI j)), (2, .int (nI n)), (3, .int z), (4, .int (if 1000000 < (if q.2 < q.1 then q.2 else q.1) + (zI w s 9) then 1000000 else (if q.2 < q.1 then q.2 else q.1) + (zI w s 9))), (5, .int (if (if 1000000 < if q.2 < q.1 then q.2 else q.1 then 1000000 else if q.2 < q.1 then q.2 else q.1) + pr < 1000000 + (zI w s 9) then (if 1000000 < if q.2 < q.1 then q.2 else q.1 then 1000000 else if q.2 < q.1 then q.2 else q.1) + pr else 1000000 + (zI w s 9))), (6, .int (bitI j)), (7, .int (nI (cyv F (zI w 21 8 + nI t)))), (8, .int pr), (9, .int (nI (t + 1))), (10, .int (nI (cyv F (zI w 21 8 + nI t)))), (11, .int 1), (12, .int 1000000), (13, .int ((if 1000000 < if q.2 < q.1 then q.2 else q.1 then 1000000 else if q.2 < q.1 then q.2 else q.1) + pr))]) rfl rfl (nI_1 t) (by decide) rfl ?_
                refine z_goto (pc := 270) (tgt := 114) rfl (by decide) ?_
                have hT : ¬ turnV ah (nI (cyv F (zI w 21 8 + nI t))) = 0 := h155
                have e0 : frcS (cset (zI w) s C R (cyv F (zI w 21 8 + nI t)) G (zI w 21 8 + nI t) ((zI w 21 10 ||| bitI j) &&& (zI w 21 11 ^^^ (-1))) H j) ah pr (zI w s 9) (cyv F (zI w 21 8 + nI t)) q = (if 1000000 < (if q.2 < q.1 then q.2 else q.1) + (zI w s 9) then 1000000 else (if q.2 < q.1 then q.2 else q.1) + (zI w s 9), if (if 1000000 < if q.2 < q.1 then q.2 else q.1 then 1000000 else if q.2 < q.1 then q.2 else q.1) + pr < 1000000 + (zI w s 9) then (if 1000000 < if q.2 < q.1 then q.2 else q.1 then 1000000 else if q.2 < q.1 then q.2 else q.1) + pr else 1000000 + (zI w s 9)) := by
                  unfold frcS mnI
                  simp only [hT, h184, if_true, if_false, ite_true, ite_false]
                have kk := ih (t + 1) (nI (cyv F (zI w 21 8 + nI t))) (frcS (cset (zI w) s C R (cyv F (zI w 21 8 + nI t)) G (zI w 21 8 + nI t) ((zI w 21 10 ||| bitI j) &&& (zI w 21 11 ^^^ (-1))) H j) ah pr (zI w s 9) (cyv F (zI w 21 8 + nI t)) q) f1 (by omega) hf1
                rw [e0] at kk
                refine z_mono (fun r w9 h9 => ?_) (z_drop ?_ kk)
                · obtain ⟨f9, a1, a2, a3⟩ := h9
                  refine ⟨f9, a1, a2, ?_⟩
                  rw [show frcT (zI w) s C R H F G pr j (m + 1) t ah q = frcT (zI w) s C R H F G pr j m (t + 1) (nI (cyv F (zI w 21 8 + nI t))) (frcS (cset (zI w) s C R (cyv F (zI w 21 8 + nI t)) G (zI w 21 8 + nI t) ((zI w 21 10 ||| bitI j) &&& (zI w 21 11 ^^^ (-1))) H j) ah pr (zI w s 9) (cyv F (zI w 21 8 + nI t)) q) from rfl, e0]
                  exact a3
                · simp
def freeV (f : Nat → Nat → Int32) (s C R H : Nat) (F G : Int32 → Int32 → Int32 → Int32) (b x : Int32) : Int32 := if hOK H b = true then (if x < 1 then -1 else if x ≤ 24 then (if 1000000 ≤ (frcT f s C R H F G (if (f 21 11 >>> (nI b.toNatClampNeg &&& 31)) &&& 1 = 0 then priceV (f (s + 4) b.toNatClampNeg) else f s 9) b.toNatClampNeg x.toNatClampNeg 0 (f 21 9) (if f 22 b.toNatClampNeg = 0 then 0 else 1000000, if f 22 b.toNatClampNeg = 0 then 1000000 else 0)).1 then -1 else (frcT f s C R H F G (if (f 21 11 >>> (nI b.toNatClampNeg &&& 31)) &&& 1 = 0 then priceV (f (s + 4) b.toNatClampNeg) else f s 9) b.toNatClampNeg x.toNatClampNeg 0 (f 21 9) (if f 22 b.toNatClampNeg = 0 then 0 else 1000000, if f 22 b.toNatClampNeg = 0 then 1000000 else 0)).1) else -1) else -1
set_option maxRecDepth 100000 in
set_option maxHeartbeats 4000000 in
theorem c_SW_free {w : zW} {s C R H : Nat} {F G : Int32 → Int32 → Int32 → Int32} (hx : zX w s) (hi : zXi (zI w) s C R H F G) (hs : stIn (zI w) s C R H) (b x : Int32) (d : Nat) (hd : 5 ≤ d) : zS 0 0 d m_SW_free (fun rv w1 => ∃ f, w1 = zuI w f ∧ cFr s w f ∧ rv = some (.int (freeV (zI w) s C R H F G b x))) 0 [(0, .ref 0), (1, .int b), (2, .int x)] [] w := by
  refine z_aload_n (pc := 0) (i := 0) (j := 0) rfl rfl rfl ?_
  refine z_iload_n (pc := 1) (i := 1) (j := 1) rfl rfl rfl ?_
  refine z_cV (pc := 2) (mc1 := 0) (ms1 := 0) (mc2 := 0) (ms2 := 0) (as := [.int b]) (rest := []) (o := 0) rfl rfl hx.1 ok_SW_isHouse rfl rfl cl_SW_72 (by omega) (Nat.le_of_ble_eq_true rfl) (Nat.le_of_ble_eq_true rfl) (Nat.le_refl _) (Nat.le_refl _) (c_SW_isHouse (w := w) hx hi.2.2.1 hi.2.2.2.2.2.1 b 0) (fun r1 w1 hp => ?_) rfl rfl
  obtain ⟨rfl, hw1⟩ := hp
  rw [hw1]
  refine ⟨⟨Nat.le_refl _, Or.inl rfl⟩, ?_⟩
  refine z_if_eq (pc := 5) (tgt := 19) rfl (by decide) (fun h5 => ?_) (fun h5 => ?_)
  · refine z_iconst (pc := 19) (v := (-1)) rfl (by decide) ?_
    exact z_iret (pc := 20) rfl rfl ⟨zI w, rfl, cFr_r s w, by unfold freeV; rw [if_neg (ite_eq h5)]⟩
  · refine z_iload_n (pc := 8) (i := 2) (j := 2) rfl rfl rfl ?_
    refine z_iconst (pc := 9) (v := 1) rfl (by decide) ?_
    refine z_icmp_lt (pc := 10) (tgt := 19) rfl (by decide) (fun h10 => ?_) (fun h10 => ?_)
    · refine z_iconst (pc := 19) (v := (-1)) rfl (by decide) ?_
      exact z_iret (pc := 20) rfl rfl ⟨zI w, rfl, cFr_r s w, by unfold freeV; rw [if_pos (ite_ne h5), if_pos h10]⟩
    · refine z_iload_n (pc := 13) (i := 2) (j := 2) rfl rfl rfl ?_
      refine z_bipush (pc := 14) (v := 24) rfl (by decide) ?_
      refine z_icmp_le (pc := 16) (tgt := 21) rfl (by decide) (fun h16 => ?_) (fun h16 => ?_)
      · have hO := ite_ne h5
        obtain ⟨j, hj, rfl⟩ := hOK_of hi.2.2.2.2.2.1 (ite_ne h5)
        have hj8 : j < 8 := Nat.lt_of_lt_of_le hj hi.2.2.2.2.2.1
        have h10b := h10
        have h16b := h16
        obtain ⟨n, hn24, rfl⟩ := nI_of2 (x := x) (M := 24) (n := 24) rfl (fun z => h10 (Int32.lt_trans z (by decide))) h16
        refine z_aload_n (pc := 21) (i := 0) (j := 0) rfl rfl rfl ?_
        refine z_getR (pc := 22) (x := 21) rfl fl_SW_31 hx.1 rfl hx.2.2.2.2.1 ?_
        refine z_getR (pc := 25) (x := 22) rfl fl_SW_94 hx.2.2.2.2.2.2.2.2.2.2.2.2.1.1 rfl hx.2.2.2.2.2.2.2.2.2.2.2.2.1.2.2.2.2.2.2.2.2.2.1 ?_
        refine z_iload_n (pc := 28) (i := 1) (j := 1) rfl rfl rfl ?_
        refine z_iald (pc := 29) rfl hx.2.2.2.2.2.2.2.2.2.2.2.2.1.2.1 (vp_in_nI (n := j) (N := 8) hj8 (by decide)) ?_
        refine z_eqi (y := zI w 22 j) (by rw [nI_clamp (by omega)]) ?_
        refine z_if_eq (pc := 30) (tgt := 37) rfl (by decide) (fun h30 => ?_) (fun h30 => ?_)
        · refine z_iconst (pc := 37) (v := 0) rfl (by decide) ?_
          refine z_istore_n (pc := 38) (i := 3) (ls' := [(0, .ref 0), (1, .int (nI j)), (2, .int (nI n)), (3, .int 0)]) rfl rfl (by decide) rfl ?_
          refine z_iload_n (pc := 39) (i := 3) (j := 3) rfl rfl rfl ?_
          refine z_if_eq (pc := 40) (tgt := 48) rfl (by decide) (fun h40 => ?_) (fun h40 => ?_)
          · refine z_iconst (pc := 48) (v := 0) rfl (by decide) ?_
            refine z_istore (pc := 49) (i := 4) (ls' := [(0, .ref 0), (1, .int (nI j)), (2, .int (nI n)), (3, .int 0), (4, .int 0)]) rfl (by decide) rfl ?_
            refine z_iload_n (pc := 51) (i := 3) (j := 3) rfl rfl rfl ?_
            refine z_if_eq (pc := 52) (tgt := 59) rfl (by decide) (fun h52 => ?_) (fun h52 => ?_)
            · refine z_ldc (pc := 59) (v := 1000000) rfl kl_SW_180 ?_
              refine z_istore (pc := 61) (i := 5) (ls' := [(0, .ref 0), (1, .int (nI j)), (2, .int (nI n)), (3, .int 0), (4, .int 0), (5, .int 1000000)]) rfl (by decide) rfl ?_
              refine z_iconst (pc := 63) (v := 1) rfl (by decide) ?_
              refine z_iload_n (pc := 64) (i := 1) (j := 1) rfl rfl rfl ?_
              refine z_ishl (pc := 65) rfl ?_
              refine z_istore (pc := 66) (i := 6) (ls' := [(0, .ref 0), (1, .int (nI j)), (2, .int (nI n)), (3, .int 0), (4, .int 0), (5, .int 1000000), (6, .int (1 <<< ((nI j) &&& 31)))]) rfl (by decide) rfl ?_
              refine z_aload_n (pc := 68) (i := 0) (j := 0) rfl rfl rfl ?_
              refine z_getR (pc := 69) (x := 21) rfl fl_SW_31 hx.1 rfl hx.2.2.2.2.1 ?_
              refine z_getI (pc := 72) rfl fl_SW_181 hx.2.2.2.2.2.2.2.2.2.2.2.2.1.1 rfl ?_
              refine z_istore (pc := 75) (i := 7) (ls' := [(0, .ref 0), (1, .int (nI j)), (2, .int (nI n)), (3, .int 0), (4, .int 0), (5, .int 1000000), (6, .int (1 <<< ((nI j) &&& 31))), (7, .int (zI w 21 9))]) rfl (by decide) rfl ?_
              refine z_aload_n (pc := 77) (i := 0) (j := 0) rfl rfl rfl ?_
              refine z_getR (pc := 78) (x := 21) rfl fl_SW_31 hx.1 rfl hx.2.2.2.2.1 ?_
              refine z_getI (pc := 81) rfl fl_SW_91 hx.2.2.2.2.2.2.2.2.2.2.2.2.1.1 rfl ?_
              refine z_iload_n (pc := 84) (i := 1) (j := 1) rfl rfl rfl ?_
              refine z_cS (pc := 85) (mc1 := 0) (ms1 := 0) (mc2 := 0) (ms2 := 0) (as := [.int (zI w 21 11), .int (nI j)]) (rest := []) ok_SW_hasBit rfl rfl cl_SW_100 (by omega) (Nat.le_of_ble_eq_true rfl) (Nat.le_of_ble_eq_true rfl) (Nat.le_refl _) (Nat.le_refl _) (c_SW_hasBit (zI w 21 11) (nI j) 0 _) (fun r1 w1 hp => ?_) rfl rfl
              obtain ⟨rfl, hw1⟩ := hp
              rw [hw1]
              refine ⟨⟨Nat.le_refl _, Or.inl rfl⟩, ?_⟩
              refine z_if_eq (pc := 88) (tgt := 101) rfl (by decide) (fun h88 => ?_) (fun h88 => ?_)
              · have hz : (zI w 21 11 >>> (nI j &&& 31)) &&& 1 = 0 := Decidable.byContradiction (fun z => by rw [if_neg z] at h88; exact absurd h88 (by decide))
                refine z_aload_n (pc := 101) (i := 0) (j := 0) rfl rfl rfl ?_
                refine z_getR (pc := 102) (x := s) rfl fl_SW_48 hx.1 rfl hx.2.2.2.2.2.2.2.1 ?_
                refine z_iload_n (pc := 105) (i := 1) (j := 1) rfl rfl rfl ?_
                refine z_cV (pc := 106) (mc1 := 0) (ms1 := 0) (mc2 := 0) (ms2 := 0) (as := [.int (nI j)]) (rest := []) (o := s) rfl rfl hx.2.2.2.2.2.2.2.2.2.2.2.2.2.2.2.1.1 ok_Street_price rfl rfl cl_SW_187 (by omega) (Nat.le_of_ble_eq_true rfl) (Nat.le_of_ble_eq_true rfl) (Nat.le_refl _) (Nat.le_refl _) (c_Street_price (w := w) (hx.2.2.2.2.2.2.2.2.2.2.2.2.2.2.2.1) (i := j) hj8 0) (fun r1 w1 hp => ?_) rfl rfl
                obtain ⟨rfl, hw1⟩ := hp
                rw [hw1, nI_clamp (n := j) (by omega)]
                refine ⟨⟨Nat.le_refl _, Or.inl rfl⟩, ?_⟩
                refine z_istore (pc := 109) (i := 8) (ls' := [(0, .ref 0), (1, .int (nI j)), (2, .int (nI n)), (3, .int 0), (4, .int 0), (5, .int 1000000), (6, .int (1 <<< ((nI j) &&& 31))), (7, .int (zI w 21 9)), (8, .int (priceV (zI w (s + 4) j)))]) rfl (by decide) rfl ?_
                refine z_iconst (pc := 111) (v := 0) rfl (by decide) ?_
                refine z_istore (pc := 112) (i := 9) (ls' := [(0, .ref 0), (1, .int (nI j)), (2, .int (nI n)), (3, .int 0), (4, .int 0), (5, .int 1000000), (6, .int (1 <<< ((nI j) &&& 31))), (7, .int (zI w 21 9)), (8, .int (priceV (zI w (s + 4) j))), (9, .int 0)]) rfl (by decide) rfl ?_
                refine z_mono (fun r w9 h9 => ?_) (l_SW_free hx hi hs hj8 hn24 0 (priceV (zI w (s + 4) j)) d hd n 0 (zI w 21 9) (0, 1000000) (zI w) (by omega) (cFr_r s w))
                obtain ⟨f9, a1, a2, a3⟩ := h9
                refine ⟨f9, a1, a2, ?_⟩
                unfold freeV
                rw [if_pos hO, if_neg h10b, if_pos h16b, nI_clamp (n := j) (by omega), nI_clamp (n := n) (by omega), if_pos h30, if_pos h30, if_pos hz]
                exact a3
              · have hz : ¬ (zI w 21 11 >>> (nI j &&& 31)) &&& 1 = 0 := fun z => h88 (if_pos z)
                refine z_aload_n (pc := 91) (i := 0) (j := 0) rfl rfl rfl ?_
                refine z_getR (pc := 92) (x := s) rfl fl_SW_48 hx.1 rfl hx.2.2.2.2.2.2.2.1 ?_
                refine z_getI (pc := 95) rfl fl_SW_184 hx.2.2.2.2.2.2.2.2.2.2.2.2.2.2.2.1.1 rfl ?_
                refine z_goto (pc := 98) (tgt := 109) rfl (by decide) ?_
                refine z_istore (pc := 109) (i := 8) (ls' := [(0, .ref 0), (1, .int (nI j)), (2, .int (nI n)), (3, .int 0), (4, .int 0), (5, .int 1000000), (6, .int (1 <<< ((nI j) &&& 31))), (7, .int (zI w 21 9)), (8, .int (zI w s 9))]) rfl (by decide) rfl ?_
                refine z_iconst (pc := 111) (v := 0) rfl (by decide) ?_
                refine z_istore (pc := 112) (i := 9) (ls' := [(0, .ref 0), (1, .int (nI j)), (2, .int (nI n)), (3, .int 0), (4, .int 0), (5, .int 1000000), (6, .int (1 <<< ((nI j) &&& 31))), (7, .int (zI w 21 9)), (8, .int (zI w s 9)), (9, .int 0)]) rfl (by decide) rfl ?_
                refine z_mono (fun r w9 h9 => ?_) (l_SW_free hx hi hs hj8 hn24 0 (zI w s 9) d hd n 0 (zI w 21 9) (0, 1000000) (zI w) (by omega) (cFr_r s w))
                obtain ⟨f9, a1, a2, a3⟩ := h9
                refine ⟨f9, a1, a2, ?_⟩
                unfold freeV
                rw [if_pos hO, if_neg h10b, if_pos h16b, nI_clamp (n := j) (by omega), nI_clamp (n := n) (by omega), if_pos h30, if_pos h30, if_neg hz]
                exact a3
            · exact absurd rfl h52
          · exact absurd rfl h40
        · refine z_iconst (pc := 33) (v := 1) rfl (by decide) ?_
          refine z_goto (pc := 34) (tgt := 38) rfl (by decide) ?_
          refine z_istore_n (pc := 38) (i := 3) (ls' := [(0, .ref 0), (1, .int (nI j)), (2, .int (nI n)), (3, .int 1)]) rfl rfl (by decide) rfl ?_
          refine z_iload_n (pc := 39) (i := 3) (j := 3) rfl rfl rfl ?_
          refine z_if_eq (pc := 40) (tgt := 48) rfl (by decide) (fun h40 => ?_) (fun h40 => ?_)
          · exact absurd h40 (by decide)
          · refine z_ldc (pc := 43) (v := 1000000) rfl kl_SW_180 ?_
            refine z_goto (pc := 45) (tgt := 49) rfl (by decide) ?_
            refine z_istore (pc := 49) (i := 4) (ls' := [(0, .ref 0), (1, .int (nI j)), (2, .int (nI n)), (3, .int 1), (4, .int 1000000)]) rfl (by decide) rfl ?_
            refine z_iload_n (pc := 51) (i := 3) (j := 3) rfl rfl rfl ?_
            refine z_if_eq (pc := 52) (tgt := 59) rfl (by decide) (fun h52 => ?_) (fun h52 => ?_)
            · exact absurd h52 (by decide)
            · refine z_iconst (pc := 55) (v := 0) rfl (by decide) ?_
              refine z_goto (pc := 56) (tgt := 61) rfl (by decide) ?_
              refine z_istore (pc := 61) (i := 5) (ls' := [(0, .ref 0), (1, .int (nI j)), (2, .int (nI n)), (3, .int 1), (4, .int 1000000), (5, .int 0)]) rfl (by decide) rfl ?_
              refine z_iconst (pc := 63) (v := 1) rfl (by decide) ?_
              refine z_iload_n (pc := 64) (i := 1) (j := 1) rfl rfl rfl ?_
              refine z_ishl (pc := 65) rfl ?_
              refine z_istore (pc := 66) (i := 6) (ls' := [(0, .ref 0), (1, .int (nI j)), (2, .int (nI n)), (3, .int 1), (4, .int 1000000), (5, .int 0), (6, .int (1 <<< ((nI j) &&& 31)))]) rfl (by decide) rfl ?_
              refine z_aload_n (pc := 68) (i := 0) (j := 0) rfl rfl rfl ?_
              refine z_getR (pc := 69) (x := 21) rfl fl_SW_31 hx.1 rfl hx.2.2.2.2.1 ?_
              refine z_getI (pc := 72) rfl fl_SW_181 hx.2.2.2.2.2.2.2.2.2.2.2.2.1.1 rfl ?_
              refine z_istore (pc := 75) (i := 7) (ls' := [(0, .ref 0), (1, .int (nI j)), (2, .int (nI n)), (3, .int 1), (4, .int 1000000), (5, .int 0), (6, .int (1 <<< ((nI j) &&& 31))), (7, .int (zI w 21 9))]) rfl (by decide) rfl ?_
              refine z_aload_n (pc := 77) (i := 0) (j := 0) rfl rfl rfl ?_
              refine z_getR (pc := 78) (x := 21) rfl fl_SW_31 hx.1 rfl hx.2.2.2.2.1 ?_
              refine z_getI (pc := 81) rfl fl_SW_91 hx.2.2.2.2.2.2.2.2.2.2.2.2.1.1 rfl ?_
              refine z_iload_n (pc := 84) (i := 1) (j := 1) rfl rfl rfl ?_
              refine z_cS (pc := 85) (mc1 := 0) (ms1 := 0) (mc2 := 0) (ms2 := 0) (as := [.int (zI w 21 11), .int (nI j)]) (rest := []) ok_SW_hasBit rfl rfl cl_SW_100 (by omega) (Nat.le_of_ble_eq_true rfl) (Nat.le_of_ble_eq_true rfl) (Nat.le_refl _) (Nat.le_refl _) (c_SW_hasBit (zI w 21 11) (nI j) 0 _) (fun r1 w1 hp => ?_) rfl rfl
              obtain ⟨rfl, hw1⟩ := hp
              rw [hw1]
              refine ⟨⟨Nat.le_refl _, Or.inl rfl⟩, ?_⟩
              refine z_if_eq (pc := 88) (tgt := 101) rfl (by decide) (fun h88 => ?_) (fun h88 => ?_)
              · have hz : (zI w 21 11 >>> (nI j &&& 31)) &&& 1 = 0 := Decidable.byContradiction (fun z => by rw [if_neg z] at h88; exact absurd h88 (by decide))
                refine z_aload_n (pc := 101) (i := 0) (j := 0) rfl rfl rfl ?_
                refine z_getR (pc := 102) (x := s) rfl fl_SW_48 hx.1 rfl hx.2.2.2.2.2.2.2.1 ?_
                refine z_iload_n (pc := 105) (i := 1) (j := 1) rfl rfl rfl ?_
                refine z_cV (pc := 106) (mc1 := 0) (ms1 := 0) (mc2 := 0) (ms2 := 0) (as := [.int (nI j)]) (rest := []) (o := s) rfl rfl hx.2.2.2.2.2.2.2.2.2.2.2.2.2.2.2.1.1 ok_Street_price rfl rfl cl_SW_187 (by omega) (Nat.le_of_ble_eq_true rfl) (Nat.le_of_ble_eq_true rfl) (Nat.le_refl _) (Nat.le_refl _) (c_Street_price (w := w) (hx.2.2.2.2.2.2.2.2.2.2.2.2.2.2.2.1) (i := j) hj8 0) (fun r1 w1 hp => ?_) rfl rfl
                obtain ⟨rfl, hw1⟩ := hp
                rw [hw1, nI_clamp (n := j) (by omega)]
                refine ⟨⟨Nat.le_refl _, Or.inl rfl⟩, ?_⟩
                refine z_istore (pc := 109) (i := 8) (ls' := [(0, .ref 0), (1, .int (nI j)), (2, .int (nI n)), (3, .int 1), (4, .int 1000000), (5, .int 0), (6, .int (1 <<< ((nI j) &&& 31))), (7, .int (zI w 21 9)), (8, .int (priceV (zI w (s + 4) j)))]) rfl (by decide) rfl ?_
                refine z_iconst (pc := 111) (v := 0) rfl (by decide) ?_
                refine z_istore (pc := 112) (i := 9) (ls' := [(0, .ref 0), (1, .int (nI j)), (2, .int (nI n)), (3, .int 1), (4, .int 1000000), (5, .int 0), (6, .int (1 <<< ((nI j) &&& 31))), (7, .int (zI w 21 9)), (8, .int (priceV (zI w (s + 4) j))), (9, .int 0)]) rfl (by decide) rfl ?_
                refine z_mono (fun r w9 h9 => ?_) (l_SW_free hx hi hs hj8 hn24 1 (priceV (zI w (s + 4) j)) d hd n 0 (zI w 21 9) (1000000, 0) (zI w) (by omega) (cFr_r s w))
                obtain ⟨f9, a1, a2, a3⟩ := h9
                refine ⟨f9, a1, a2, ?_⟩
                unfold freeV
                rw [if_pos hO, if_neg h10b, if_pos h16b, nI_clamp (n := j) (by omega), nI_clamp (n := n) (by omega), if_neg h30, if_neg h30, if_pos hz]
                exact a3
              · have hz : ¬ (zI w 21 11 >>> (nI j &&& 31)) &&& 1 = 0 := fun z => h88 (if_pos z)
                refine z_aload_n (pc := 91) (i := 0) (j := 0) rfl rfl rfl ?_
                refine z_getR (pc := 92) (x := s) rfl fl_SW_48 hx.1 rfl hx.2.2.2.2.2.2.2.1 ?_
                refine z_getI (pc := 95) rfl fl_SW_184 hx.2.2.2.2.2.2.2.2.2.2.2.2.2.2.2.1.1 rfl ?_
                refine z_goto (pc := 98) (tgt := 109) rfl (by decide) ?_
                refine z_istore (pc := 109) (i := 8) (ls' := [(0, .ref 0), (1, .int (nI j)), (2, .int (nI n)), (3, .int 1), (4, .int 1000000), (5, .int 0), (6, .int (1 <<< ((nI j) &&& 31))), (7, .int (zI w 21 9)), (8, .int (zI w s 9))]) rfl (by decide) rfl ?_
                refine z_iconst (pc := 111) (v := 0) rfl (by decide) ?_
                refine z_istore (pc := 112) (i := 9) (ls' := [(0, .ref 0), (1, .int (nI j)), (2, .int (nI n)), (3, .int 1), (4, .int 1000000), (5, .int 0), (6, .int (1 <<< ((nI j) &&& 31))), (7, .int (zI w 21 9)), (8, .int (zI w s 9)), (9, .int 0)]) rfl (by decide) rfl ?_
                refine z_mono (fun r w9 h9 => ?_) (l_SW_free hx hi hs hj8 hn24 1 (zI w s 9) d hd n 0 (zI w 21 9) (1000000, 0) (zI w) (by omega) (cFr_r s w))
                obtain ⟨f9, a1, a2, a3⟩ := h9
                refine ⟨f9, a1, a2, ?_⟩
                unfold freeV
                rw [if_pos hO, if_neg h10b, if_pos h16b, nI_clamp (n := j) (by omega), nI_clamp (n := n) (by omega), if_neg h30, if_neg h30, if_neg hz]
                exact a3
      · refine z_iconst (pc := 19) (v := (-1)) rfl (by decide) ?_
        exact z_iret (pc := 20) rfl rfl ⟨zI w, rfl, cFr_r s w, by unfold freeV; rw [if_pos (ite_ne h5), if_neg h10, if_neg h16]⟩
