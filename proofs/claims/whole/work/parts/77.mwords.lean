/-! THE MODEL: a kept word, a kind, a fact, told twice -/
theorem tW_i {T : Nat → Int32} {n p a : Nat} (h : tW T n p = some a) : ∃ i, i < 19 ∧ a = 1000000 + i := by
  have := tkw_c (q := .inl p) h
  exact ⟨a - 1000000, by omega, by omega⟩
theorem wd1 {T : Nat → Int32} {n p i : Nat} (h1 : tM T n p = 1) (hi : i < 19) {x : Int64} (hx : zkM.getD i 0 = x) : lg_cmp (tWd T n p) x = 0 ↔ tW T n p = some (1000000 + i) := by
  rw [lg_cmp_eq, ← hx]
  exact ⟨fun h => (wd_iff hi).mp ⟨h1, h⟩, fun h => ((wd_iff hi).mpr h).2⟩
def facM (o : Option Nat) (pl : Int32) : Int32 := if o = some 1000016 then 1 else if o = some 1000017 then 2 else if pl = 0 then 0 else if o = some 1000007 then 3 else if o = some 1000018 then 4 else 0
theorem tW_n {T : Nat → Int32} {n p : Nat} (h : ¬ tM T n p = 1) : tW T n p = none := by
  cases e : tW T n p with
  | none => rfl
  | some a => exact absurd ((t1_iff T n p).mpr (tW_3 e)) h
theorem c_fac {w : zW} {n p : Nat} {T : Nat → Int32} (hk : mK w n T) (hS : mS w T n p) (d : Nat) : zS 0 0 d m_Mod_fact (fun rv w1 => rv = some (.int (facM (tW T n p) (zI w 44 21))) ∧ w1 = w) 0 [(0, .ref 44)] [] w := by
  refine z_mono ?_ (c_Mod_fact hk.1 d)
  intro r w1 h
  refine ⟨h.1.trans ?_, h.2⟩
  rw [hS.2.2.1, hS.2.2.2.1]
  by_cases y : tM T n p = 1
  · rw [if_pos y]
    have e1 := wd1 y (i := 16) (by decide) (x := 168984) rfl
    have e2 := wd1 y (i := 17) (by decide) (x := 2968) rfl
    have e3 := wd1 y (i := 7) (by decide) (x := 164222) rfl
    have e4 := wd1 y (i := 18) (by decide) (x := 16819) rfl
    unfold facM
    simp only [e1, e2, e3, e4]
  · rw [if_neg y, tW_n y]
    unfold facM
    simp
theorem kept_0 {T : Nat → Int32} {n p : Nat} (h : ¬ tW T n p = some (1000000 + 0) ∧ ¬ tW T n p = some (1000000 + 1) ∧ ¬ tW T n p = some (1000000 + 2) ∧ ¬ tW T n p = some (1000000 + 3) ∧ ¬ tW T n p = some (1000000 + 4) ∧ ¬ tW T n p = some (1000000 + 5) ∧ ¬ tW T n p = some (1000000 + 6) ∧ ¬ tW T n p = some (1000000 + 7) ∧ ¬ tW T n p = some (1000000 + 8) ∧ ¬ tW T n p = some (1000000 + 9) ∧ ¬ tW T n p = some (1000000 + 10) ∧ ¬ tW T n p = some (1000000 + 11) ∧ ¬ tW T n p = some (1000000 + 12) ∧ ¬ tW T n p = some (1000000 + 13) ∧ ¬ tW T n p = some (1000000 + 14) ∧ ¬ tW T n p = some (1000000 + 15)) : resO (tW T n p) = 0 := by
  cases e : tW T n p with
  | none => rfl
  | some a =>
    obtain ⟨i, h1, rfl⟩ := tW_i e
    have h16 : 16 ≤ i := by
      obtain ⟨a0, a1, a2, a3, a4, a5, a6, a7, a8, a9, a10, a11, a12, a13, a14, a15⟩ := h
      rcases Nat.lt_or_ge i 16 with z | z
      · exfalso
        have : i = 0 ∨ i = 1 ∨ i = 2 ∨ i = 3 ∨ i = 4 ∨ i = 5 ∨ i = 6 ∨ i = 7 ∨ i = 8 ∨ i = 9 ∨ i = 10 ∨ i = 11 ∨ i = 12 ∨ i = 13 ∨ i = 14 ∨ i = 15 := by omega
        rcases this with rfl | rfl | rfl | rfl | rfl | rfl | rfl | rfl | rfl | rfl | rfl | rfl | rfl | rfl | rfl | rfl
        · exact a0 e
        · exact a1 e
        · exact a2 e
        · exact a3 e
        · exact a4 e
        · exact a5 e
        · exact a6 e
        · exact a7 e
        · exact a8 e
        · exact a9 e
        · exact a10 e
        · exact a11 e
        · exact a12 e
        · exact a13 e
        · exact a14 e
        · exact a15 e
      · exact z
    have : i = 16 ∨ i = 17 ∨ i = 18 := by omega
    rcases this with rfl | rfl | rfl <;> rfl
set_option maxRecDepth 100000 in
set_option maxHeartbeats 4000000 in
theorem c_Mod_isKept {w : zW} {n : Nat} {T : Nat → Int32} (hk : mK w n T) {p : Nat} (hS : mS w T n p) (d : Nat) : zS 0 0 d m_Mod_isKept (fun rv w1 => rv = some (.int (if tC T n p = 3 then resO (tW T n p) else 1)) ∧ w1 = w) 0 [(0, .ref 44)] [] w := by
  refine z_aload_n (pc := 0) (i := 0) (j := 0) rfl rfl rfl ?_
  refine z_getI (pc := 1) rfl fl_Mod_125 hk.1.1 rfl ?_
  refine z_eqi (y := tM T n p) hS.2.2.1 ?_
  refine z_iconst (pc := 4) (v := 1) rfl (by decide) ?_
  refine z_icmp_eq (pc := 5) (tgt := 10) rfl (by decide) (fun h5 => ?_) (fun h5 => ?_)
  · refine z_aload_n (pc := 10) (i := 0) (j := 0) rfl rfl rfl ?_
    refine z_getL (pc := 11) rfl fl_Mod_118 hk.1.1 rfl ?_
    refine z_eql (y := tWd T n p) hS.2.2.2.1 ?_
    refine z_ldc2 (pc := 14) (v := 3369766) rfl kl_Mod_190 ?_
    refine z_lcmp (pc := 17) rfl ?_
    refine z_if_eq (pc := 18) (tgt := 186) rfl (by decide) (fun h18 => ?_) (fun h18 => ?_)
    · refine z_iconst (pc := 186) (v := 1) rfl (by decide) ?_
      refine z_goto (pc := 187) (tgt := 191) rfl (by decide) ?_
      exact z_zret (pc := 191) rfl rfl (by decide) ⟨by rw [if_pos ((t1_iff T n p).mp h5), (wd1 h5 (i := 0) (by decide) rfl).mp h18]; rfl, rfl⟩
    · refine z_aload_n (pc := 21) (i := 0) (j := 0) rfl rfl rfl ?_
      refine z_getL (pc := 22) rfl fl_Mod_118 hk.1.1 rfl ?_
      refine z_eql (y := tWd T n p) hS.2.2.2.1 ?_
      refine z_ldc2 (pc := 25) (v := 459652) rfl kl_Mod_192 ?_
      refine z_lcmp (pc := 28) rfl ?_
      refine z_if_eq (pc := 29) (tgt := 186) rfl (by decide) (fun h29 => ?_) (fun h29 => ?_)
      · refine z_iconst (pc := 186) (v := 1) rfl (by decide) ?_
        refine z_goto (pc := 187) (tgt := 191) rfl (by decide) ?_
        exact z_zret (pc := 191) rfl rfl (by decide) ⟨by rw [if_pos ((t1_iff T n p).mp h5), (wd1 h5 (i := 1) (by decide) rfl).mp h29]; rfl, rfl⟩
      · refine z_aload_n (pc := 32) (i := 0) (j := 0) rfl rfl rfl ?_
        refine z_getL (pc := 33) rfl fl_Mod_118 hk.1.1 rfl ?_
        refine z_eql (y := tWd T n p) hS.2.2.2.1 ?_
        refine z_ldc2 (pc := 36) (v := 8754917) rfl kl_Mod_194 ?_
        refine z_lcmp (pc := 39) rfl ?_
        refine z_if_eq (pc := 40) (tgt := 186) rfl (by decide) (fun h40 => ?_) (fun h40 => ?_)
        · refine z_iconst (pc := 186) (v := 1) rfl (by decide) ?_
          refine z_goto (pc := 187) (tgt := 191) rfl (by decide) ?_
          exact z_zret (pc := 191) rfl rfl (by decide) ⟨by rw [if_pos ((t1_iff T n p).mp h5), (wd1 h5 (i := 2) (by decide) rfl).mp h40]; rfl, rfl⟩
        · refine z_aload_n (pc := 43) (i := 0) (j := 0) rfl rfl rfl ?_
          refine z_getL (pc := 44) rfl fl_Mod_118 hk.1.1 rfl ?_
          refine z_eql (y := tWd T n p) hS.2.2.2.1 ?_
          refine z_ldc2 (pc := 47) (v := 70312) rfl kl_Mod_196 ?_
          refine z_lcmp (pc := 50) rfl ?_
          refine z_if_eq (pc := 51) (tgt := 186) rfl (by decide) (fun h51 => ?_) (fun h51 => ?_)
          · refine z_iconst (pc := 186) (v := 1) rfl (by decide) ?_
            refine z_goto (pc := 187) (tgt := 191) rfl (by decide) ?_
            exact z_zret (pc := 191) rfl rfl (by decide) ⟨by rw [if_pos ((t1_iff T n p).mp h5), (wd1 h5 (i := 3) (by decide) rfl).mp h51]; rfl, rfl⟩
          · refine z_aload_n (pc := 54) (i := 0) (j := 0) rfl rfl rfl ?_
            refine z_getL (pc := 55) rfl fl_Mod_118 hk.1.1 rfl ?_
            refine z_eql (y := tWd T n p) hS.2.2.2.1 ?_
            refine z_ldc2 (pc := 58) (v := 11055682) rfl kl_Mod_198 ?_
            refine z_lcmp (pc := 61) rfl ?_
            refine z_if_eq (pc := 62) (tgt := 186) rfl (by decide) (fun h62 => ?_) (fun h62 => ?_)
            · refine z_iconst (pc := 186) (v := 1) rfl (by decide) ?_
              refine z_goto (pc := 187) (tgt := 191) rfl (by decide) ?_
              exact z_zret (pc := 191) rfl rfl (by decide) ⟨by rw [if_pos ((t1_iff T n p).mp h5), (wd1 h5 (i := 4) (by decide) rfl).mp h62]; rfl, rfl⟩
            · refine z_aload_n (pc := 65) (i := 0) (j := 0) rfl rfl rfl ?_
              refine z_getL (pc := 66) rfl fl_Mod_118 hk.1.1 rfl ?_
              refine z_eql (y := tWd T n p) hS.2.2.2.1 ?_
              refine z_ldc2 (pc := 69) (v := 4562600) rfl kl_Mod_200 ?_
              refine z_lcmp (pc := 72) rfl ?_
              refine z_if_eq (pc := 73) (tgt := 186) rfl (by decide) (fun h73 => ?_) (fun h73 => ?_)
              · refine z_iconst (pc := 186) (v := 1) rfl (by decide) ?_
                refine z_goto (pc := 187) (tgt := 191) rfl (by decide) ?_
                exact z_zret (pc := 191) rfl rfl (by decide) ⟨by rw [if_pos ((t1_iff T n p).mp h5), (wd1 h5 (i := 5) (by decide) rfl).mp h73]; rfl, rfl⟩
              · refine z_aload_n (pc := 76) (i := 0) (j := 0) rfl rfl rfl ?_
                refine z_getL (pc := 77) rfl fl_Mod_118 hk.1.1 rfl ?_
                refine z_eql (y := tWd T n p) hS.2.2.2.1 ?_
                refine z_ldc2 (pc := 80) (v := 47) rfl kl_Mod_202 ?_
                refine z_lcmp (pc := 83) rfl ?_
                refine z_if_eq (pc := 84) (tgt := 186) rfl (by decide) (fun h84 => ?_) (fun h84 => ?_)
                · refine z_iconst (pc := 186) (v := 1) rfl (by decide) ?_
                  refine z_goto (pc := 187) (tgt := 191) rfl (by decide) ?_
                  exact z_zret (pc := 191) rfl rfl (by decide) ⟨by rw [if_pos ((t1_iff T n p).mp h5), (wd1 h5 (i := 6) (by decide) rfl).mp h84]; rfl, rfl⟩
                · refine z_aload_n (pc := 87) (i := 0) (j := 0) rfl rfl rfl ?_
                  refine z_getL (pc := 88) rfl fl_Mod_118 hk.1.1 rfl ?_
                  refine z_eql (y := tWd T n p) hS.2.2.2.1 ?_
                  refine z_ldc2 (pc := 91) (v := 164222) rfl kl_Mod_150 ?_
                  refine z_lcmp (pc := 94) rfl ?_
                  refine z_if_eq (pc := 95) (tgt := 186) rfl (by decide) (fun h95 => ?_) (fun h95 => ?_)
                  · refine z_iconst (pc := 186) (v := 1) rfl (by decide) ?_
                    refine z_goto (pc := 187) (tgt := 191) rfl (by decide) ?_
                    exact z_zret (pc := 191) rfl rfl (by decide) ⟨by rw [if_pos ((t1_iff T n p).mp h5), (wd1 h5 (i := 7) (by decide) rfl).mp h95]; rfl, rfl⟩
                  · refine z_aload_n (pc := 98) (i := 0) (j := 0) rfl rfl rfl ?_
                    refine z_getL (pc := 99) rfl fl_Mod_118 hk.1.1 rfl ?_
                    refine z_eql (y := tWd T n p) hS.2.2.2.1 ?_
                    refine z_ldc2 (pc := 102) (v := 3427) rfl kl_Mod_204 ?_
                    refine z_lcmp (pc := 105) rfl ?_
                    refine z_if_eq (pc := 106) (tgt := 186) rfl (by decide) (fun h106 => ?_) (fun h106 => ?_)
                    · refine z_iconst (pc := 186) (v := 1) rfl (by decide) ?_
                      refine z_goto (pc := 187) (tgt := 191) rfl (by decide) ?_
                      exact z_zret (pc := 191) rfl rfl (by decide) ⟨by rw [if_pos ((t1_iff T n p).mp h5), (wd1 h5 (i := 8) (by decide) rfl).mp h106]; rfl, rfl⟩
                    · refine z_aload_n (pc := 109) (i := 0) (j := 0) rfl rfl rfl ?_
                      refine z_getL (pc := 110) rfl fl_Mod_118 hk.1.1 rfl ?_
                      refine z_eql (y := tWd T n p) hS.2.2.2.1 ?_
                      refine z_ldc2 (pc := 113) (v := 16922) rfl kl_Mod_206 ?_
                      refine z_lcmp (pc := 116) rfl ?_
                      refine z_if_eq (pc := 117) (tgt := 186) rfl (by decide) (fun h117 => ?_) (fun h117 => ?_)
                      · refine z_iconst (pc := 186) (v := 1) rfl (by decide) ?_
                        refine z_goto (pc := 187) (tgt := 191) rfl (by decide) ?_
                        exact z_zret (pc := 191) rfl rfl (by decide) ⟨by rw [if_pos ((t1_iff T n p).mp h5), (wd1 h5 (i := 9) (by decide) rfl).mp h117]; rfl, rfl⟩
                      · refine z_aload_n (pc := 120) (i := 0) (j := 0) rfl rfl rfl ?_
                        refine z_getL (pc := 121) rfl fl_Mod_118 hk.1.1 rfl ?_
                        refine z_eql (y := tWd T n p) hS.2.2.2.1 ?_
                        refine z_ldc2 (pc := 124) (v := 318620) rfl kl_Mod_208 ?_
                        refine z_lcmp (pc := 127) rfl ?_
                        refine z_if_eq (pc := 128) (tgt := 186) rfl (by decide) (fun h128 => ?_) (fun h128 => ?_)
                        · refine z_iconst (pc := 186) (v := 1) rfl (by decide) ?_
                          refine z_goto (pc := 187) (tgt := 191) rfl (by decide) ?_
                          exact z_zret (pc := 191) rfl rfl (by decide) ⟨by rw [if_pos ((t1_iff T n p).mp h5), (wd1 h5 (i := 10) (by decide) rfl).mp h128]; rfl, rfl⟩
                        · refine z_aload_n (pc := 131) (i := 0) (j := 0) rfl rfl rfl ?_
                          refine z_getL (pc := 132) rfl fl_Mod_118 hk.1.1 rfl ?_
                          refine z_eql (y := tWd T n p) hS.2.2.2.1 ?_
                          refine z_ldc2 (pc := 135) (v := 239882) rfl kl_Mod_210 ?_
                          refine z_lcmp (pc := 138) rfl ?_
                          refine z_if_eq (pc := 139) (tgt := 186) rfl (by decide) (fun h139 => ?_) (fun h139 => ?_)
                          · refine z_iconst (pc := 186) (v := 1) rfl (by decide) ?_
                            refine z_goto (pc := 187) (tgt := 191) rfl (by decide) ?_
                            exact z_zret (pc := 191) rfl rfl (by decide) ⟨by rw [if_pos ((t1_iff T n p).mp h5), (wd1 h5 (i := 11) (by decide) rfl).mp h139]; rfl, rfl⟩
                          · refine z_aload_n (pc := 142) (i := 0) (j := 0) rfl rfl rfl ?_
                            refine z_getL (pc := 143) rfl fl_Mod_118 hk.1.1 rfl ?_
                            refine z_eql (y := tWd T n p) hS.2.2.2.1 ?_
                            refine z_ldc2 (pc := 146) (v := 11190) rfl kl_Mod_212 ?_
                            refine z_lcmp (pc := 149) rfl ?_
                            refine z_if_eq (pc := 150) (tgt := 186) rfl (by decide) (fun h150 => ?_) (fun h150 => ?_)
                            · refine z_iconst (pc := 186) (v := 1) rfl (by decide) ?_
                              refine z_goto (pc := 187) (tgt := 191) rfl (by decide) ?_
                              exact z_zret (pc := 191) rfl rfl (by decide) ⟨by rw [if_pos ((t1_iff T n p).mp h5), (wd1 h5 (i := 12) (by decide) rfl).mp h150]; rfl, rfl⟩
                            · refine z_aload_n (pc := 153) (i := 0) (j := 0) rfl rfl rfl ?_
                              refine z_getL (pc := 154) rfl fl_Mod_118 hk.1.1 rfl ?_
                              refine z_eql (y := tWd T n p) hS.2.2.2.1 ?_
                              refine z_ldc2 (pc := 157) (v := 10631) rfl kl_Mod_158 ?_
                              refine z_lcmp (pc := 160) rfl ?_
                              refine z_if_eq (pc := 161) (tgt := 186) rfl (by decide) (fun h161 => ?_) (fun h161 => ?_)
                              · refine z_iconst (pc := 186) (v := 1) rfl (by decide) ?_
                                refine z_goto (pc := 187) (tgt := 191) rfl (by decide) ?_
                                exact z_zret (pc := 191) rfl rfl (by decide) ⟨by rw [if_pos ((t1_iff T n p).mp h5), (wd1 h5 (i := 13) (by decide) rfl).mp h161]; rfl, rfl⟩
                              · refine z_aload_n (pc := 164) (i := 0) (j := 0) rfl rfl rfl ?_
                                refine z_getL (pc := 165) rfl fl_Mod_118 hk.1.1 rfl ?_
                                refine z_eql (y := tWd T n p) hS.2.2.2.1 ?_
                                refine z_ldc2 (pc := 168) (v := 1111) rfl kl_Mod_177 ?_
                                refine z_lcmp (pc := 171) rfl ?_
                                refine z_if_eq (pc := 172) (tgt := 186) rfl (by decide) (fun h172 => ?_) (fun h172 => ?_)
                                · refine z_iconst (pc := 186) (v := 1) rfl (by decide) ?_
                                  refine z_goto (pc := 187) (tgt := 191) rfl (by decide) ?_
                                  exact z_zret (pc := 191) rfl rfl (by decide) ⟨by rw [if_pos ((t1_iff T n p).mp h5), (wd1 h5 (i := 14) (by decide) rfl).mp h172]; rfl, rfl⟩
                                · refine z_aload_n (pc := 175) (i := 0) (j := 0) rfl rfl rfl ?_
                                  refine z_getL (pc := 176) rfl fl_Mod_118 hk.1.1 rfl ?_
                                  refine z_eql (y := tWd T n p) hS.2.2.2.1 ?_
                                  refine z_ldc2 (pc := 179) (v := 423) rfl kl_Mod_179 ?_
                                  refine z_lcmp (pc := 182) rfl ?_
                                  refine z_if_ne (pc := 183) (tgt := 190) rfl (by decide) (fun h183 => ?_) (fun h183 => ?_)
                                  · refine z_iconst (pc := 190) (v := 0) rfl (by decide) ?_
                                    exact z_zret (pc := 191) rfl rfl (by decide) ⟨by rw [if_pos ((t1_iff T n p).mp h5), kept_0 ⟨fun e => h18 ((wd1 h5 (i := 0) (by decide) rfl).mpr e), fun e => h29 ((wd1 h5 (i := 1) (by decide) rfl).mpr e), fun e => h40 ((wd1 h5 (i := 2) (by decide) rfl).mpr e), fun e => h51 ((wd1 h5 (i := 3) (by decide) rfl).mpr e), fun e => h62 ((wd1 h5 (i := 4) (by decide) rfl).mpr e), fun e => h73 ((wd1 h5 (i := 5) (by decide) rfl).mpr e), fun e => h84 ((wd1 h5 (i := 6) (by decide) rfl).mpr e), fun e => h95 ((wd1 h5 (i := 7) (by decide) rfl).mpr e), fun e => h106 ((wd1 h5 (i := 8) (by decide) rfl).mpr e), fun e => h117 ((wd1 h5 (i := 9) (by decide) rfl).mpr e), fun e => h128 ((wd1 h5 (i := 10) (by decide) rfl).mpr e), fun e => h139 ((wd1 h5 (i := 11) (by decide) rfl).mpr e), fun e => h150 ((wd1 h5 (i := 12) (by decide) rfl).mpr e), fun e => h161 ((wd1 h5 (i := 13) (by decide) rfl).mpr e), fun e => h172 ((wd1 h5 (i := 14) (by decide) rfl).mpr e), fun e => h183 ((wd1 h5 (i := 15) (by decide) rfl).mpr e)⟩], rfl⟩
                                  · refine z_iconst (pc := 186) (v := 1) rfl (by decide) ?_
                                    refine z_goto (pc := 187) (tgt := 191) rfl (by decide) ?_
                                    exact z_zret (pc := 191) rfl rfl (by decide) ⟨by rw [if_pos ((t1_iff T n p).mp h5), (wd1 h5 (i := 15) (by decide) rfl).mp h183]; rfl, rfl⟩
  · refine z_iconst (pc := 8) (v := 1) rfl (by decide) ?_
    exact z_zret (pc := 9) rfl rfl (by decide) ⟨by rw [if_neg (fun e => h5 ((t1_iff T n p).mpr e))], rfl⟩
theorem kind_0 {T : Nat → Int32} {n p : Nat} (h : ¬ tW T n p = some (1000000 + 8) ∧ ¬ tW T n p = some (1000000 + 9) ∧ ¬ tW T n p = some (1000000 + 10) ∧ ¬ tW T n p = some (1000000 + 11) ∧ ¬ tW T n p = some (1000000 + 12)) : kndO (tW T n p) = -1 := by
  cases e : tW T n p with
  | none => rfl
  | some a =>
    obtain ⟨i, h1, rfl⟩ := tW_i e
    obtain ⟨a8, a9, a10, a11, a12⟩ := h
    have : i = 0 ∨ i = 1 ∨ i = 2 ∨ i = 3 ∨ i = 4 ∨ i = 5 ∨ i = 6 ∨ i = 7 ∨ i = 8 ∨ i = 9 ∨ i = 10 ∨ i = 11 ∨ i = 12 ∨ i = 13 ∨ i = 14 ∨ i = 15 ∨ i = 16 ∨ i = 17 ∨ i = 18 := by omega
    rcases this with rfl | rfl | rfl | rfl | rfl | rfl | rfl | rfl | rfl | rfl | rfl | rfl | rfl | rfl | rfl | rfl | rfl | rfl | rfl
    all_goals first | rfl | exact absurd e a8 | exact absurd e a9 | exact absurd e a10 | exact absurd e a11 | exact absurd e a12
set_option maxRecDepth 100000 in
set_option maxHeartbeats 4000000 in
theorem c_Mod_kindAt {w : zW} {n : Nat} {T : Nat → Int32} (hk : mK w n T) {p : Nat} (hS : mS w T n p) (d : Nat) (hd : 1 ≤ d) : zS 0 0 d m_Mod_kindAt (fun rv w1 => rv = some (.int (kndO (tW T n p))) ∧ w1 = w) 0 [(0, .ref 44)] [] w := by
  refine z_aload_n (pc := 0) (i := 0) (j := 0) rfl rfl rfl ?_
  refine z_ldc2 (pc := 1) (v := 3427) rfl kl_Mod_204 ?_
  refine z_cV (pc := 4) (mc1 := 0) (ms1 := 0) (mc2 := 0) (ms2 := 0) (as := [.long 3427]) (rest := []) (o := 44) rfl rfl hk.1.1 ok_Mod_isWord rfl rfl cl_Mod_160 (by omega) (Nat.le_of_ble_eq_true rfl) (Nat.le_of_ble_eq_true rfl) (Nat.le_refl _) (Nat.le_refl _) (c_wd hk hS (i := 8) (by decide) rfl 0) (fun r1 w1 hp => ?_) rfl rfl
  obtain ⟨rfl, hw1⟩ := hp
  rw [hw1]
  refine ⟨⟨Nat.le_refl _, Or.inl rfl⟩, ?_⟩
  refine z_if_eq (pc := 7) (tgt := 14) rfl (by decide) (fun h7 => ?_) (fun h7 => ?_)
  · refine z_aload_n (pc := 14) (i := 0) (j := 0) rfl rfl rfl ?_
    refine z_ldc2 (pc := 15) (v := 16922) rfl kl_Mod_206 ?_
    refine z_cV (pc := 18) (mc1 := 0) (ms1 := 0) (mc2 := 0) (ms2 := 0) (as := [.long 16922]) (rest := []) (o := 44) rfl rfl hk.1.1 ok_Mod_isWord rfl rfl cl_Mod_160 (by omega) (Nat.le_of_ble_eq_true rfl) (Nat.le_of_ble_eq_true rfl) (Nat.le_refl _) (Nat.le_refl _) (c_wd hk hS (i := 9) (by decide) rfl 0) (fun r1 w1 hp => ?_) rfl rfl
    obtain ⟨rfl, hw1⟩ := hp
    rw [hw1]
    refine ⟨⟨Nat.le_refl _, Or.inl rfl⟩, ?_⟩
    refine z_if_eq (pc := 21) (tgt := 28) rfl (by decide) (fun h21 => ?_) (fun h21 => ?_)
    · refine z_aload_n (pc := 28) (i := 0) (j := 0) rfl rfl rfl ?_
      refine z_ldc2 (pc := 29) (v := 318620) rfl kl_Mod_208 ?_
      refine z_cV (pc := 32) (mc1 := 0) (ms1 := 0) (mc2 := 0) (ms2 := 0) (as := [.long 318620]) (rest := []) (o := 44) rfl rfl hk.1.1 ok_Mod_isWord rfl rfl cl_Mod_160 (by omega) (Nat.le_of_ble_eq_true rfl) (Nat.le_of_ble_eq_true rfl) (Nat.le_refl _) (Nat.le_refl _) (c_wd hk hS (i := 10) (by decide) rfl 0) (fun r1 w1 hp => ?_) rfl rfl
      obtain ⟨rfl, hw1⟩ := hp
      rw [hw1]
      refine ⟨⟨Nat.le_refl _, Or.inl rfl⟩, ?_⟩
      refine z_if_eq (pc := 35) (tgt := 42) rfl (by decide) (fun h35 => ?_) (fun h35 => ?_)
      · refine z_aload_n (pc := 42) (i := 0) (j := 0) rfl rfl rfl ?_
        refine z_ldc2 (pc := 43) (v := 239882) rfl kl_Mod_210 ?_
        refine z_cV (pc := 46) (mc1 := 0) (ms1 := 0) (mc2 := 0) (ms2 := 0) (as := [.long 239882]) (rest := []) (o := 44) rfl rfl hk.1.1 ok_Mod_isWord rfl rfl cl_Mod_160 (by omega) (Nat.le_of_ble_eq_true rfl) (Nat.le_of_ble_eq_true rfl) (Nat.le_refl _) (Nat.le_refl _) (c_wd hk hS (i := 11) (by decide) rfl 0) (fun r1 w1 hp => ?_) rfl rfl
        obtain ⟨rfl, hw1⟩ := hp
        rw [hw1]
        refine ⟨⟨Nat.le_refl _, Or.inl rfl⟩, ?_⟩
        refine z_if_eq (pc := 49) (tgt := 56) rfl (by decide) (fun h49 => ?_) (fun h49 => ?_)
        · refine z_aload_n (pc := 56) (i := 0) (j := 0) rfl rfl rfl ?_
          refine z_ldc2 (pc := 57) (v := 11190) rfl kl_Mod_212 ?_
          refine z_cV (pc := 60) (mc1 := 0) (ms1 := 0) (mc2 := 0) (ms2 := 0) (as := [.long 11190]) (rest := []) (o := 44) rfl rfl hk.1.1 ok_Mod_isWord rfl rfl cl_Mod_160 (by omega) (Nat.le_of_ble_eq_true rfl) (Nat.le_of_ble_eq_true rfl) (Nat.le_refl _) (Nat.le_refl _) (c_wd hk hS (i := 12) (by decide) rfl 0) (fun r1 w1 hp => ?_) rfl rfl
          obtain ⟨rfl, hw1⟩ := hp
          rw [hw1]
          refine ⟨⟨Nat.le_refl _, Or.inl rfl⟩, ?_⟩
          refine z_if_eq (pc := 63) (tgt := 70) rfl (by decide) (fun h63 => ?_) (fun h63 => ?_)
          · refine z_iconst (pc := 70) (v := (-1)) rfl (by decide) ?_
            exact z_iret (pc := 71) rfl rfl ⟨by rw [kind_0 ⟨fun e => absurd h7 (by rw [if_pos e]; decide), fun e => absurd h21 (by rw [if_pos e]; decide), fun e => absurd h35 (by rw [if_pos e]; decide), fun e => absurd h49 (by rw [if_pos e]; decide), fun e => absurd h63 (by rw [if_pos e]; decide)⟩], rfl⟩
          · refine z_iconst (pc := 66) (v := 4) rfl (by decide) ?_
            refine z_goto (pc := 67) (tgt := 71) rfl (by decide) ?_
            exact z_iret (pc := 71) rfl rfl ⟨by rw [show tW T n p = some (1000000 + 12) from Decidable.byContradiction (fun e => h63 (if_neg e))]; rfl, rfl⟩
        · refine z_iconst (pc := 52) (v := 3) rfl (by decide) ?_
          refine z_goto (pc := 53) (tgt := 71) rfl (by decide) ?_
          exact z_iret (pc := 71) rfl rfl ⟨by rw [show tW T n p = some (1000000 + 11) from Decidable.byContradiction (fun e => h49 (if_neg e))]; rfl, rfl⟩
      · refine z_iconst (pc := 38) (v := 2) rfl (by decide) ?_
        refine z_goto (pc := 39) (tgt := 71) rfl (by decide) ?_
        exact z_iret (pc := 71) rfl rfl ⟨by rw [show tW T n p = some (1000000 + 10) from Decidable.byContradiction (fun e => h35 (if_neg e))]; rfl, rfl⟩
    · refine z_iconst (pc := 24) (v := 1) rfl (by decide) ?_
      refine z_goto (pc := 25) (tgt := 71) rfl (by decide) ?_
      exact z_iret (pc := 71) rfl rfl ⟨by rw [show tW T n p = some (1000000 + 9) from Decidable.byContradiction (fun e => h21 (if_neg e))]; rfl, rfl⟩
  · refine z_iconst (pc := 10) (v := 0) rfl (by decide) ?_
    refine z_goto (pc := 11) (tgt := 71) rfl (by decide) ?_
    exact z_iret (pc := 71) rfl rfl ⟨by rw [show tW T n p = some (1000000 + 8) from Decidable.byContradiction (fun e => h7 (if_neg e))]; rfl, rfl⟩
set_option maxRecDepth 100000 in
set_option maxHeartbeats 4000000 in
theorem c_Mod_isTwice {w : zW} (hk : zMo w ∧ True) (x : Int32) (d : Nat) : zS 0 0 d m_Mod_isTwice (fun rv w1 => rv = some (.int (if (zI w 44 20 >>> (x &&& 31)) &&& 1 = 1 then 1 else 0)) ∧ w1 = if (zI w 44 20 >>> (x &&& 31)) &&& 1 = 1 then w else zsI w 44 20 (zI w 44 20 ||| (1 <<< (x &&& 31)))) 0 [(0, .ref 44), (1, .int x)] [] w := by
  refine z_aload_n (pc := 0) (i := 0) (j := 0) rfl rfl rfl ?_
  refine z_getI (pc := 1) rfl fl_Mod_221 hk.1.1 rfl ?_
  refine z_iload_n (pc := 4) (i := 1) (j := 1) rfl rfl rfl ?_
  refine z_ishr (pc := 5) rfl ?_
  refine z_iconst (pc := 6) (v := 1) rfl (by decide) ?_
  refine z_iand (pc := 7) rfl ?_
  refine z_iconst (pc := 8) (v := 1) rfl (by decide) ?_
  refine z_icmp_ne (pc := 9) (tgt := 14) rfl (by decide) (fun h9 => ?_) (fun h9 => ?_)
  · refine z_aload_n (pc := 14) (i := 0) (j := 0) rfl rfl rfl ?_
    refine z_dup (pc := 15) rfl rfl ?_
    refine z_getI (pc := 16) rfl fl_Mod_221 hk.1.1 rfl ?_
    refine z_iconst (pc := 19) (v := 1) rfl (by decide) ?_
    refine z_iload_n (pc := 20) (i := 1) (j := 1) rfl rfl rfl ?_
    refine z_ishl (pc := 21) rfl ?_
    refine z_ior (pc := 22) rfl ?_
    refine z_putI (pc := 23) rfl fl_Mod_221 hk.1.1 rfl  ?_
    refine z_iconst (pc := 26) (v := 0) rfl (by decide) ?_
    exact z_zret (pc := 27) rfl rfl (by decide) ⟨by rw [if_neg h9], by rw [if_neg h9]⟩
  · refine z_iconst (pc := 12) (v := 1) rfl (by decide) ?_
    exact z_zret (pc := 13) rfl rfl (by decide) ⟨by rw [if_pos h9], by rw [if_pos h9]⟩
