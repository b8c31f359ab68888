/-! THE MODEL'S NEXT TOKEN, in the reader's words -/
def tM (T : Nat → Int32) (n p : Nat) : Int32 := if tBeg T n p < n then (if isLt (T (tBeg T n p)) = true then (if tLen T n p ≤ 8 then 1 else 4) else if isDg (T (tBeg T n p)) = true then (if tLen T n p ≤ 4 then 2 else 4) else if isSg (T (tBeg T n p)) = true then 3 else 4) else 0
def tWd (T : Nat → Int32) (n p : Nat) : Int64 := if tBeg T n p < n ∧ isLt (T (tBeg T n p)) = true then kM T (tBeg T n p) (tLen T n p) else 0
def tTo (T : Nat → Int32) (n p : Nat) : Int32 := if tBeg T n p < n ∧ ¬ isLt (T (tBeg T n p)) = true ∧ isDg (T (tBeg T n p)) = true then nM T (tBeg T n p) (tLen T n p) else 0
def mS (w : zW) (T : Nat → Int32) (n p : Nat) : Prop := zI w 44 4 = nI (tEnd T n p) ∧ zI w 44 5 = nI (tBeg T n p) ∧ zI w 44 6 = tM T n p ∧ zL w 44 7 = tWd T n p ∧ zI w 44 8 = tTo T n p ∧ p ≤ n
def mF (w w1 : zW) : Prop := w1.1 = w.1 ∧ zR w1 = zR w ∧ (∀ o, o ≠ 44 → zI w1 o = zI w o) ∧ (∀ k, k < 4 ∨ 8 < k → zI w1 44 k = zI w 44 k) ∧ (∀ o k, ¬ (o = 44 ∧ k = 7) → zL w1 o k = zL w o k)
theorem mF_r (w : zW) : mF w w := ⟨rfl, rfl, fun _ _ => rfl, fun _ _ => rfl, fun _ _ _ => rfl⟩
theorem mF_t {w w1 w2 : zW} (h : mF w w1) (k : mF w1 w2) : mF w w2 := ⟨k.1.trans h.1, k.2.1.trans h.2.1, fun o ho => (k.2.2.1 o ho).trans (h.2.2.1 o ho), fun j hj => (k.2.2.2.1 j hj).trans (h.2.2.2.1 j hj), fun o j hj => (k.2.2.2.2 o j hj).trans (h.2.2.2.2 o j hj)⟩
theorem mF_I {w : zW} {k : Nat} (x : Int32) (h : 4 ≤ k ∧ k ≤ 8) : mF w (zsI w 44 k x) := ⟨rfl, rfl, fun o ho => z2_off _ _ _ ho, fun j hj => z2_k (zI w) 44 (k := k) (b := j) x (by omega), fun _ _ _ => rfl⟩
theorem mF_L {w : zW} (x : Int64) : mF w (zsL w 44 7 x) := ⟨rfl, rfl, fun _ _ => rfl, fun _ _ => rfl, fun o k q => by show z2 _ _ _ _ _ _ = _; unfold z2; rw [if_neg q]⟩
theorem zMo_mv {w w1 : zW} (h : zMo w) (e1 : w1.1 = w.1) (e2 : zR w1 = zR w) : zMo w1 := by
  unfold zMo
  rw [e1, e2]
  exact h
theorem mK_F {w w1 : zW} {n : Nat} {T : Nat → Int32} (h : mK w n T) (k : mF w w1) : mK w1 n T := ⟨zMo_mv h.1 k.1 k.2.1, (k.2.2.2.1 3 (by decide)).trans h.2.1, h.2.2.1, (k.2.2.1 45 (by decide)).trans h.2.2.2.1, h.2.2.2.2⟩
theorem zsL_sm {w : zW} {o k : Nat} {v : Int64} (h : zL w o k = v) : zsL w o k v = w := by
  subst h
  unfold zsL
  have : z2 (zL w) o k (zL w o k) = zL w := by funext a b; unfold z2; by_cases z : a = o ∧ b = k <;> simp [z]
  rw [this]
theorem dg_lt {c : Int32} (h : isDg c = true) : ¬ isLt c = true := by
  unfold isDg at h
  unfold isLt
  simp only [Bool.and_eq_true, Bool.not_eq_true', decide_eq_false_iff_not] at h ⊢
  intro z
  exact z.1 (Int32.lt_of_le_of_lt (Int32.not_lt.mp h.2) (by decide))
theorem mx_V {w : zW} {T : Nat → Int32} {n p : Nat} : mF w (zsI (zsL (zsI (zsI w 44 4 (nI (tBeg T n p))) 44 5 (nI (tBeg T n p))) 44 7 0) 44 8 0) := mF_t (mF_I _ (by decide)) (mF_t (mF_I _ (by decide)) (mF_t (mF_L _) (mF_I _ (by decide))))
theorem mx_e {w : zW} {T : Nat → Int32} {n p : Nat} (hp : p ≤ n) (h : ¬ tBeg T n p < n) : mF w (zsI (zsI (zsL (zsI (zsI w 44 4 (nI (tBeg T n p))) 44 5 (nI (tBeg T n p))) 44 7 0) 44 8 0) 44 6 0) ∧ mS (zsI (zsI (zsL (zsI (zsI w 44 4 (nI (tBeg T n p))) 44 5 (nI (tBeg T n p))) 44 7 0) 44 8 0) 44 6 0) T n p := by
  have e1 : tEnd T n p = tBeg T n p := by unfold tEnd; rw [if_neg h]
  refine ⟨mF_t mx_V (mF_I _ (by decide)), by rw [e1]; rfl, rfl, ?_, ?_, ?_, hp⟩
  · unfold tM; rw [if_neg h]; rfl
  · unfold tWd; rw [if_neg (fun z => h z.1)]; rfl
  · unfold tTo; rw [if_neg (fun z => h z.1)]; rfl
theorem mx_l {w : zW} {T : Nat → Int32} {n p E : Nat} (hp : p ≤ n) (h : tBeg T n p < n) (hl : isLt (T (tBeg T n p)) = true) (hE : rn isLt T n (tBeg T n p) = E) : mF w (zsI (zsI (zsL (zsI (zsL (zsI (zsI w 44 4 (nI (tBeg T n p))) 44 5 (nI (tBeg T n p))) 44 7 0) 44 8 0) 44 7 (kM T (tBeg T n p) (E - tBeg T n p))) 44 4 (nI E)) 44 6 (if E - tBeg T n p ≤ 8 then 1 else 4)) ∧ mS (zsI (zsI (zsL (zsI (zsL (zsI (zsI w 44 4 (nI (tBeg T n p))) 44 5 (nI (tBeg T n p))) 44 7 0) 44 8 0) 44 7 (kM T (tBeg T n p) (E - tBeg T n p))) 44 4 (nI E)) 44 6 (if E - tBeg T n p ≤ 8 then 1 else 4)) T n p := by
  have hd : ¬ isDg (T (tBeg T n p)) = true := fun z => dg_lt z hl
  have e1 : tEnd T n p = E := by unfold tEnd; rw [if_pos h, if_neg hd, if_pos hl, hE]
  have e2 : E - tBeg T n p = tLen T n p := by unfold tLen; rw [e1]
  refine ⟨mF_t mx_V (mF_t (mF_L _) (mF_t (mF_I _ (by decide)) (mF_I _ (by decide)))), by rw [e1]; rfl, rfl, ?_, ?_, ?_, hp⟩
  · have eM : tM T n p = if tLen T n p ≤ 8 then 1 else 4 := by unfold tM; rw [if_pos h, if_pos hl]
    rw [eM, ← e2]; rfl
  · have eW : tWd T n p = kM T (tBeg T n p) (tLen T n p) := by unfold tWd; rw [if_pos ⟨h, hl⟩]
    rw [eW, ← e2]; rfl
  · have eT : tTo T n p = 0 := by unfold tTo; rw [if_neg (fun z => z.2.1 hl)]
    rw [eT]; rfl
theorem mx_d {w : zW} {T : Nat → Int32} {n p E : Nat} (hp : p ≤ n) (h : tBeg T n p < n) (hd : isDg (T (tBeg T n p)) = true) (hE : rn isDg T n (tBeg T n p) = E) : mF w (zsI (zsI (zsI (zsI (zsL (zsI (zsI w 44 4 (nI (tBeg T n p))) 44 5 (nI (tBeg T n p))) 44 7 0) 44 8 0) 44 8 (nM T (tBeg T n p) (E - tBeg T n p))) 44 4 (nI E)) 44 6 (if E - tBeg T n p ≤ 4 then 2 else 4)) ∧ mS (zsI (zsI (zsI (zsI (zsL (zsI (zsI w 44 4 (nI (tBeg T n p))) 44 5 (nI (tBeg T n p))) 44 7 0) 44 8 0) 44 8 (nM T (tBeg T n p) (E - tBeg T n p))) 44 4 (nI E)) 44 6 (if E - tBeg T n p ≤ 4 then 2 else 4)) T n p := by
  have hl := dg_lt hd
  have e1 : tEnd T n p = E := by unfold tEnd; rw [if_pos h, if_pos hd, hE]
  have e2 : E - tBeg T n p = tLen T n p := by unfold tLen; rw [e1]
  refine ⟨mF_t mx_V (mF_t (mF_I _ (by decide)) (mF_t (mF_I _ (by decide)) (mF_I _ (by decide)))), by rw [e1]; rfl, rfl, ?_, ?_, ?_, hp⟩
  · have eM : tM T n p = if tLen T n p ≤ 4 then 2 else 4 := by unfold tM; rw [if_pos h, if_neg hl, if_pos hd]
    rw [eM, ← e2]; rfl
  · have eW : tWd T n p = 0 := by unfold tWd; rw [if_neg (fun z => hl z.2)]
    rw [eW]; rfl
  · have eT : tTo T n p = nM T (tBeg T n p) (tLen T n p) := by unfold tTo; rw [if_pos ⟨h, hl, hd⟩]
    rw [eT, ← e2]; rfl
theorem mx_s {w : zW} {T : Nat → Int32} {n p : Nat} (hp : p ≤ n) (h : tBeg T n p < n) (hl : ¬ isLt (T (tBeg T n p)) = true) (hd : ¬ isDg (T (tBeg T n p)) = true) {x : Int32} (hx : x = if isSg (T (tBeg T n p)) = true then 3 else 4) : mF w (zsI (zsI (zsI (zsL (zsI (zsI w 44 4 (nI (tBeg T n p))) 44 5 (nI (tBeg T n p))) 44 7 0) 44 8 0) 44 4 (nI (tBeg T n p + 1))) 44 6 x) ∧ mS (zsI (zsI (zsI (zsL (zsI (zsI w 44 4 (nI (tBeg T n p))) 44 5 (nI (tBeg T n p))) 44 7 0) 44 8 0) 44 4 (nI (tBeg T n p + 1))) 44 6 x) T n p := by
  have e1 : tEnd T n p = tBeg T n p + 1 := by unfold tEnd; rw [if_pos h, if_neg hd, if_neg hl]
  refine ⟨mF_t mx_V (mF_t (mF_I _ (by decide)) (mF_I _ (by decide))), by rw [e1]; rfl, rfl, ?_, ?_, ?_, hp⟩
  · unfold tM; rw [if_pos h, if_neg hl, if_neg hd, ← hx]; rfl
  · unfold tWd; rw [if_neg (fun z => hl z.2)]; rfl
  · unfold tTo; rw [if_neg (fun z => hd z.2.2)]; rfl
theorem sg_m : ∀ m : Fin 127, isSg (nI m) = true ↔ ((¬ nI m < 40 ∧ nI m ≤ 43) ∨ nI m = 45 ∨ (¬ nI m < 59 ∧ ¬ 61 < nI m)) := by decide +kernel
theorem sg_v {c : Int32} (h : tok c = true) : isSg c = true ↔ ((¬ c < 40 ∧ c ≤ 43) ∨ c = 45 ∨ (¬ c < 59 ∧ ¬ 61 < c)) := by
  obtain ⟨m, h1, rfl⟩ := tok_n h
  exact sg_m ⟨m, h1⟩
set_option maxRecDepth 100000 in
set_option maxHeartbeats 4000000 in
theorem c_Mod_nextToken {w : zW} {n : Nat} {T : Nat → Int32} (hk : mK w n T) {p : Nat} (hp : p ≤ n) (hpl : zI w 44 4 = nI p) (d : Nat) (hd : 1 ≤ d) : zS 0 0 d m_Mod_nextToken (fun rv w1 => rv = none ∧ mF w w1 ∧ mS w1 T n p) 0 [(0, .ref 44)] [] w := by
  have hn1 := hk.2.2.1
  have hB0 := tBeg_le (T := T) hp
  have h0 := l_Mod_blanks hk (P := fun rv w1 => rv = none ∧ mF w w1 ∧ mS w1 T n p) d n p hp (by omega)
  rw [zsI_same hpl] at h0
  refine h0 ?_
  show zS _ _ _ _ _ _ _ _ (zsI w 44 4 (nI (tBeg T n p)))
  refine z_aload_n (pc := 52) (i := 0) (j := 0) rfl rfl rfl ?_
  refine z_aload_n (pc := 53) (i := 0) (j := 0) rfl rfl rfl ?_
  refine z_getI (pc := 54) rfl fl_Mod_112 hk.1.1 rfl ?_
  refine z_eqi (y := nI (tBeg T n p)) rfl ?_
  refine z_putI (pc := 57) rfl fl_Mod_115 hk.1.1 rfl  ?_
  refine z_aload_n (pc := 60) (i := 0) (j := 0) rfl rfl rfl ?_
  refine z_lconst (pc := 61) (v := 0) rfl (by decide) ?_
  refine z_putL (pc := 62) rfl fl_Mod_118 hk.1.1 rfl  ?_
  refine z_aload_n (pc := 65) (i := 0) (j := 0) rfl rfl rfl ?_
  refine z_iconst (pc := 66) (v := 0) rfl (by decide) ?_
  refine z_putI (pc := 67) rfl fl_Mod_122 hk.1.1 rfl  ?_
  refine z_aload_n (pc := 70) (i := 0) (j := 0) rfl rfl rfl ?_
  refine z_getI (pc := 71) rfl fl_Mod_112 hk.1.1 rfl ?_
  refine z_eqi (y := nI (tBeg T n p)) rfl ?_
  refine z_aload_n (pc := 74) (i := 0) (j := 0) rfl rfl rfl ?_
  refine z_getI (pc := 75) rfl fl_Mod_109 hk.1.1 rfl ?_
  refine z_eqi (y := nI n) hk.2.1 ?_
  refine z_icmp_ne (pc := 78) (tgt := 87) rfl (by decide) (fun h78 => ?_) (fun h78 => ?_)
  · have hB : tBeg T n p < n := Nat.lt_of_le_of_ne hB0 (fun z => h78 (by rw [z]))
    refine z_aload_n (pc := 87) (i := 0) (j := 0) rfl rfl rfl ?_
    refine z_getR (pc := 88) (x := 45) rfl fl_Mod_7 hk.1.1 rfl (mr_45 hk.1) ?_
    refine z_aload_n (pc := 91) (i := 0) (j := 0) rfl rfl rfl ?_
    refine z_getI (pc := 92) rfl fl_Mod_112 hk.1.1 rfl ?_
    refine z_eqi (y := nI (tBeg T n p)) rfl ?_
    refine z_iald (pc := 95) rfl (mk_45 hk.1) (vp_in_nI (n := tBeg T n p) (N := 1000) (by omega) (by decide)) ?_
    refine z_eqi (y := T (tBeg T n p)) (by rw [nI_clamp (by omega)]; exact congrFun hk.2.2.2.1 _) ?_
    refine z_istore_n (pc := 96) (i := 1) (ls' := [(0, .ref 44), (1, .int (T (tBeg T n p)))]) rfl rfl (by decide) rfl ?_
    refine z_iload_n (pc := 97) (i := 1) (j := 1) rfl rfl rfl ?_
    refine z_bipush (pc := 98) (v := 97) rfl (by decide) ?_
    refine z_icmp_lt (pc := 100) (tgt := 212) rfl (by decide) (fun h100 => ?_) (fun h100 => ?_)
    · refine z_iload_n (pc := 212) (i := 1) (j := 1) rfl rfl rfl ?_
      refine z_bipush (pc := 213) (v := 48) rfl (by decide) ?_
      refine z_icmp_lt (pc := 215) (tgt := 322) rfl (by decide) (fun h215 => ?_) (fun h215 => ?_)
      · refine z_aload_n (pc := 322) (i := 0) (j := 0) rfl rfl rfl ?_
        refine z_dup (pc := 323) rfl rfl ?_
        refine z_getI (pc := 324) rfl fl_Mod_112 hk.1.1 rfl ?_
        refine z_eqi (y := nI (tBeg T n p)) rfl ?_
        refine z_iconst (pc := 327) (v := 1) rfl (by decide) ?_
        refine z_iadd (pc := 328) rfl ?_
        refine z_eqi (y := nI (tBeg T n p + 1)) (nI_1 _) ?_
        refine z_putI (pc := 329) rfl fl_Mod_112 hk.1.1 rfl  ?_
        refine z_aload_n (pc := 332) (i := 0) (j := 0) rfl rfl rfl ?_
        refine z_iload_n (pc := 333) (i := 1) (j := 1) rfl rfl rfl ?_
        refine z_bipush (pc := 334) (v := 40) rfl (by decide) ?_
        refine z_icmp_lt (pc := 336) (tgt := 345) rfl (by decide) (fun h336 => ?_) (fun h336 => ?_)
        · refine z_iload_n (pc := 345) (i := 1) (j := 1) rfl rfl rfl ?_
          refine z_bipush (pc := 346) (v := 45) rfl (by decide) ?_
          refine z_icmp_eq (pc := 348) (tgt := 363) rfl (by decide) (fun h348 => ?_) (fun h348 => ?_)
          · refine z_iconst (pc := 363) (v := 3) rfl (by decide) ?_
            refine z_goto (pc := 364) (tgt := 368) rfl (by decide) ?_
            refine z_putI (pc := 368) rfl fl_Mod_125 hk.1.1 rfl  ?_
            exact z_vret (pc := 371) rfl rfl ⟨rfl, mx_s hp hB (fun z => by unfold isLt at z; simp [h100] at z) (fun z => by unfold isDg at z; simp [h215] at z) (by rw [if_pos ((sg_v (hk.2.2.2.2 _ hB)).mpr (Or.inr (Or.inl h348)))])⟩
          · refine z_iload_n (pc := 351) (i := 1) (j := 1) rfl rfl rfl ?_
            refine z_bipush (pc := 352) (v := 59) rfl (by decide) ?_
            refine z_icmp_lt (pc := 354) (tgt := 367) rfl (by decide) (fun h354 => ?_) (fun h354 => ?_)
            · refine z_iconst (pc := 367) (v := 4) rfl (by decide) ?_
              refine z_putI (pc := 368) rfl fl_Mod_125 hk.1.1 rfl  ?_
              exact z_vret (pc := 371) rfl rfl ⟨rfl, mx_s hp hB (fun z => by unfold isLt at z; simp [h100] at z) (fun z => by unfold isDg at z; simp [h215] at z) (by rw [if_neg (fun z => ((sg_v (hk.2.2.2.2 _ hB)).mp z).elim (fun z => z.1 h336) (fun z => z.elim h348 (fun z => z.1 h354)))])⟩
            · refine z_iload_n (pc := 357) (i := 1) (j := 1) rfl rfl rfl ?_
              refine z_bipush (pc := 358) (v := 61) rfl (by decide) ?_
              refine z_icmp_gt (pc := 360) (tgt := 367) rfl (by decide) (fun h360 => ?_) (fun h360 => ?_)
              · refine z_iconst (pc := 367) (v := 4) rfl (by decide) ?_
                refine z_putI (pc := 368) rfl fl_Mod_125 hk.1.1 rfl  ?_
                exact z_vret (pc := 371) rfl rfl ⟨rfl, mx_s hp hB (fun z => by unfold isLt at z; simp [h100] at z) (fun z => by unfold isDg at z; simp [h215] at z) (by rw [if_neg (fun z => ((sg_v (hk.2.2.2.2 _ hB)).mp z).elim (fun z => z.1 h336) (fun z => z.elim h348 (fun z => z.2 h360)))])⟩
              · refine z_iconst (pc := 363) (v := 3) rfl (by decide) ?_
                refine z_goto (pc := 364) (tgt := 368) rfl (by decide) ?_
                refine z_putI (pc := 368) rfl fl_Mod_125 hk.1.1 rfl  ?_
                exact z_vret (pc := 371) rfl rfl ⟨rfl, mx_s hp hB (fun z => by unfold isLt at z; simp [h100] at z) (fun z => by unfold isDg at z; simp [h215] at z) (by rw [if_pos ((sg_v (hk.2.2.2.2 _ hB)).mpr (Or.inr (Or.inr ⟨h354, h360⟩)))])⟩
        · refine z_iload_n (pc := 339) (i := 1) (j := 1) rfl rfl rfl ?_
          refine z_bipush (pc := 340) (v := 43) rfl (by decide) ?_
          refine z_icmp_le (pc := 342) (tgt := 363) rfl (by decide) (fun h342 => ?_) (fun h342 => ?_)
          · refine z_iconst (pc := 363) (v := 3) rfl (by decide) ?_
            refine z_goto (pc := 364) (tgt := 368) rfl (by decide) ?_
            refine z_putI (pc := 368) rfl fl_Mod_125 hk.1.1 rfl  ?_
            exact z_vret (pc := 371) rfl rfl ⟨rfl, mx_s hp hB (fun z => by unfold isLt at z; simp [h100] at z) (fun z => by unfold isDg at z; simp [h215] at z) (by rw [if_pos ((sg_v (hk.2.2.2.2 _ hB)).mpr (Or.inl ⟨h336, h342⟩))])⟩
          · refine z_iload_n (pc := 345) (i := 1) (j := 1) rfl rfl rfl ?_
            refine z_bipush (pc := 346) (v := 45) rfl (by decide) ?_
            refine z_icmp_eq (pc := 348) (tgt := 363) rfl (by decide) (fun h348 => ?_) (fun h348 => ?_)
            · refine z_iconst (pc := 363) (v := 3) rfl (by decide) ?_
              refine z_goto (pc := 364) (tgt := 368) rfl (by decide) ?_
              refine z_putI (pc := 368) rfl fl_Mod_125 hk.1.1 rfl  ?_
              exact z_vret (pc := 371) rfl rfl ⟨rfl, mx_s hp hB (fun z => by unfold isLt at z; simp [h100] at z) (fun z => by unfold isDg at z; simp [h215] at z) (by rw [if_pos ((sg_v (hk.2.2.2.2 _ hB)).mpr (Or.inr (Or.inl h348)))])⟩
            · refine z_iload_n (pc := 351) (i := 1) (j := 1) rfl rfl rfl ?_
              refine z_bipush (pc := 352) (v := 59) rfl (by decide) ?_
              refine z_icmp_lt (pc := 354) (tgt := 367) rfl (by decide) (fun h354 => ?_) (fun h354 => ?_)
              · refine z_iconst (pc := 367) (v := 4) rfl (by decide) ?_
                refine z_putI (pc := 368) rfl fl_Mod_125 hk.1.1 rfl  ?_
                exact z_vret (pc := 371) rfl rfl ⟨rfl, mx_s hp hB (fun z => by unfold isLt at z; simp [h100] at z) (fun z => by unfold isDg at z; simp [h215] at z) (by rw [if_neg (fun z => ((sg_v (hk.2.2.2.2 _ hB)).mp z).elim (fun z => h342 z.2) (fun z => z.elim h348 (fun z => z.1 h354)))])⟩
              · refine z_iload_n (pc := 357) (i := 1) (j := 1) rfl rfl rfl ?_
                refine z_bipush (pc := 358) (v := 61) rfl (by decide) ?_
                refine z_icmp_gt (pc := 360) (tgt := 367) rfl (by decide) (fun h360 => ?_) (fun h360 => ?_)
                · refine z_iconst (pc := 367) (v := 4) rfl (by decide) ?_
                  refine z_putI (pc := 368) rfl fl_Mod_125 hk.1.1 rfl  ?_
                  exact z_vret (pc := 371) rfl rfl ⟨rfl, mx_s hp hB (fun z => by unfold isLt at z; simp [h100] at z) (fun z => by unfold isDg at z; simp [h215] at z) (by rw [if_neg (fun z => ((sg_v (hk.2.2.2.2 _ hB)).mp z).elim (fun z => h342 z.2) (fun z => z.elim h348 (fun z => z.2 h360)))])⟩
                · refine z_iconst (pc := 363) (v := 3) rfl (by decide) ?_
                  refine z_goto (pc := 364) (tgt := 368) rfl (by decide) ?_
                  refine z_putI (pc := 368) rfl fl_Mod_125 hk.1.1 rfl  ?_
                  exact z_vret (pc := 371) rfl rfl ⟨rfl, mx_s hp hB (fun z => by unfold isLt at z; simp [h100] at z) (fun z => by unfold isDg at z; simp [h215] at z) (by rw [if_pos ((sg_v (hk.2.2.2.2 _ hB)).mpr (Or.inr (Or.inr ⟨h354, h360⟩)))])⟩
      · refine z_iload_n (pc := 218) (i := 1) (j := 1) rfl rfl rfl ?_
        refine z_bipush (pc := 219) (v := 57) rfl (by decide) ?_
        refine z_icmp_gt (pc := 221) (tgt := 322) rfl (by decide) (fun h221 => ?_) (fun h221 => ?_)
        · refine z_aload_n (pc := 322) (i := 0) (j := 0) rfl rfl rfl ?_
          refine z_dup (pc := 323) rfl rfl ?_
          refine z_getI (pc := 324) rfl fl_Mod_112 hk.1.1 rfl ?_
          refine z_eqi (y := nI (tBeg T n p)) rfl ?_
          refine z_iconst (pc := 327) (v := 1) rfl (by decide) ?_
          refine z_iadd (pc := 328) rfl ?_
          refine z_eqi (y := nI (tBeg T n p + 1)) (nI_1 _) ?_
          refine z_putI (pc := 329) rfl fl_Mod_112 hk.1.1 rfl  ?_
          refine z_aload_n (pc := 332) (i := 0) (j := 0) rfl rfl rfl ?_
          refine z_iload_n (pc := 333) (i := 1) (j := 1) rfl rfl rfl ?_
          refine z_bipush (pc := 334) (v := 40) rfl (by decide) ?_
          refine z_icmp_lt (pc := 336) (tgt := 345) rfl (by decide) (fun h336 => ?_) (fun h336 => ?_)
          · refine z_iload_n (pc := 345) (i := 1) (j := 1) rfl rfl rfl ?_
            refine z_bipush (pc := 346) (v := 45) rfl (by decide) ?_
            refine z_icmp_eq (pc := 348) (tgt := 363) rfl (by decide) (fun h348 => ?_) (fun h348 => ?_)
            · refine z_iconst (pc := 363) (v := 3) rfl (by decide) ?_
              refine z_goto (pc := 364) (tgt := 368) rfl (by decide) ?_
              refine z_putI (pc := 368) rfl fl_Mod_125 hk.1.1 rfl  ?_
              exact z_vret (pc := 371) rfl rfl ⟨rfl, mx_s hp hB (fun z => by unfold isLt at z; simp [h100] at z) (fun z => by unfold isDg at z; simp [h221] at z) (by rw [if_pos ((sg_v (hk.2.2.2.2 _ hB)).mpr (Or.inr (Or.inl h348)))])⟩
            · refine z_iload_n (pc := 351) (i := 1) (j := 1) rfl rfl rfl ?_
              refine z_bipush (pc := 352) (v := 59) rfl (by decide) ?_
              refine z_icmp_lt (pc := 354) (tgt := 367) rfl (by decide) (fun h354 => ?_) (fun h354 => ?_)
              · refine z_iconst (pc := 367) (v := 4) rfl (by decide) ?_
                refine z_putI (pc := 368) rfl fl_Mod_125 hk.1.1 rfl  ?_
                exact z_vret (pc := 371) rfl rfl ⟨rfl, mx_s hp hB (fun z => by unfold isLt at z; simp [h100] at z) (fun z => by unfold isDg at z; simp [h221] at z) (by rw [if_neg (fun z => ((sg_v (hk.2.2.2.2 _ hB)).mp z).elim (fun z => z.1 h336) (fun z => z.elim h348 (fun z => z.1 h354)))])⟩
              · refine z_iload_n (pc := 357) (i := 1) (j := 1) rfl rfl rfl ?_
                refine z_bipush (pc := 358) (v := 61) rfl (by decide) ?_
                refine z_icmp_gt (pc := 360) (tgt := 367) rfl (by decide) (fun h360 => ?_) (fun h360 => ?_)
                · refine z_iconst (pc := 367) (v := 4) rfl (by decide) ?_
                  refine z_putI (pc := 368) rfl fl_Mod_125 hk.1.1 rfl  ?_
                  exact z_vret (pc := 371) rfl rfl ⟨rfl, mx_s hp hB (fun z => by unfold isLt at z; simp [h100] at z) (fun z => by unfold isDg at z; simp [h221] at z) (by rw [if_neg (fun z => ((sg_v (hk.2.2.2.2 _ hB)).mp z).elim (fun z => z.1 h336) (fun z => z.elim h348 (fun z => z.2 h360)))])⟩
                · refine z_iconst (pc := 363) (v := 3) rfl (by decide) ?_
                  refine z_goto (pc := 364) (tgt := 368) rfl (by decide) ?_
                  refine z_putI (pc := 368) rfl fl_Mod_125 hk.1.1 rfl  ?_
                  exact z_vret (pc := 371) rfl rfl ⟨rfl, mx_s hp hB (fun z => by unfold isLt at z; simp [h100] at z) (fun z => by unfold isDg at z; simp [h221] at z) (by rw [if_pos ((sg_v (hk.2.2.2.2 _ hB)).mpr (Or.inr (Or.inr ⟨h354, h360⟩)))])⟩
          · refine z_iload_n (pc := 339) (i := 1) (j := 1) rfl rfl rfl ?_
            refine z_bipush (pc := 340) (v := 43) rfl (by decide) ?_
            refine z_icmp_le (pc := 342) (tgt := 363) rfl (by decide) (fun h342 => ?_) (fun h342 => ?_)
            · refine z_iconst (pc := 363) (v := 3) rfl (by decide) ?_
              refine z_goto (pc := 364) (tgt := 368) rfl (by decide) ?_
              refine z_putI (pc := 368) rfl fl_Mod_125 hk.1.1 rfl  ?_
              exact z_vret (pc := 371) rfl rfl ⟨rfl, mx_s hp hB (fun z => by unfold isLt at z; simp [h100] at z) (fun z => by unfold isDg at z; simp [h221] at z) (by rw [if_pos ((sg_v (hk.2.2.2.2 _ hB)).mpr (Or.inl ⟨h336, h342⟩))])⟩
            · refine z_iload_n (pc := 345) (i := 1) (j := 1) rfl rfl rfl ?_
              refine z_bipush (pc := 346) (v := 45) rfl (by decide) ?_
              refine z_icmp_eq (pc := 348) (tgt := 363) rfl (by decide) (fun h348 => ?_) (fun h348 => ?_)
              · refine z_iconst (pc := 363) (v := 3) rfl (by decide) ?_
                refine z_goto (pc := 364) (tgt := 368) rfl (by decide) ?_
                refine z_putI (pc := 368) rfl fl_Mod_125 hk.1.1 rfl  ?_
                exact z_vret (pc := 371) rfl rfl ⟨rfl, mx_s hp hB (fun z => by unfold isLt at z; simp [h100] at z) (fun z => by unfold isDg at z; simp [h221] at z) (by rw [if_pos ((sg_v (hk.2.2.2.2 _ hB)).mpr (Or.inr (Or.inl h348)))])⟩
              · refine z_iload_n (pc := 351) (i := 1) (j := 1) rfl rfl rfl ?_
                refine z_bipush (pc := 352) (v := 59) rfl (by decide) ?_
                refine z_icmp_lt (pc := 354) (tgt := 367) rfl (by decide) (fun h354 => ?_) (fun h354 => ?_)
                · refine z_iconst (pc := 367) (v := 4) rfl (by decide) ?_
                  refine z_putI (pc := 368) rfl fl_Mod_125 hk.1.1 rfl  ?_
                  exact z_vret (pc := 371) rfl rfl ⟨rfl, mx_s hp hB (fun z => by unfold isLt at z; simp [h100] at z) (fun z => by unfold isDg at z; simp [h221] at z) (by rw [if_neg (fun z => ((sg_v (hk.2.2.2.2 _ hB)).mp z).elim (fun z => h342 z.2) (fun z => z.elim h348 (fun z => z.1 h354)))])⟩
                · refine z_iload_n (pc := 357) (i := 1) (j := 1) rfl rfl rfl ?_
                  refine z_bipush (pc := 358) (v := 61) rfl (by decide) ?_
                  refine z_icmp_gt (pc := 360) (tgt := 367) rfl (by decide) (fun h360 => ?_) (fun h360 => ?_)
                  · refine z_iconst (pc := 367) (v := 4) rfl (by decide) ?_
                    refine z_putI (pc := 368) rfl fl_Mod_125 hk.1.1 rfl  ?_
                    exact z_vret (pc := 371) rfl rfl ⟨rfl, mx_s hp hB (fun z => by unfold isLt at z; simp [h100] at z) (fun z => by unfold isDg at z; simp [h221] at z) (by rw [if_neg (fun z => ((sg_v (hk.2.2.2.2 _ hB)).mp z).elim (fun z => h342 z.2) (fun z => z.elim h348 (fun z => z.2 h360)))])⟩
                  · refine z_iconst (pc := 363) (v := 3) rfl (by decide) ?_
                    refine z_goto (pc := 364) (tgt := 368) rfl (by decide) ?_
                    refine z_putI (pc := 368) rfl fl_Mod_125 hk.1.1 rfl  ?_
                    exact z_vret (pc := 371) rfl rfl ⟨rfl, mx_s hp hB (fun z => by unfold isLt at z; simp [h100] at z) (fun z => by unfold isDg at z; simp [h221] at z) (by rw [if_pos ((sg_v (hk.2.2.2.2 _ hB)).mpr (Or.inr (Or.inr ⟨h354, h360⟩)))])⟩
        · have hD : isDg (T (tBeg T n p)) = true := by unfold isDg; simp [h215, h221]
          rw [show (zsI (zsL (zsI (zsI w 44 4 (nI (tBeg T n p))) 44 5 (nI (tBeg T n p))) 44 7 0) 44 8 0 : zW) = zsI (zsI (zsI (zsL (zsI (zsI w 44 4 (nI (tBeg T n p))) 44 5 (nI (tBeg T n p))) 44 7 0) 44 8 0) 44 8 (nM T (tBeg T n p) 0)) 44 4 (nI (tBeg T n p + 0)) from by rw [zsI_same (w := zsI (zsL (zsI (zsI w 44 4 (nI (tBeg T n p))) 44 5 (nI (tBeg T n p))) 44 7 0) 44 8 0) (o := 44) (k := 8) (v := nM T (tBeg T n p) 0) rfl]; exact (zsI_same (w := zsI (zsL (zsI (zsI w 44 4 (nI (tBeg T n p))) 44 5 (nI (tBeg T n p))) 44 7 0) 44 8 0) (o := 44) (k := 4) (v := nI (tBeg T n p + 0)) rfl).symm]
          refine l_Mod_digits (mK_I (mK_L (mK_I (mK_I hk (by decide) _) (by decide) _) _ _) (by decide) _) (a := tBeg T n p) rfl _ d hd n 0 (by omega) (by omega) ?_
          have hge := rn_ge isDg T n (tBeg T n p)
          have hle := rn_le (b := isDg) (T := T) hB0
          rw [show tBeg T n p + 0 = tBeg T n p from rfl, show tBeg T n p + (rn isDg T n (tBeg T n p) - tBeg T n p) = rn isDg T n (tBeg T n p) by omega]
          generalize hE : rn isDg T n (tBeg T n p) = E at hge hle ⊢
          refine z_aload_n (pc := 299) (i := 0) (j := 0) rfl rfl rfl ?_
          refine z_aload_n (pc := 300) (i := 0) (j := 0) rfl rfl rfl ?_
          refine z_getI (pc := 301) rfl fl_Mod_112 hk.1.1 rfl ?_
          refine z_eqi (y := nI E) rfl ?_
          refine z_aload_n (pc := 304) (i := 0) (j := 0) rfl rfl rfl ?_
          refine z_getI (pc := 305) rfl fl_Mod_115 hk.1.1 rfl ?_
          refine z_eqi (y := nI (tBeg T n p)) rfl ?_
          refine z_isub (pc := 308) rfl ?_
          refine z_eqi (y := nI (E - tBeg T n p)) (pk_sub hge) ?_
          refine z_iconst (pc := 309) (v := 4) rfl (by decide) ?_
          refine z_icmp_le (pc := 310) (tgt := 317) rfl (by decide) (fun h310 => ?_) (fun h310 => ?_)
          · refine z_iconst (pc := 317) (v := 2) rfl (by decide) ?_
            refine z_putI (pc := 318) rfl fl_Mod_125 hk.1.1 rfl  ?_
            exact z_vret (pc := 321) rfl rfl ⟨rfl, by have z : E - tBeg T n p ≤ 4 := (nI_leI (b := 4) (by omega) (by decide)).mp h310; have k := mx_d hp hB hD hE (w := w); rw [if_pos z] at k; exact k⟩
          · refine z_iconst (pc := 313) (v := 4) rfl (by decide) ?_
            refine z_goto (pc := 314) (tgt := 318) rfl (by decide) ?_
            refine z_putI (pc := 318) rfl fl_Mod_125 hk.1.1 rfl  ?_
            exact z_vret (pc := 321) rfl rfl ⟨rfl, by have z : ¬ E - tBeg T n p ≤ 4 := fun z => h310 ((nI_leI (b := 4) (by omega) (by decide)).mpr z); have k := mx_d hp hB hD hE (w := w); rw [if_neg z] at k; exact k⟩
    · refine z_iload_n (pc := 103) (i := 1) (j := 1) rfl rfl rfl ?_
      refine z_bipush (pc := 104) (v := 122) rfl (by decide) ?_
      refine z_icmp_gt (pc := 106) (tgt := 212) rfl (by decide) (fun h106 => ?_) (fun h106 => ?_)
      · refine z_iload_n (pc := 212) (i := 1) (j := 1) rfl rfl rfl ?_
        refine z_bipush (pc := 213) (v := 48) rfl (by decide) ?_
        refine z_icmp_lt (pc := 215) (tgt := 322) rfl (by decide) (fun h215 => ?_) (fun h215 => ?_)
        · refine z_aload_n (pc := 322) (i := 0) (j := 0) rfl rfl rfl ?_
          refine z_dup (pc := 323) rfl rfl ?_
          refine z_getI (pc := 324) rfl fl_Mod_112 hk.1.1 rfl ?_
          refine z_eqi (y := nI (tBeg T n p)) rfl ?_
          refine z_iconst (pc := 327) (v := 1) rfl (by decide) ?_
          refine z_iadd (pc := 328) rfl ?_
          refine z_eqi (y := nI (tBeg T n p + 1)) (nI_1 _) ?_
          refine z_putI (pc := 329) rfl fl_Mod_112 hk.1.1 rfl  ?_
          refine z_aload_n (pc := 332) (i := 0) (j := 0) rfl rfl rfl ?_
          refine z_iload_n (pc := 333) (i := 1) (j := 1) rfl rfl rfl ?_
          refine z_bipush (pc := 334) (v := 40) rfl (by decide) ?_
          refine z_icmp_lt (pc := 336) (tgt := 345) rfl (by decide) (fun h336 => ?_) (fun h336 => ?_)
          · refine z_iload_n (pc := 345) (i := 1) (j := 1) rfl rfl rfl ?_
            refine z_bipush (pc := 346) (v := 45) rfl (by decide) ?_
            refine z_icmp_eq (pc := 348) (tgt := 363) rfl (by decide) (fun h348 => ?_) (fun h348 => ?_)
            · refine z_iconst (pc := 363) (v := 3) rfl (by decide) ?_
              refine z_goto (pc := 364) (tgt := 368) rfl (by decide) ?_
              refine z_putI (pc := 368) rfl fl_Mod_125 hk.1.1 rfl  ?_
              exact z_vret (pc := 371) rfl rfl ⟨rfl, mx_s hp hB (fun z => by unfold isLt at z; simp [h106] at z) (fun z => by unfold isDg at z; simp [h215] at z) (by rw [if_pos ((sg_v (hk.2.2.2.2 _ hB)).mpr (Or.inr (Or.inl h348)))])⟩
            · refine z_iload_n (pc := 351) (i := 1) (j := 1) rfl rfl rfl ?_
              refine z_bipush (pc := 352) (v := 59) rfl (by decide) ?_
              refine z_icmp_lt (pc := 354) (tgt := 367) rfl (by decide) (fun h354 => ?_) (fun h354 => ?_)
              · refine z_iconst (pc := 367) (v := 4) rfl (by decide) ?_
                refine z_putI (pc := 368) rfl fl_Mod_125 hk.1.1 rfl  ?_
                exact z_vret (pc := 371) rfl rfl ⟨rfl, mx_s hp hB (fun z => by unfold isLt at z; simp [h106] at z) (fun z => by unfold isDg at z; simp [h215] at z) (by rw [if_neg (fun z => ((sg_v (hk.2.2.2.2 _ hB)).mp z).elim (fun z => z.1 h336) (fun z => z.elim h348 (fun z => z.1 h354)))])⟩
              · refine z_iload_n (pc := 357) (i := 1) (j := 1) rfl rfl rfl ?_
                refine z_bipush (pc := 358) (v := 61) rfl (by decide) ?_
                refine z_icmp_gt (pc := 360) (tgt := 367) rfl (by decide) (fun h360 => ?_) (fun h360 => ?_)
                · refine z_iconst (pc := 367) (v := 4) rfl (by decide) ?_
                  refine z_putI (pc := 368) rfl fl_Mod_125 hk.1.1 rfl  ?_
                  exact z_vret (pc := 371) rfl rfl ⟨rfl, mx_s hp hB (fun z => by unfold isLt at z; simp [h106] at z) (fun z => by unfold isDg at z; simp [h215] at z) (by rw [if_neg (fun z => ((sg_v (hk.2.2.2.2 _ hB)).mp z).elim (fun z => z.1 h336) (fun z => z.elim h348 (fun z => z.2 h360)))])⟩
                · refine z_iconst (pc := 363) (v := 3) rfl (by decide) ?_
                  refine z_goto (pc := 364) (tgt := 368) rfl (by decide) ?_
                  refine z_putI (pc := 368) rfl fl_Mod_125 hk.1.1 rfl  ?_
                  exact z_vret (pc := 371) rfl rfl ⟨rfl, mx_s hp hB (fun z => by unfold isLt at z; simp [h106] at z) (fun z => by unfold isDg at z; simp [h215] at z) (by rw [if_pos ((sg_v (hk.2.2.2.2 _ hB)).mpr (Or.inr (Or.inr ⟨h354, h360⟩)))])⟩
          · refine z_iload_n (pc := 339) (i := 1) (j := 1) rfl rfl rfl ?_
            refine z_bipush (pc := 340) (v := 43) rfl (by decide) ?_
            refine z_icmp_le (pc := 342) (tgt := 363) rfl (by decide) (fun h342 => ?_) (fun h342 => ?_)
            · refine z_iconst (pc := 363) (v := 3) rfl (by decide) ?_
              refine z_goto (pc := 364) (tgt := 368) rfl (by decide) ?_
              refine z_putI (pc := 368) rfl fl_Mod_125 hk.1.1 rfl  ?_
              exact z_vret (pc := 371) rfl rfl ⟨rfl, mx_s hp hB (fun z => by unfold isLt at z; simp [h106] at z) (fun z => by unfold isDg at z; simp [h215] at z) (by rw [if_pos ((sg_v (hk.2.2.2.2 _ hB)).mpr (Or.inl ⟨h336, h342⟩))])⟩
            · refine z_iload_n (pc := 345) (i := 1) (j := 1) rfl rfl rfl ?_
              refine z_bipush (pc := 346) (v := 45) rfl (by decide) ?_
              refine z_icmp_eq (pc := 348) (tgt := 363) rfl (by decide) (fun h348 => ?_) (fun h348 => ?_)
              · refine z_iconst (pc := 363) (v := 3) rfl (by decide) ?_
                refine z_goto (pc := 364) (tgt := 368) rfl (by decide) ?_
                refine z_putI (pc := 368) rfl fl_Mod_125 hk.1.1 rfl  ?_
                exact z_vret (pc := 371) rfl rfl ⟨rfl, mx_s hp hB (fun z => by unfold isLt at z; simp [h106] at z) (fun z => by unfold isDg at z; simp [h215] at z) (by rw [if_pos ((sg_v (hk.2.2.2.2 _ hB)).mpr (Or.inr (Or.inl h348)))])⟩
              · refine z_iload_n (pc := 351) (i := 1) (j := 1) rfl rfl rfl ?_
                refine z_bipush (pc := 352) (v := 59) rfl (by decide) ?_
                refine z_icmp_lt (pc := 354) (tgt := 367) rfl (by decide) (fun h354 => ?_) (fun h354 => ?_)
                · refine z_iconst (pc := 367) (v := 4) rfl (by decide) ?_
                  refine z_putI (pc := 368) rfl fl_Mod_125 hk.1.1 rfl  ?_
                  exact z_vret (pc := 371) rfl rfl ⟨rfl, mx_s hp hB (fun z => by unfold isLt at z; simp [h106] at z) (fun z => by unfold isDg at z; simp [h215] at z) (by rw [if_neg (fun z => ((sg_v (hk.2.2.2.2 _ hB)).mp z).elim (fun z => h342 z.2) (fun z => z.elim h348 (fun z => z.1 h354)))])⟩
                · refine z_iload_n (pc := 357) (i := 1) (j := 1) rfl rfl rfl ?_
                  refine z_bipush (pc := 358) (v := 61) rfl (by decide) ?_
                  refine z_icmp_gt (pc := 360) (tgt := 367) rfl (by decide) (fun h360 => ?_) (fun h360 => ?_)
                  · refine z_iconst (pc := 367) (v := 4) rfl (by decide) ?_
                    refine z_putI (pc := 368) rfl fl_Mod_125 hk.1.1 rfl  ?_
                    exact z_vret (pc := 371) rfl rfl ⟨rfl, mx_s hp hB (fun z => by unfold isLt at z; simp [h106] at z) (fun z => by unfold isDg at z; simp [h215] at z) (by rw [if_neg (fun z => ((sg_v (hk.2.2.2.2 _ hB)).mp z).elim (fun z => h342 z.2) (fun z => z.elim h348 (fun z => z.2 h360)))])⟩
                  · refine z_iconst (pc := 363) (v := 3) rfl (by decide) ?_
                    refine z_goto (pc := 364) (tgt := 368) rfl (by decide) ?_
                    refine z_putI (pc := 368) rfl fl_Mod_125 hk.1.1 rfl  ?_
                    exact z_vret (pc := 371) rfl rfl ⟨rfl, mx_s hp hB (fun z => by unfold isLt at z; simp [h106] at z) (fun z => by unfold isDg at z; simp [h215] at z) (by rw [if_pos ((sg_v (hk.2.2.2.2 _ hB)).mpr (Or.inr (Or.inr ⟨h354, h360⟩)))])⟩
        · refine z_iload_n (pc := 218) (i := 1) (j := 1) rfl rfl rfl ?_
          refine z_bipush (pc := 219) (v := 57) rfl (by decide) ?_
          refine z_icmp_gt (pc := 221) (tgt := 322) rfl (by decide) (fun h221 => ?_) (fun h221 => ?_)
          · refine z_aload_n (pc := 322) (i := 0) (j := 0) rfl rfl rfl ?_
            refine z_dup (pc := 323) rfl rfl ?_
            refine z_getI (pc := 324) rfl fl_Mod_112 hk.1.1 rfl ?_
            refine z_eqi (y := nI (tBeg T n p)) rfl ?_
            refine z_iconst (pc := 327) (v := 1) rfl (by decide) ?_
            refine z_iadd (pc := 328) rfl ?_
            refine z_eqi (y := nI (tBeg T n p + 1)) (nI_1 _) ?_
            refine z_putI (pc := 329) rfl fl_Mod_112 hk.1.1 rfl  ?_
            refine z_aload_n (pc := 332) (i := 0) (j := 0) rfl rfl rfl ?_
            refine z_iload_n (pc := 333) (i := 1) (j := 1) rfl rfl rfl ?_
            refine z_bipush (pc := 334) (v := 40) rfl (by decide) ?_
            refine z_icmp_lt (pc := 336) (tgt := 345) rfl (by decide) (fun h336 => ?_) (fun h336 => ?_)
            · refine z_iload_n (pc := 345) (i := 1) (j := 1) rfl rfl rfl ?_
              refine z_bipush (pc := 346) (v := 45) rfl (by decide) ?_
              refine z_icmp_eq (pc := 348) (tgt := 363) rfl (by decide) (fun h348 => ?_) (fun h348 => ?_)
              · refine z_iconst (pc := 363) (v := 3) rfl (by decide) ?_
                refine z_goto (pc := 364) (tgt := 368) rfl (by decide) ?_
                refine z_putI (pc := 368) rfl fl_Mod_125 hk.1.1 rfl  ?_
                exact z_vret (pc := 371) rfl rfl ⟨rfl, mx_s hp hB (fun z => by unfold isLt at z; simp [h106] at z) (fun z => by unfold isDg at z; simp [h221] at z) (by rw [if_pos ((sg_v (hk.2.2.2.2 _ hB)).mpr (Or.inr (Or.inl h348)))])⟩
              · refine z_iload_n (pc := 351) (i := 1) (j := 1) rfl rfl rfl ?_
                refine z_bipush (pc := 352) (v := 59) rfl (by decide) ?_
                refine z_icmp_lt (pc := 354) (tgt := 367) rfl (by decide) (fun h354 => ?_) (fun h354 => ?_)
                · refine z_iconst (pc := 367) (v := 4) rfl (by decide) ?_
                  refine z_putI (pc := 368) rfl fl_Mod_125 hk.1.1 rfl  ?_
                  exact z_vret (pc := 371) rfl rfl ⟨rfl, mx_s hp hB (fun z => by unfold isLt at z; simp [h106] at z) (fun z => by unfold isDg at z; simp [h221] at z) (by rw [if_neg (fun z => ((sg_v (hk.2.2.2.2 _ hB)).mp z).elim (fun z => z.1 h336) (fun z => z.elim h348 (fun z => z.1 h354)))])⟩
                · refine z_iload_n (pc := 357) (i := 1) (j := 1) rfl rfl rfl ?_
                  refine z_bipush (pc := 358) (v := 61) rfl (by decide) ?_
                  refine z_icmp_gt (pc := 360) (tgt := 367) rfl (by decide) (fun h360 => ?_) (fun h360 => ?_)
                  · refine z_iconst (pc := 367) (v := 4) rfl (by decide) ?_
                    refine z_putI (pc := 368) rfl fl_Mod_125 hk.1.1 rfl  ?_
                    exact z_vret (pc := 371) rfl rfl ⟨rfl, mx_s hp hB (fun z => by unfold isLt at z; simp [h106] at z) (fun z => by unfold isDg at z; simp [h221] at z) (by rw [if_neg (fun z => ((sg_v (hk.2.2.2.2 _ hB)).mp z).elim (fun z => z.1 h336) (fun z => z.elim h348 (fun z => z.2 h360)))])⟩
                  · refine z_iconst (pc := 363) (v := 3) rfl (by decide) ?_
                    refine z_goto (pc := 364) (tgt := 368) rfl (by decide) ?_
                    refine z_putI (pc := 368) rfl fl_Mod_125 hk.1.1 rfl  ?_
                    exact z_vret (pc := 371) rfl rfl ⟨rfl, mx_s hp hB (fun z => by unfold isLt at z; simp [h106] at z) (fun z => by unfold isDg at z; simp [h221] at z) (by rw [if_pos ((sg_v (hk.2.2.2.2 _ hB)).mpr (Or.inr (Or.inr ⟨h354, h360⟩)))])⟩
            · refine z_iload_n (pc := 339) (i := 1) (j := 1) rfl rfl rfl ?_
              refine z_bipush (pc := 340) (v := 43) rfl (by decide) ?_
              refine z_icmp_le (pc := 342) (tgt := 363) rfl (by decide) (fun h342 => ?_) (fun h342 => ?_)
              · refine z_iconst (pc := 363) (v := 3) rfl (by decide) ?_
                refine z_goto (pc := 364) (tgt := 368) rfl (by decide) ?_
                refine z_putI (pc := 368) rfl fl_Mod_125 hk.1.1 rfl  ?_
                exact z_vret (pc := 371) rfl rfl ⟨rfl, mx_s hp hB (fun z => by unfold isLt at z; simp [h106] at z) (fun z => by unfold isDg at z; simp [h221] at z) (by rw [if_pos ((sg_v (hk.2.2.2.2 _ hB)).mpr (Or.inl ⟨h336, h342⟩))])⟩
              · refine z_iload_n (pc := 345) (i := 1) (j := 1) rfl rfl rfl ?_
                refine z_bipush (pc := 346) (v := 45) rfl (by decide) ?_
                refine z_icmp_eq (pc := 348) (tgt := 363) rfl (by decide) (fun h348 => ?_) (fun h348 => ?_)
                · refine z_iconst (pc := 363) (v := 3) rfl (by decide) ?_
                  refine z_goto (pc := 364) (tgt := 368) rfl (by decide) ?_
                  refine z_putI (pc := 368) rfl fl_Mod_125 hk.1.1 rfl  ?_
                  exact z_vret (pc := 371) rfl rfl ⟨rfl, mx_s hp hB (fun z => by unfold isLt at z; simp [h106] at z) (fun z => by unfold isDg at z; simp [h221] at z) (by rw [if_pos ((sg_v (hk.2.2.2.2 _ hB)).mpr (Or.inr (Or.inl h348)))])⟩
                · refine z_iload_n (pc := 351) (i := 1) (j := 1) rfl rfl rfl ?_
                  refine z_bipush (pc := 352) (v := 59) rfl (by decide) ?_
                  refine z_icmp_lt (pc := 354) (tgt := 367) rfl (by decide) (fun h354 => ?_) (fun h354 => ?_)
                  · refine z_iconst (pc := 367) (v := 4) rfl (by decide) ?_
                    refine z_putI (pc := 368) rfl fl_Mod_125 hk.1.1 rfl  ?_
                    exact z_vret (pc := 371) rfl rfl ⟨rfl, mx_s hp hB (fun z => by unfold isLt at z; simp [h106] at z) (fun z => by unfold isDg at z; simp [h221] at z) (by rw [if_neg (fun z => ((sg_v (hk.2.2.2.2 _ hB)).mp z).elim (fun z => h342 z.2) (fun z => z.elim h348 (fun z => z.1 h354)))])⟩
                  · refine z_iload_n (pc := 357) (i := 1) (j := 1) rfl rfl rfl ?_
                    refine z_bipush (pc := 358) (v := 61) rfl (by decide) ?_
                    refine z_icmp_gt (pc := 360) (tgt := 367) rfl (by decide) (fun h360 => ?_) (fun h360 => ?_)
                    · refine z_iconst (pc := 367) (v := 4) rfl (by decide) ?_
                      refine z_putI (pc := 368) rfl fl_Mod_125 hk.1.1 rfl  ?_
                      exact z_vret (pc := 371) rfl rfl ⟨rfl, mx_s hp hB (fun z => by unfold isLt at z; simp [h106] at z) (fun z => by unfold isDg at z; simp [h221] at z) (by rw [if_neg (fun z => ((sg_v (hk.2.2.2.2 _ hB)).mp z).elim (fun z => h342 z.2) (fun z => z.elim h348 (fun z => z.2 h360)))])⟩
                    · refine z_iconst (pc := 363) (v := 3) rfl (by decide) ?_
                      refine z_goto (pc := 364) (tgt := 368) rfl (by decide) ?_
                      refine z_putI (pc := 368) rfl fl_Mod_125 hk.1.1 rfl  ?_
                      exact z_vret (pc := 371) rfl rfl ⟨rfl, mx_s hp hB (fun z => by unfold isLt at z; simp [h106] at z) (fun z => by unfold isDg at z; simp [h221] at z) (by rw [if_pos ((sg_v (hk.2.2.2.2 _ hB)).mpr (Or.inr (Or.inr ⟨h354, h360⟩)))])⟩
          · have hD : isDg (T (tBeg T n p)) = true := by unfold isDg; simp [h215, h221]
            rw [show (zsI (zsL (zsI (zsI w 44 4 (nI (tBeg T n p))) 44 5 (nI (tBeg T n p))) 44 7 0) 44 8 0 : zW) = zsI (zsI (zsI (zsL (zsI (zsI w 44 4 (nI (tBeg T n p))) 44 5 (nI (tBeg T n p))) 44 7 0) 44 8 0) 44 8 (nM T (tBeg T n p) 0)) 44 4 (nI (tBeg T n p + 0)) from by rw [zsI_same (w := zsI (zsL (zsI (zsI w 44 4 (nI (tBeg T n p))) 44 5 (nI (tBeg T n p))) 44 7 0) 44 8 0) (o := 44) (k := 8) (v := nM T (tBeg T n p) 0) rfl]; exact (zsI_same (w := zsI (zsL (zsI (zsI w 44 4 (nI (tBeg T n p))) 44 5 (nI (tBeg T n p))) 44 7 0) 44 8 0) (o := 44) (k := 4) (v := nI (tBeg T n p + 0)) rfl).symm]
            refine l_Mod_digits (mK_I (mK_L (mK_I (mK_I hk (by decide) _) (by decide) _) _ _) (by decide) _) (a := tBeg T n p) rfl _ d hd n 0 (by omega) (by omega) ?_
            have hge := rn_ge isDg T n (tBeg T n p)
            have hle := rn_le (b := isDg) (T := T) hB0
            rw [show tBeg T n p + 0 = tBeg T n p from rfl, show tBeg T n p + (rn isDg T n (tBeg T n p) - tBeg T n p) = rn isDg T n (tBeg T n p) by omega]
            generalize hE : rn isDg T n (tBeg T n p) = E at hge hle ⊢
            refine z_aload_n (pc := 299) (i := 0) (j := 0) rfl rfl rfl ?_
            refine z_aload_n (pc := 300) (i := 0) (j := 0) rfl rfl rfl ?_
            refine z_getI (pc := 301) rfl fl_Mod_112 hk.1.1 rfl ?_
            refine z_eqi (y := nI E) rfl ?_
            refine z_aload_n (pc := 304) (i := 0) (j := 0) rfl rfl rfl ?_
            refine z_getI (pc := 305) rfl fl_Mod_115 hk.1.1 rfl ?_
            refine z_eqi (y := nI (tBeg T n p)) rfl ?_
            refine z_isub (pc := 308) rfl ?_
            refine z_eqi (y := nI (E - tBeg T n p)) (pk_sub hge) ?_
            refine z_iconst (pc := 309) (v := 4) rfl (by decide) ?_
            refine z_icmp_le (pc := 310) (tgt := 317) rfl (by decide) (fun h310 => ?_) (fun h310 => ?_)
            · refine z_iconst (pc := 317) (v := 2) rfl (by decide) ?_
              refine z_putI (pc := 318) rfl fl_Mod_125 hk.1.1 rfl  ?_
              exact z_vret (pc := 321) rfl rfl ⟨rfl, by have z : E - tBeg T n p ≤ 4 := (nI_leI (b := 4) (by omega) (by decide)).mp h310; have k := mx_d hp hB hD hE (w := w); rw [if_pos z] at k; exact k⟩
            · refine z_iconst (pc := 313) (v := 4) rfl (by decide) ?_
              refine z_goto (pc := 314) (tgt := 318) rfl (by decide) ?_
              refine z_putI (pc := 318) rfl fl_Mod_125 hk.1.1 rfl  ?_
              exact z_vret (pc := 321) rfl rfl ⟨rfl, by have z : ¬ E - tBeg T n p ≤ 4 := fun z => h310 ((nI_leI (b := 4) (by omega) (by decide)).mpr z); have k := mx_d hp hB hD hE (w := w); rw [if_neg z] at k; exact k⟩
      · have hL : isLt (T (tBeg T n p)) = true := by unfold isLt; simp [h100, h106]
        rw [show (zsI (zsL (zsI (zsI w 44 4 (nI (tBeg T n p))) 44 5 (nI (tBeg T n p))) 44 7 0) 44 8 0 : zW) = zsI (zsL (zsI (zsL (zsI (zsI w 44 4 (nI (tBeg T n p))) 44 5 (nI (tBeg T n p))) 44 7 0) 44 8 0) 44 7 (kM T (tBeg T n p) 0)) 44 4 (nI (tBeg T n p + 0)) from by rw [zsL_sm (w := zsI (zsL (zsI (zsI w 44 4 (nI (tBeg T n p))) 44 5 (nI (tBeg T n p))) 44 7 0) 44 8 0) (o := 44) (k := 7) (v := kM T (tBeg T n p) 0) rfl]; exact (zsI_same (w := zsI (zsL (zsI (zsI w 44 4 (nI (tBeg T n p))) 44 5 (nI (tBeg T n p))) 44 7 0) 44 8 0) (o := 44) (k := 4) (v := nI (tBeg T n p + 0)) rfl).symm]
        refine l_Mod_letters (mK_I (mK_L (mK_I (mK_I hk (by decide) _) (by decide) _) _ _) (by decide) _) (a := tBeg T n p) rfl _ d hd n 0 (by omega) (by omega) ?_
        have hge := rn_ge isLt T n (tBeg T n p)
        have hle := rn_le (b := isLt) (T := T) hB0
        rw [show tBeg T n p + 0 = tBeg T n p from rfl, show tBeg T n p + (rn isLt T n (tBeg T n p) - tBeg T n p) = rn isLt T n (tBeg T n p) by omega]
        generalize hE : rn isLt T n (tBeg T n p) = E at hge hle ⊢
        refine z_aload_n (pc := 188) (i := 0) (j := 0) rfl rfl rfl ?_
        refine z_aload_n (pc := 189) (i := 0) (j := 0) rfl rfl rfl ?_
        refine z_getI (pc := 190) rfl fl_Mod_112 hk.1.1 rfl ?_
        refine z_eqi (y := nI E) rfl ?_
        refine z_aload_n (pc := 193) (i := 0) (j := 0) rfl rfl rfl ?_
        refine z_getI (pc := 194) rfl fl_Mod_115 hk.1.1 rfl ?_
        refine z_eqi (y := nI (tBeg T n p)) rfl ?_
        refine z_isub (pc := 197) rfl ?_
        refine z_eqi (y := nI (E - tBeg T n p)) (pk_sub hge) ?_
        refine z_bipush (pc := 198) (v := 8) rfl (by decide) ?_
        refine z_icmp_le (pc := 200) (tgt := 207) rfl (by decide) (fun h200 => ?_) (fun h200 => ?_)
        · refine z_iconst (pc := 207) (v := 1) rfl (by decide) ?_
          refine z_putI (pc := 208) rfl fl_Mod_125 hk.1.1 rfl  ?_
          exact z_vret (pc := 211) rfl rfl ⟨rfl, by have z : E - tBeg T n p ≤ 8 := (nI_leI (b := 8) (by omega) (by decide)).mp h200; have k := mx_l hp hB hL hE (w := w); rw [if_pos z] at k; exact k⟩
        · refine z_iconst (pc := 203) (v := 4) rfl (by decide) ?_
          refine z_goto (pc := 204) (tgt := 208) rfl (by decide) ?_
          refine z_putI (pc := 208) rfl fl_Mod_125 hk.1.1 rfl  ?_
          exact z_vret (pc := 211) rfl rfl ⟨rfl, by have z : ¬ E - tBeg T n p ≤ 8 := fun z => h200 ((nI_leI (b := 8) (by omega) (by decide)).mpr z); have k := mx_l hp hB hL hE (w := w); rw [if_neg z] at k; exact k⟩
  · refine z_aload_n (pc := 81) (i := 0) (j := 0) rfl rfl rfl ?_
    refine z_iconst (pc := 82) (v := 0) rfl (by decide) ?_
    refine z_putI (pc := 83) rfl fl_Mod_125 hk.1.1 rfl  ?_
    exact z_vret (pc := 86) rfl rfl ⟨rfl, mx_e hp (fun q => absurd q (by have := (nI_eq (by omega) (by omega)).mp h78; omega))⟩
