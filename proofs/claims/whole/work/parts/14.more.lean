theorem z_oi1 : Cond.instanceMethod Lib.objectInit ∈ zT := by decide +kernel
theorem z_oi2 : Cond.code Lib.objectInit ⟨#[0xb1]⟩ 1 none ∈ zT := by decide +kernel
def zrI (w : zW) (o : Nat) (f : Nat → Int32) : zW := (w.1, fun a => if a = o then f else zI w a, zL w, zR w)
def zrL (w : zW) (o : Nat) (f : Nat → Int64) : zW := (w.1, zI w, fun a => if a = o then f else zL w a, zR w)
theorem zE_rI_off (cA : Nat → ClassId) (ad : Nat → Nat) (w : zW) {o a : Nat} (f : Nat → Int32) (q : Nat × Nat) (h : a ≠ o) : zE cA ad (zrI w o f) a q = zE cA ad w a q := by
  have e : zI (zrI w o f) a = zI w a := if_neg h
  have e2 : zfv (zrI w o f) ad a q.1 = zfv w ad a q.1 := by funext j; unfold zfv; rw [e]; rfl
  unfold zE
  rw [e, e2]
  rfl
theorem zE_rL_off (cA : Nat → ClassId) (ad : Nat → Nat) (w : zW) {o a : Nat} (f : Nat → Int64) (q : Nat × Nat) (h : a ≠ o) : zE cA ad (zrL w o f) a q = zE cA ad w a q := by
  have e : zL (zrL w o f) a = zL w a := if_neg h
  have e2 : zfv (zrL w o f) ad a q.1 = zfv w ad a q.1 := by funext j; unfold zfv; rw [e]; rfl
  unfold zE
  rw [e, e2]
  rfl
theorem z_sy1 : Cond.native arraycopyName ∈ zT := by decide +kernel
theorem z_sy2 : Cond.static arraycopyName ∈ zT := by decide +kernel
theorem z_sy3 : Cond.initialized "java/lang/System" ∈ zT := by decide +kernel
theorem cv_rf (ad : Nat → Nat) (x : Option Nat) : cv ad (va_rf x) = va_rf (x.map ad) := by cases x <;> rfl
theorem zdef_ok : ∀ c, c < 9 → ∀ k, k < 43 → defaultValue (zty c k) = if zft (zty c k) = 0 then .int 0 else if zft (zty c k) = 1 then .long 0 else .null := by decide +kernel
theorem zcl_43 : ∀ c, c < 9 → ((zcl[c]?).map fun q => decide (q.2.2 ≤ 43)) = some true := by decide +kernel
theorem zN_I (w : zW) (kd : Nat × Nat) : zI (zN w kd) w.1.length = fun _ => 0 := if_pos rfl
theorem zN_L (w : zW) (kd : Nat × Nat) : zL (zN w kd) w.1.length = fun _ => 0 := if_pos rfl
theorem zN_R (w : zW) (kd : Nat × Nat) : zR (zN w kd) w.1.length = fun _ => none := if_pos rfl
/-- the address of the new cell beside the old ones -/
def zad (ad : Nat → Nat) (n q : Nat) : Nat → Nat := fun o => if o = n then q else ad o
theorem zad_n (ad : Nat → Nat) (n q : Nat) : zad ad n q n = q := if_pos rfl
theorem zad_o (ad : Nat → Nat) {n o : Nat} (q : Nat) (h : o ≠ n) : zad ad n q o = ad o := if_neg h
theorem zE_new_old (cA : Nat → ClassId) (ad : Nat → Nat) {w : zW} (q : Nat) (kd : Nat × Nat) (hv : zV2 w) (hn : w.1.length < 1000000) {o : Nat} (ho : o < w.1.length) (k' : Nat × Nat) : zE cA (zad ad w.1.length q) (zN w kd) o k' = zE cA ad w o k' := by
  have hne : o ≠ w.1.length := by omega
  have e1 : zI (zN w kd) o = zI w o := if_neg hne
  have e2 : zL (zN w kd) o = zL w o := if_neg hne
  have e3 : zR (zN w kd) o = zR w o := if_neg hne
  have e4 : ∀ j, (zR w o j).map (zad ad w.1.length q) = (zR w o j).map ad := by
    intro j
    cases hr : zR w o j with
    | none => rfl
    | some x =>
      show some _ = some _
      rw [zad_o ad q (by rcases hv o j x ho hr with h | h <;> omega)]
  have e5 : zfv (zN w kd) (zad ad w.1.length q) o k'.1 = zfv w ad o k'.1 := by
    funext j
    unfold zfv
    rw [e1, e2, e3, e4]
  unfold zE
  rw [e5, e1, e2, e3]
  simp only [e4]
theorem zws_new (cA : Nat → ClassId) (ad : Nat → Nat) {w : zW} (q : Nat) (kd : Nat × Nat) (hv : zV2 w) (hn : w.1.length < 1000000) : zws cA (zad ad w.1.length q) (zN w kd) = zws cA ad w ++ [(q, zE cA (zad ad w.1.length q) (zN w kd) w.1.length kd)] := by
  have hk : (zN w kd).1 = w.1 ++ [kd] := rfl
  unfold zws
  rw [hk, List.mapIdx_append, List.mapIdx_singleton]
  congr 1
  · apply List.ext_getElem?
    intro i
    rw [List.getElem?_mapIdx, List.getElem?_mapIdx]
    cases hi : w.1[i]? with
    | none => rfl
    | some k' =>
      have hlt : i < w.1.length := (List.getElem?_eq_some_iff.mp hi).1
      refine congrArg some ?_
      show (_, zE _ _ _ _ _) = (_, zE _ _ _ _ _)
      rw [zad_o ad q (by omega), zE_new_old cA ad q kd hv hn hlt]
  · rw [Nat.zero_add, zad_n]
theorem zAW_new {D : va_G} {cA : Nat → ClassId} {h0 : Nat} {ad : Nat → Nat} {w : zW} {H H1 : Heap} {kd : Nat × Nat} {q : Nat} {e : va_E} (hA : zAW D cA h0 ad w H) (hn : w.1.length < 1000000) (he : zE cA (zad ad w.1.length q) (zN w kd) w.1.length kd = e) (hkd : kd.1 < 9 → ∃ x, zcl[kd.1]? = some x ∧ kd.2 = x.2.2)
    (hP : va_P D zcl (zws cA ad w ++ [(q, e)]) H1) (hD : va_D (zA h0) (zws cA ad w ++ [(q, e)])) : zAW D cA h0 (zad ad w.1.length q) (zN w kd) H1 := by
  have hw := zws_new cA ad q kd hA.2.2.1 hn
  rw [he] at hw
  rw [← hw] at hP hD
  have hlen : (zN w kd).1.length = w.1.length + 1 := by simp [zN]
  refine ⟨hP, hD, ?_, by rw [hlen]; omega, ?_⟩
  · intro o k r ho hr
    rw [hlen] at ho ⊢
    by_cases h : o = w.1.length
    · subst h
      rw [zN_R] at hr
      cases hr
    · have e3 : zR (zN w kd) o = zR w o := if_neg h
      rw [e3] at hr
      rcases hA.2.2.1 o k r (by omega) hr with h | h <;> omega
  · intro o c n ho hc
    have ho : (w.1 ++ [kd])[o]? = some (c, n) := ho
    rw [List.getElem?_append] at ho
    split at ho
    · exact hA.2.2.2.2 o c n ho hc
    · rename_i hge
      have h0 : o - w.1.length = 0 := by
        rcases Nat.eq_zero_or_pos (o - w.1.length) with h | h
        · exact h
        · rw [List.getElem?_eq_none (by simp; omega)] at ho; cases ho
      rw [h0] at ho
      cases Option.some.inj ho
      exact hkd hc
theorem zg_new {ad ad0 : Nat → Nat} {n0 q : Nat} {w : zW} {kd : Nat × Nat} (hg : (∀ o, (o < n0 ∨ w.1.length ≤ o) → ad o = ad0 o) ∧ n0 ≤ w.1.length) : (∀ o, (o < n0 ∨ (zN w kd).1.length ≤ o) → zad ad w.1.length q o = ad0 o) ∧ n0 ≤ (zN w kd).1.length := by
  have hlen : (zN w kd).1.length = w.1.length + 1 := by simp [zN]
  rw [hlen]
  refine ⟨fun o ho => ?_, by omega⟩
  rw [zad_o ad q (by omega)]
  exact hg.1 o (by omega)
theorem zn_vl {w : zW} {kd : Nat × Nat} {ad : Nat → Nat} {q : Nat} : ∀ o, (o < w.1.length ∨ (zN w kd).1.length ≤ o) → zad ad w.1.length q o = ad o := by
  intro o ho
  have hlen : (zN w kd).1.length = w.1.length + 1 := by simp [zN]
  exact zad_o ad q (by omega)
section Z8
variable {mc ms d : Nat} {M : zM} {P : Option Value → zW → Prop} {pc : Nat} {ls : List (Nat × Value)} {st : List Value} {w : zW}
theorem z_new {idx c0 : Nat} {x : vw_C} (hf : zM.f M pc = some (.new idx, 3)) (hq : zcl[c0]? = some x) (hw : Cond.classLink (zM.y M).cls idx x.1 ∈ zT ∧ Cond.instantiable x.1 x.2.2 ∈ zT ∧ Cond.initialized x.1 ∈ zT) (hn : w.1.length < 1000000) (hv : zVl w (zN w (c0, x.2.2)) ls st) (k : zS mc ms d M P (pc + 3) ls (.ref w.1.length :: st) (zN w (c0, x.2.2))) : zS (mc + 1) (ms + x.2.2) d M P pc ls st w := by
  intro p l e R s m args below meth c Q D cA h0 ad0 n0 C ad H locs cells slots la hA hS hg hc hs hl
  have hts := C.2.2.2.2.1
  have hc9 := zcl_lt hq
  have h43 : x.2.2 ≤ 43 := by
    have h := zcl_43 c0 hc9
    rw [hq] at h
    simpa using h
  refine va_new (C := x.1) (T := x.2.1) (N := x.2.2) (fs := (List.range x.2.2).map (zfv (zN w (c0, x.2.2)) ad w.1.length c0)) C.1 C.2.1 hts (zcls hq).1 (zty c0) (zcls hq).2.1 C.2.2.2.1 (hts _ hw.1) (hts _ hw.2.1) (hts _ hw.2.2) C.2.2.2.2.2.1 hA.1 hA.2.1 hS (fun q h => Nat.le_trans C.2.2.2.2.2.2.2.1 h) hq ?_ (by omega) (by omega) (C.dec hf) (fun q H1 hP hD hS1 => ?_)
  · intro j hj
    rw [zdef_ok c0 hc9 j (by omega)]
    unfold vp_V
    rw [List.getD_eq_getElem?_getD, zfs_at hj]
    unfold zfv
    rw [zN_I, zN_L, zN_R]
    rfl
  · obtain ⟨q1, q2⟩ := zVl_ls hv (zn_vl (ad := ad) (q := q))
    have he : zE cA (zad ad w.1.length q) (zN w (c0, x.2.2)) w.1.length (c0, x.2.2) = .inr (c0, (List.range x.2.2).map (zfv (zN w (c0, x.2.2)) ad w.1.length c0)) := by
      rw [zE_obj _ _ _ _ hc9]
      congr 2
      apply List.map_congr_left
      intro j _
      unfold zfv
      rw [zN_I, zN_L, zN_R]
      rfl
    have h := k p l e R s m args below meth c Q D cA h0 ad0 n0 C (zad ad w.1.length q) H1 locs (cells + 1) (slots + x.2.2) la (zAW_new hA hn he (fun _ => ⟨x, hq, rfl⟩) hP hD) hS1 (zg_new hg) (by omega) (by omega) (by rw [q1]; exact hl)
    rw [List.map_cons, q2] at h
    have e : cv (zad ad w.1.length q) (.ref w.1.length) = .ref q := by show Value.ref _ = _; rw [zad_n]
    rw [e] at h
    exact h
theorem z_newaI {N : Nat} {v : Int32} (hf : zM.f M pc = some (.newarray .int, 2)) (hw : Cond.arrayClass .int ∈ zT) (hN : Int32.ofNat N = v) (hs31 : N ≤ 10000) (hn : w.1.length < 1000000) (hv : zVl w (zN w (10, N)) ls st) (k : zS mc ms d M P (pc + 2) ls (.ref w.1.length :: st) (zN w (10, N))) : zS (mc + 1) (ms + N) d M P pc ls (.int v :: st) w := by
  intro p l e R s m args below meth c Q D cA h0 ad0 n0 C ad H locs cells slots la hA hS hg hc hs hl
  have hts := C.2.2.2.2.1
  subst hN
  refine va_newa (ty := .int) (N' := N) (a0 := (N, .inl (fun _ => 0))) (atype := .int) C.1 C.2.1 (hts _ hw) rfl C.2.2.2.2.2.1 hA.1 hA.2.1 hS (fun q h => Nat.le_trans C.2.2.2.2.2.2.2.1 h) (fun _ => rfl) (nI_pos (n := N) (by omega)) (nI_clamp (n := N) (by omega)) (by show N * 4 ≤ _; omega) (by omega) (by omega) (C.dec hf) (fun q cX H1 hK1 hP hD hS1 => ?_)
  have hcX : cX = cA 10 := by
    have h1 := (hK1.2 5 (cX, .int) rfl).2
    have h2 := (hK1.2 1 (cA 10, .int) rfl).2
    exact Option.some.inj (h1.symm.trans h2)
  subst hcX
  obtain ⟨q1, q2⟩ := zVl_ls hv (zn_vl (ad := ad) (q := q))
  have he : zE cA (zad ad w.1.length q) (zN w (10, N)) w.1.length (10, N) = .inl (cA 10, N, .inl (fun _ => 0)) := by
    show Sum.inl (_, _, Sum.inl (zI _ _)) = _
    rw [zN_I]
  have h := k p l e R s m args below meth c Q D cA h0 ad0 n0 C (zad ad w.1.length q) H1 locs (cells + 1) (slots + N) la (zAW_new hA hn he (fun h => absurd h (by simp)) hP hD) hS1 (zg_new hg) (by omega) (by omega) (by rw [q1]; exact hl)
  rw [List.map_cons, q2] at h
  have e : cv (zad ad w.1.length q) (.ref w.1.length) = .ref q := by show Value.ref _ = _; rw [zad_n]
  rw [e] at h
  exact h
theorem z_newaB {N : Nat} {v : Int32} (hf : zM.f M pc = some (.newarray .byte, 2)) (hw : Cond.arrayClass .byte ∈ zT) (hN : Int32.ofNat N = v) (hs31 : N ≤ 10000) (hn : w.1.length < 1000000) (hv : zVl w (zN w (9, N)) ls st) (k : zS mc ms d M P (pc + 2) ls (.ref w.1.length :: st) (zN w (9, N))) : zS (mc + 1) (ms + N) d M P pc ls (.int v :: st) w := by
  intro p l e R s m args below meth c Q D cA h0 ad0 n0 C ad H locs cells slots la hA hS hg hc hs hl
  have hts := C.2.2.2.2.1
  subst hN
  refine va_newa (ty := .byte) (N' := N) (a0 := (N, .inl (fun _ => 0))) (atype := .byte) C.1 C.2.1 (hts _ hw) rfl C.2.2.2.2.2.1 hA.1 hA.2.1 hS (fun q h => Nat.le_trans C.2.2.2.2.2.2.2.1 h) (fun _ => rfl) (nI_pos (n := N) (by omega)) (nI_clamp (n := N) (by omega)) (by show N * 1 ≤ _; omega) (by omega) (by omega) (C.dec hf) (fun q cX H1 hK1 hP hD hS1 => ?_)
  have hcX : cX = cA 9 := by
    have h1 := (hK1.2 5 (cX, .byte) rfl).2
    have h2 := (hK1.2 0 (cA 9, .byte) rfl).2
    exact Option.some.inj (h1.symm.trans h2)
  subst hcX
  obtain ⟨q1, q2⟩ := zVl_ls hv (zn_vl (ad := ad) (q := q))
  have he : zE cA (zad ad w.1.length q) (zN w (9, N)) w.1.length (9, N) = .inl (cA 9, N, .inl (fun _ => 0)) := by
    show Sum.inl (_, _, Sum.inl (zI _ _)) = _
    rw [zN_I]
  have h := k p l e R s m args below meth c Q D cA h0 ad0 n0 C (zad ad w.1.length q) H1 locs (cells + 1) (slots + N) la (zAW_new hA hn he (fun h => absurd h (by simp)) hP hD) hS1 (zg_new hg) (by omega) (by omega) (by rw [q1]; exact hl)
  rw [List.map_cons, q2] at h
  have e : cv (zad ad w.1.length q) (.ref w.1.length) = .ref q := by show Value.ref _ = _; rw [zad_n]
  rw [e] at h
  exact h
theorem z_newaZ {N : Nat} {v : Int32} (hf : zM.f M pc = some (.newarray .boolean, 2)) (hw : Cond.arrayClass .boolean ∈ zT) (hN : Int32.ofNat N = v) (hs31 : N ≤ 10000) (hn : w.1.length < 1000000) (hv : zVl w (zN w (12, N)) ls st) (k : zS mc ms d M P (pc + 2) ls (.ref w.1.length :: st) (zN w (12, N))) : zS (mc + 1) (ms + N) d M P pc ls (.int v :: st) w := by
  intro p l e R s m args below meth c Q D cA h0 ad0 n0 C ad H locs cells slots la hA hS hg hc hs hl
  have hts := C.2.2.2.2.1
  subst hN
  refine va_newa (ty := .boolean) (N' := N) (a0 := (N, .inl (fun _ => 0))) (atype := .boolean) C.1 C.2.1 (hts _ hw) rfl C.2.2.2.2.2.1 hA.1 hA.2.1 hS (fun q h => Nat.le_trans C.2.2.2.2.2.2.2.1 h) (fun _ => rfl) (nI_pos (n := N) (by omega)) (nI_clamp (n := N) (by omega)) (by show N * 1 ≤ _; omega) (by omega) (by omega) (C.dec hf) (fun q cX H1 hK1 hP hD hS1 => ?_)
  have hcX : cX = cA 12 := by
    have h1 := (hK1.2 5 (cX, .boolean) rfl).2
    have h2 := (hK1.2 3 (cA 12, .boolean) rfl).2
    exact Option.some.inj (h1.symm.trans h2)
  subst hcX
  obtain ⟨q1, q2⟩ := zVl_ls hv (zn_vl (ad := ad) (q := q))
  have he : zE cA (zad ad w.1.length q) (zN w (12, N)) w.1.length (12, N) = .inl (cA 12, N, .inl (fun _ => 0)) := by
    show Sum.inl (_, _, Sum.inl (zI _ _)) = _
    rw [zN_I]
  have h := k p l e R s m args below meth c Q D cA h0 ad0 n0 C (zad ad w.1.length q) H1 locs (cells + 1) (slots + N) la (zAW_new hA hn he (fun h => absurd h (by simp)) hP hD) hS1 (zg_new hg) (by omega) (by omega) (by rw [q1]; exact hl)
  rw [List.map_cons, q2] at h
  have e : cv (zad ad w.1.length q) (.ref w.1.length) = .ref q := by show Value.ref _ = _; rw [zad_n]
  rw [e] at h
  exact h
theorem z_newaJ {N : Nat} {v : Int32} (hf : zM.f M pc = some (.newarray .long, 2)) (hw : Cond.arrayClass .long ∈ zT) (hN : Int32.ofNat N = v) (hs31 : N ≤ 10000) (hn : w.1.length < 1000000) (hv : zVl w (zN w (11, N)) ls st) (k : zS mc ms d M P (pc + 2) ls (.ref w.1.length :: st) (zN w (11, N))) : zS (mc + 1) (ms + N) d M P pc ls (.int v :: st) w := by
  intro p l e R s m args below meth c Q D cA h0 ad0 n0 C ad H locs cells slots la hA hS hg hc hs hl
  have hts := C.2.2.2.2.1
  subst hN
  refine va_newa (ty := .long) (N' := N) (a0 := (N, .inr (.inl (fun _ => 0)))) (atype := .long) C.1 C.2.1 (hts _ hw) rfl C.2.2.2.2.2.1 hA.1 hA.2.1 hS (fun q h => Nat.le_trans C.2.2.2.2.2.2.2.1 h) (fun _ => rfl) (nI_pos (n := N) (by omega)) (nI_clamp (n := N) (by omega)) (by show N * 8 ≤ _; omega) (by omega) (by omega) (C.dec hf) (fun q cX H1 hK1 hP hD hS1 => ?_)
  have hcX : cX = cA 11 := by
    have h1 := (hK1.2 5 (cX, .long) rfl).2
    have h2 := (hK1.2 2 (cA 11, .long) rfl).2
    exact Option.some.inj (h1.symm.trans h2)
  subst hcX
  obtain ⟨q1, q2⟩ := zVl_ls hv (zn_vl (ad := ad) (q := q))
  have he : zE cA (zad ad w.1.length q) (zN w (11, N)) w.1.length (11, N) = .inl (cA 11, N, .inr (.inl (fun _ => 0))) := by
    show Sum.inl (_, _, Sum.inr (Sum.inl (zL _ _))) = _
    rw [zN_L]
  have h := k p l e R s m args below meth c Q D cA h0 ad0 n0 C (zad ad w.1.length q) H1 locs (cells + 1) (slots + N) la (zAW_new hA hn he (fun h => absurd h (by simp)) hP hD) hS1 (zg_new hg) (by omega) (by omega) (by rw [q1]; exact hl)
  rw [List.map_cons, q2] at h
  have e : cv (zad ad w.1.length q) (.ref w.1.length) = .ref q := by show Value.ref _ = _; rw [zad_n]
  rw [e] at h
  exact h
theorem z_newq {N idx : Nat} {v : Int32} (hf : zM.f M pc = some (.anewarray idx, 3)) (hw : Cond.classLink (zM.y M).cls idx RX2 ∈ zT) (hN : Int32.ofNat N = v) (hs31 : N ≤ 10000) (hn : w.1.length < 1000000) (hv : zVl w (zN w (13, N)) ls st) (k : zS mc ms d M P (pc + 3) ls (.ref w.1.length :: st) (zN w (13, N))) : zS (mc + 1) (ms + N) d M P pc ls (.int v :: st) w := by
  intro p l e R s m args below meth c Q D cA h0 ad0 n0 C ad H locs cells slots la hA hS hg hc hs hl
  have hts := C.2.2.2.2.1
  subst hN
  refine va_newq (C := RX2) (N' := N) C.1 C.2.1 C.2.2.2.1 (hts _ hw) C.2.2.2.2.2.2.1.2.2.2.2.2.2.2 C.2.2.2.2.2.1 hA.1 hA.2.1 hS (fun q h => Nat.le_trans C.2.2.2.2.2.2.2.1 h) (nI_pos (n := N) (by omega)) (nI_clamp (n := N) (by omega)) (by omega) (by omega) (by omega) (C.dec hf) (fun q cX H1 hK1 hP hD hS1 => ?_)
  have hcX : cX = cA 13 := by
    obtain ⟨_, _, _, _, _, h1⟩ := (hK1.2 5 (cX, .object RX2) rfl).2
    obtain ⟨_, _, _, _, _, h2⟩ := (hK1.2 4 (cA 13, .object RX2) rfl).2
    exact Option.some.inj (h1.symm.trans h2)
  subst hcX
  obtain ⟨q1, q2⟩ := zVl_ls hv (zn_vl (ad := ad) (q := q))
  have he : zE cA (zad ad w.1.length q) (zN w (13, N)) w.1.length (13, N) = .inl (cA 13, N, .inr (.inr (.inr (.inr (fun _ => none))))) := by
    show Sum.inl (_, _, Sum.inr (Sum.inr (Sum.inr (Sum.inr (fun k => (zR _ _ k).map _))))) = _
    rw [zN_R]
    rfl
  have h := k p l e R s m args below meth c Q D cA h0 ad0 n0 C (zad ad w.1.length q) H1 locs (cells + 1) (slots + N) la (zAW_new hA hn he (fun h => absurd h (by simp)) hP hD) hS1 (zg_new hg) (by omega) (by omega) (by rw [q1]; exact hl)
  rw [List.map_cons, q2] at h
  have e : cv (zad ad w.1.length q) (.ref w.1.length) = .ref q := by show Value.ref _ = _; rw [zad_n]
  rw [e] at h
  exact h
theorem z_aast {o n x nn : Nat} {i : Int32} (hf : zM.f M pc = some (.aastore, 1)) (ho : w.1[o]? = some (13, n)) (hx : w.1[x]? = some (2, nn)) (hi : vp_in i n) (k : zS mc ms d M P (pc + 1) ls st (zsR w o i.toNatClampNeg (some x))) : zS mc ms d M P pc ls (.ref x :: .int i :: .ref o :: st) w := by
  intro p l e R s m args below meth c Q D cA h0 ad0 n0 C ad H locs cells slots la hA hS hg hc hs hl
  have hxl : x < w.1.length := (List.getElem?_eq_some_iff.mp hx).1
  have hex := zws_at cA ad hx
  rw [zE_obj cA ad w x (by decide)] at hex
  refine va_astq (r := (RX2, TX2, 2)) C.1 C.2.1 C.2.2.2.2.2.1 hA.1 hA.2.1 hS o 4 x 2 (zws_at cA ad ho) rfl hex rfl hi (C.dec hf) (fun H1 locs1 hP hD hS1 => ?_)
  exact k p l e R s m args below meth c Q D cA h0 ad0 n0 C ad H1 locs1 cells slots la (zAW_set hA rfl ho (by
    show Sum.inl (_, _, Sum.inr (Sum.inr (Sum.inr (Sum.inr _)))) = Sum.inl (_, _, Sum.inr (Sum.inr (Sum.inr (Sum.inr _))))
    congr 7
    funext b
    show (z2 (zR w) o _ _ o b).map ad = va_up _ _ _ b
    rw [z2_row]
    unfold va_up
    by_cases hb : b = i.toNatClampNeg <;> simp [hb]) (fun a q' ha => zE_R_off cA ad w _ _ q' ha) (zV2_R hA.2.2.1 (fun r e => by cases e; exact Or.inl hxl)) hP hD) hS1 hg hc hs hl
theorem z_getA {idx c0 j n o : Nat} {fin : Bool} (hf : zM.f M pc = some (.getfield idx, 3)) (hl0 : zFl (zM.y M).cls idx c0 j fin) (ho : w.1[o]? = some (c0, n)) (ht : zft (zty c0 j) = 2) (k : zS mc ms d M P (pc + 3) ls (va_rf (zR w o j) :: st) w) : zS mc ms d M P pc ls (.ref o :: st) w := by
  cases hv : zR w o j with
  | none => rw [hv] at k; exact z_getN hf hl0 ho ht hv k
  | some x => rw [hv] at k; exact z_getR hf hl0 ho ht hv k
theorem z_putA {idx c0 j n o : Nat} {x : Option Nat} (hf : zM.f M pc = some (.putfield idx, 3)) (hl0 : zFl (zM.y M).cls idx c0 j false) (ho : w.1[o]? = some (c0, n)) (ht : zft (zty c0 j) = 2) (hx : ∀ a, x = some a → a < w.1.length ∨ 1000000 ≤ a) (k : zS mc ms d M P (pc + 3) ls st (zsR w o j x)) : zS mc ms d M P pc ls (va_rf x :: .ref o :: st) w := by
  cases x with
  | none => exact z_putN hf hl0 ho ht k
  | some x => exact z_putR hf hl0 ho ht (hx x rfl) k
theorem z_aald2 {o n : Nat} {i : Int32} (hf : zM.f M pc = some (.aaload, 1)) (ho : w.1[o]? = some (13, n)) (hi : vp_in i n) (k : zS mc ms d M P (pc + 1) ls (va_rf (zR w o i.toNatClampNeg) :: st) w) : zS mc ms d M P pc ls (.int i :: .ref o :: st) w := by
  cases hv : zR w o i.toNatClampNeg with
  | none => rw [hv] at k; exact z_aaldN hf ho hi hv k
  | some x => rw [hv] at k; exact z_aald hf ho hi hv k
theorem z_aretA {x : Option Nat} {C0 : String} (hf : zM.f M pc = some (.areturn, 1)) (hr : zM.rt M = some (.object C0)) (hP : P (some (va_rf x)) w) : zS mc ms d M P pc ls [va_rf x] w := by
  cases x with
  | none => exact z_aretN hf hr hP
  | some x => exact z_aret hf hr hP
theorem zkZ_cv {ad ad2 : Nat → Nat} (ha : ∀ o, 1000000 ≤ o → ad2 o = ad o) : ∀ q ∈ zkZ, cv ad2 q.2.2.2 = cv ad q.2.2.2 := by
  intro q hq
  simp only [zkZ, List.mem_cons, List.not_mem_nil, or_false] at hq
  rcases hq with rfl | rfl | rfl | rfl | rfl | rfl | rfl | rfl | rfl | rfl | rfl | rfl | rfl | rfl | rfl | rfl | rfl | rfl <;> first | rfl | (show Value.ref (ad2 _) = Value.ref (ad _); rw [ha _ (by decide)])
theorem z_adc {ad ad0 : Nat → Nat} {n0 : Nat} (hg : (∀ o, (o < n0 ∨ w.1.length ≤ o) → ad o = ad0 o) ∧ n0 ≤ w.1.length) (hn : w.1.length ≤ 1000000) : ∀ o, 1000000 ≤ o → ad o = ad0 o := fun o ho => hg.1 o (Or.inr (Nat.le_trans hn ho))
theorem z_gets {idx : Nat} {C0 n1 d1 : String} {v : Value} (hf : zM.f M pc = some (.getstatic idx, 3)) (hm : (C0, n1, d1, v) ∈ zkZ) (hw : Cond.fieldLink (zM.y M).cls idx C0 n1 d1 ∈ zT) (k : zS mc ms d M P (pc + 3) ls (v :: st) w) : zS mc ms d M P pc ls st w := by
  intro p l e R s m args below meth c Q D cA h0 ad0 n0 C ad H locs cells slots la hA hS hg hc hs hl
  have hz := C.2.2.2.2.2.2.1.1 _ hm
  rw [← zkZ_cv (z_adc hg hA.2.2.2.1) _ hm] at hz
  exact va_gets C.1 C.2.1 hz hS C.2.2.2.1 (C.2.2.2.2.1 _ hw) (fun _ h => h) (C.dec hf) (k p l e R s m args below meth c Q D cA h0 ad0 n0 C ad H locs cells slots la hA hS hg hc hs hl)
theorem z_getsN {idx : Nat} {C0 n1 d1 h1 : String} {v : Value} (hf : zM.f M pc = some (.getstatic idx, 3)) (hm : (C0, n1, d1, v) ∈ zkZ) (hw : ((zM.y M).cls, idx, C0, n1, d1, h1) ∈ zkNF) (k : zS mc ms d M P (pc + 3) ls (v :: st) w) : zS mc ms d M P pc ls st w := by
  intro p l e R s m args below meth c Q D cA h0 ad0 n0 C ad H locs cells slots la hA hS hg hc hs hl
  have hz := C.2.2.2.2.2.2.1.1 _ hm
  rw [← zkZ_cv (z_adc hg hA.2.2.2.1) _ hm] at hz
  exact va_getsN C.1 C.2.1 hz hS C.2.2.2.1 (va_Nw.use rfl (C.2.2.2.2.2.2.1.2.2.2.2.2.2.1 _ hw)) (fun _ h => h) (C.dec hf) (k p l e R s m args below meth c Q D cA h0 ad0 n0 C ad H locs cells slots la hA hS hg hc hs hl)
/-- a constant array of ints, and the law's script -/
theorem z_tE {i : Int32} (hf : zM.f M pc = some (.iaload, 1)) (hi : vp_in i 8) (k : zS mc ms d M P (pc + 1) ls (.int (zkE.getD i.toNatClampNeg 0) :: st) w) : zS mc ms d M P pc ls (.int i :: .ref 1000019 :: st) w := by
  intro p l e R s m args below meth c Q D cA h0 ad0 n0 C ad H locs cells slots la hA hS hg hc hs hl
  have h := C.2.2.2.2.2.2.1.2.1 _ (show (FieldType.int, 1000019, 8, fun k => Value.int (zkE.getD k 0)) ∈ zkT from List.mem_cons_self)
  have h : va_T .int (ad0 1000019) 8 (fun k => .int (zkE.getD k 0)) (zA h0) s s.heap := h
  rw [← z_adc hg hA.2.2.2.1 1000019 (by decide)] at h
  exact va_ti C.1 C.2.1 h hS hi rfl (C.dec hf) (k p l e R s m args below meth c Q D cA h0 ad0 n0 C ad H locs cells slots la hA hS hg hc hs hl)
theorem z_tS {i : Int32} (hf : zM.f M pc = some (.iaload, 1)) (hi : vp_in i 8) (k : zS mc ms d M P (pc + 1) ls (.int (zkS.getD i.toNatClampNeg 0) :: st) w) : zS mc ms d M P pc ls (.int i :: .ref 1000020 :: st) w := by
  intro p l e R s m args below meth c Q D cA h0 ad0 n0 C ad H locs cells slots la hA hS hg hc hs hl
  have h := C.2.2.2.2.2.2.1.2.1 _ (show (FieldType.int, 1000020, 8, fun k => Value.int (zkS.getD k 0)) ∈ zkT from List.mem_cons_of_mem _ List.mem_cons_self)
  have h : va_T .int (ad0 1000020) 8 (fun k => .int (zkS.getD k 0)) (zA h0) s s.heap := h
  rw [← z_adc hg hA.2.2.2.1 1000020 (by decide)] at h
  exact va_ti C.1 C.2.1 h hS hi rfl (C.dec hf) (k p l e R s m args below meth c Q D cA h0 ad0 n0 C ad H locs cells slots la hA hS hg hc hs hl)
theorem z_tA {i : Int32} (hf : zM.f M pc = some (.aaload, 1)) (hi : vp_in i 19) (k : zS mc ms d M P (pc + 1) ls (.ref (1000000 + i.toNatClampNeg) :: st) w) : zS mc ms d M P pc ls (.int i :: .ref 1000021 :: st) w := by
  intro p l e R s m args below meth c Q D cA h0 ad0 n0 C ad H locs cells slots la hA hS hg hc hs hl
  have h := C.2.2.2.2.2.2.1.2.1 _ (show (FieldType.object "SmokeWeds$Word", 1000021, 19, fun k => Value.ref (1000000 + k)) ∈ zkT from List.mem_cons_of_mem _ (List.mem_cons_of_mem _ List.mem_cons_self))
  have h : va_T (.object "SmokeWeds$Word") (ad0 1000021) 19 (fun k => .ref (ad0 (1000000 + k))) (zA h0) s s.heap := h
  rw [← z_adc hg hA.2.2.2.1 1000021 (by decide)] at h
  exact vb_tq (v := .ref (ad (1000000 + i.toNatClampNeg))) C.1 C.2.1 h hS hi (by show Value.ref _ = _; rw [z_adc hg hA.2.2.2.1 _ (by omega)]) (C.dec hf) (k p l e R s m args below meth c Q D cA h0 ad0 n0 C ad H locs cells slots la hA hS hg hc hs hl)
theorem z_tAl (hf : zM.f M pc = some (.arraylength, 1)) (k : zS mc ms d M P (pc + 1) ls (.int 19 :: st) w) : zS mc ms d M P pc ls (.ref 1000021 :: st) w := by
  intro p l e R s m args below meth c Q D cA h0 ad0 n0 C ad H locs cells slots la hA hS hg hc hs hl
  have h := C.2.2.2.2.2.2.1.2.1 _ (show (FieldType.object "SmokeWeds$Word", 1000021, 19, fun k => Value.ref (1000000 + k)) ∈ zkT from List.mem_cons_of_mem _ (List.mem_cons_of_mem _ List.mem_cons_self))
  have h : va_T (.object "SmokeWeds$Word") (ad0 1000021) 19 (fun k => .ref (ad0 (1000000 + k))) (zA h0) s s.heap := h
  rw [← z_adc hg hA.2.2.2.1 1000021 (by decide)] at h
  exact va_tlen (v := 19) C.1 C.2.1 h hS rfl (C.dec hf) (k p l e R s m args below meth c Q D cA h0 ad0 n0 C ad H locs cells slots la hA hS hg hc hs hl)
theorem z_tX {i : Int32} {x : Nat × (Nat → Int32)} (hf : zM.f M pc = some (.iaload, 1)) (hX : zM.X M = some x) (h5 : x.1 < 5000) (hi : vp_in i x.1) (k : zS mc ms d M P (pc + 1) ls (.int (x.2 i.toNatClampNeg) :: st) w) : zS mc ms d M P pc ls (.int i :: .ref 1000030 :: st) w := by
  intro p l e R s m args below meth c Q D cA h0 ad0 n0 C ad H locs cells slots la hA hS hg hc hs hl
  have h := (C.2.2.2.2.2.2.2.2.2.2.2.1 x hX h5).1
  rw [← z_adc hg hA.2.2.2.1 1000030 (by decide)] at h
  exact va_ti C.1 C.2.1 h hS hi rfl (C.dec hf) (k p l e R s m args below meth c Q D cA h0 ad0 n0 C ad H locs cells slots la hA hS hg hc hs hl)
theorem z_tXl {x : Nat × (Nat → Int32)} {v : Int32} (hf : zM.f M pc = some (.arraylength, 1)) (hX : zM.X M = some x) (h5 : x.1 < 5000) (hv : Int32.ofNat x.1 = v) (k : zS mc ms d M P (pc + 1) ls (.int v :: st) w) : zS mc ms d M P pc ls (.ref 1000030 :: st) w := by
  intro p l e R s m args below meth c Q D cA h0 ad0 n0 C ad H locs cells slots la hA hS hg hc hs hl
  have h := (C.2.2.2.2.2.2.2.2.2.2.2.1 x hX h5).1
  rw [← z_adc hg hA.2.2.2.1 1000030 (by decide)] at h
  exact va_tlen C.1 C.2.1 h hS hv (C.dec hf) (k p l e R s m args below meth c Q D cA h0 ad0 n0 C ad H locs cells slots la hA hS hg hc hs hl)
/-- a field of an enum's constant -/
theorem z_kget {idx i : Nat} {n1 d1 : String} {f : Nat → Value} (hf : zM.f M pc = some (.getfield idx, 3)) (hm : ("SmokeWeds$Word", n1, d1, f) ∈ zkF) (hi : i < 19) (hw : Cond.fieldLink (zM.y M).cls idx "SmokeWeds$Word" n1 d1 ∈ zT) (hc1 : ∀ ad, cv ad (f i) = f i) (k : zS mc ms d M P (pc + 3) ls (f i :: st) w) : zS mc ms d M P pc ls (.ref (1000000 + i) :: st) w := by
  intro p l e R s m args below meth c Q D cA h0 ad0 n0 C ad H locs cells slots la hA hS hg hc hs hl
  have h := C.2.2.2.2.2.2.1.2.2.1 _ hm i hi
  rw [← z_adc hg hA.2.2.2.1 (1000000 + i) (by omega)] at h
  refine va_getX (N := 1) (i := 0) (v := fun _ => f i) (ad := fun _ => ad (1000000 + i)) C.1 C.2.1 (fun _ _ => h) (by decide) hS C.2.2.2.1 (C.2.2.2.2.1 _ hw) (fun _ h => h) (C.dec hf) ?_
  have hk := k p l e R s m args below meth c Q D cA h0 ad0 n0 C ad H locs cells slots la hA hS hg hc hs hl
  rw [List.map_cons, hc1] at hk
  exact hk
def zid (w : zW) (x : Option Nat) : Prop := ∀ o, x = some o → o < w.1.length ∨ (1000000 ≤ o ∧ o < 1000019)
theorem zid_inj {D : va_G} {cA : Nat → ClassId} {h0 : Nat} {ad ad0 : Nat → Nat} {H : Heap} {s : State} {n0 : Nat} (hA : zAW D cA h0 ad w H) (hKC : zKC h0 ad0 s s.heap) (hg : (∀ o, (o < n0 ∨ w.1.length ≤ o) → ad o = ad0 o) ∧ n0 ≤ w.1.length) {x y : Option Nat} (hx : zid w x) (hy : zid w y) : x.map ad = y.map ad ↔ x = y := by
  refine ⟨fun h => ?_, fun h => by rw [h]⟩
  have hw : ∀ a, a < w.1.length → h0 ≤ ad a := by
    intro a ha
    obtain ⟨q, hq⟩ : ∃ q, w.1[a]? = some q := ⟨_, List.getElem?_eq_getElem ha⟩
    exact hA.2.1.2 a _ (zws_at cA ad hq)
  have hcs : ∀ a, 1000000 ≤ a → a < 1000019 → ¬ h0 ≤ ad a := by
    intro a h1 h2
    obtain ⟨i, rfl⟩ : ∃ i, a = 1000000 + i := ⟨a - 1000000, by omega⟩
    have h := hKC.2.2.1 _ (List.mem_cons_self (a := ("SmokeWeds$Word", "key", "J", fun k => Value.long (zkK.getD k 0))) (l := _)) i (by omega)
    obtain ⟨_, _, _, _, _, _, _, _, _, _, h⟩ := h
    rw [z_adc hg hA.2.2.2.1 (1000000 + i) (by omega)]
    exact h
  cases x with
  | none => cases y with
    | none => rfl
    | some b => cases h
  | some a => cases y with
    | none => cases h
    | some b =>
      have h : ad a = ad b := Option.some.inj h
      rcases hx a rfl with ha | ⟨ha, ha2⟩ <;> rcases hy b rfl with hb | ⟨hb, hb2⟩
      · obtain ⟨q, hq⟩ : ∃ q, w.1[a]? = some q := ⟨_, List.getElem?_eq_getElem ha⟩
        obtain ⟨q2, hq2⟩ : ∃ q, w.1[b]? = some q := ⟨_, List.getElem?_eq_getElem hb⟩
        exact congrArg some (hA.2.1.1 a b _ _ (zws_at cA ad hq) (zws_at cA ad hq2) h)
      · exact absurd (h ▸ hw a ha) (hcs b hb hb2)
      · exact absurd (h ▸ hw b hb) (hcs a ha ha2)
      · rw [z_adc hg hA.2.2.2.1 a ha, z_adc hg hA.2.2.2.1 b hb] at h
        obtain ⟨i, rfl⟩ : ∃ i, a = 1000000 + i := ⟨a - 1000000, by omega⟩
        obtain ⟨j, rfl⟩ : ∃ j, b = 1000000 + j := ⟨b - 1000000, by omega⟩
        rw [hKC.2.2.2.1 i j (by omega) (by omega) h]
theorem z_acmp_eq {x y : Option Nat} {off : Int} {tgt : Nat} (hf : zM.f M pc = some (.if_acmp .eq off, 3)) (ht : (pc : Int) + off = (tgt : Int)) (hx : zid w x) (hy : zid w y) (kt : x = y → zS mc ms d M P tgt ls st w) (kf : ¬ x = y → zS mc ms d M P (pc + 3) ls st w) : zS mc ms d M P pc ls (va_rf y :: va_rf x :: st) w := by
  intro p l e R s m args below meth c Q D cA h0 ad0 n0 C ad H locs cells slots la hA hS hg hc hs hl
  have hi := zid_inj hA C.2.2.2.2.2.2.1 hg hx hy
  rw [List.map_cons, List.map_cons, cv_rf, cv_rf]
  exact lv_acmp_eq C.1 C.2.1 (C.dec hf) ht (fun q => kt (by rw [← hi]; exact q) p l e R s m args below meth c Q D cA h0 ad0 n0 C ad H locs cells slots la hA hS hg hc hs hl) (fun q => kf (by rw [← hi]; exact q) p l e R s m args below meth c Q D cA h0 ad0 n0 C ad H locs cells slots la hA hS hg hc hs hl)
theorem z_acmp_ne {x y : Option Nat} {off : Int} {tgt : Nat} (hf : zM.f M pc = some (.if_acmp .ne off, 3)) (ht : (pc : Int) + off = (tgt : Int)) (hx : zid w x) (hy : zid w y) (kt : ¬ x = y → zS mc ms d M P tgt ls st w) (kf : x = y → zS mc ms d M P (pc + 3) ls st w) : zS mc ms d M P pc ls (va_rf y :: va_rf x :: st) w := by
  intro p l e R s m args below meth c Q D cA h0 ad0 n0 C ad H locs cells slots la hA hS hg hc hs hl
  have hi := zid_inj hA C.2.2.2.2.2.2.1 hg hx hy
  rw [List.map_cons, List.map_cons, cv_rf, cv_rf]
  exact lv_acmp_ne C.1 C.2.1 (C.dec hf) ht (fun q => kt (by rw [← hi]; exact q) p l e R s m args below meth c Q D cA h0 ad0 n0 C ad H locs cells slots la hA hS hg hc hs hl) (fun q => kf (by rw [← hi]; exact q) p l e R s m args below meth c Q D cA h0 ad0 n0 C ad H locs cells slots la hA hS hg hc hs hl)
theorem z_obj {o idx : Nat} (hf : zM.f M pc = some (.invokespecial idx, 3)) (hw : Cond.methodLink (zM.y M).cls idx Lib.objectInit ∈ zT) (hd : 1 ≤ d) (hrest : (st.map fun v => v.category).sum ≤ 8) (k : zS mc ms d M P (pc + 3) ls st w) : zS mc ms d M P pc ls (.ref o :: st) w := by
  intro p l e R s m args below meth c Q D cA h0 ad0 n0 C ad H locs cells slots la hA hS hg hc hs hl
  have hts := C.2.2.2.2.1
  have hrm := C.2.2.2.2.2.2.2.2.2.1
  exact W.objInit C.1 C.2.1 C.2.2.2.1 (hts _ hw) (hts _ z_oi1) (hts _ z_oi2) rfl (hl.1.trans C.2.2.1.symm) rfl (C.dec hf) (by omega) (by show 2 * 0 + _ + 12 ≤ _; rw [zcat]; omega) (k p l e R s m args below meth c Q D cA h0 ad0 n0 C ad H locs cells slots la hA hS hg hc hs hl)
theorem z_copyI {o0 o1 n1 n2 idx : Nat} {sp dp n : Int32} (hf : zM.f M pc = some (.invokestatic idx, 3)) (hw : Cond.methodLink (zM.y M).cls idx arraycopyName ∈ zT) (ho0 : w.1[o0]? = some (10, n1)) (ho1 : w.1[o1]? = some (10, n2)) (h1 : ¬ sp < 0) (h2 : ¬ dp < 0) (h3 : ¬ n < 0) (h4 : sp.toNatClampNeg + n.toNatClampNeg ≤ n1) (h5 : dp.toNatClampNeg + n.toNatClampNeg ≤ n2) (hd : 1 ≤ d) (hrest : (st.map fun v => v.category).sum ≤ 8)
    (k : zS mc ms d M P (pc + 3) ls st (zrI w o1 (va_cpy (zI w o0) (zI w o1) sp.toNatClampNeg dp.toNatClampNeg n.toNatClampNeg))) : zS mc ms d M P pc ls (.int n :: .int dp :: .ref o1 :: .int sp :: .ref o0 :: st) w := by
  intro p l e R s m args below meth c Q D cA h0 ad0 n0 C ad H locs cells slots la hA hS hg hc hs hl
  have hts := C.2.2.2.2.1
  have hrm := C.2.2.2.2.2.2.2.2.2.1
  refine va_copyi (ty := .int) C.1 C.2.1 (C.2.2.1.trans hl.1.symm) C.2.2.2.1 (hts _ hw) (hts _ z_sy1) (hts _ z_sy2) (hts _ z_sy3) C.2.2.2.2.2.1 hA.1 hA.2.1 hS o0 o1 1 1 (zws_at cA ad ho0) (zws_at cA ad ho1) rfl rfl rfl h1 h2 h3 h4 h5 (fun _ _ => rfl) (by omega) (by rw [zcat]; show _ + (7 + 11) ≤ _; omega) (C.dec hf) (fun H1 locs1 hP hD hS1 => ?_)
  exact k p l e R s m args below meth c Q D cA h0 ad0 n0 C ad H1 locs1 cells slots la (zAW_set hA rfl ho1 (by show Sum.inl (_, _, _) = Sum.inl (_, _, _); congr 4; exact if_pos rfl) (fun a q' ha => zE_rI_off cA ad w _ q' ha) hA.2.2.1 hP hD) hS1 hg hc hs hl
theorem z_copyL {o0 o1 n1 n2 idx : Nat} {sp dp n : Int32} (hf : zM.f M pc = some (.invokestatic idx, 3)) (hw : Cond.methodLink (zM.y M).cls idx arraycopyName ∈ zT) (ho0 : w.1[o0]? = some (11, n1)) (ho1 : w.1[o1]? = some (11, n2)) (h1 : ¬ sp < 0) (h2 : ¬ dp < 0) (h3 : ¬ n < 0) (h4 : sp.toNatClampNeg + n.toNatClampNeg ≤ n1) (h5 : dp.toNatClampNeg + n.toNatClampNeg ≤ n2) (hd : 1 ≤ d) (hrest : (st.map fun v => v.category).sum ≤ 8)
    (k : zS mc ms d M P (pc + 3) ls st (zrL w o1 (va_cpy (zL w o0) (zL w o1) sp.toNatClampNeg dp.toNatClampNeg n.toNatClampNeg))) : zS mc ms d M P pc ls (.int n :: .int dp :: .ref o1 :: .int sp :: .ref o0 :: st) w := by
  intro p l e R s m args below meth c Q D cA h0 ad0 n0 C ad H locs cells slots la hA hS hg hc hs hl
  have hts := C.2.2.2.2.1
  have hrm := C.2.2.2.2.2.2.2.2.2.1
  refine va_copyl (ty := .long) C.1 C.2.1 (C.2.2.1.trans hl.1.symm) C.2.2.2.1 (hts _ hw) (hts _ z_sy1) (hts _ z_sy2) (hts _ z_sy3) C.2.2.2.2.2.1 hA.1 hA.2.1 hS o0 o1 2 2 (zws_at cA ad ho0) (zws_at cA ad ho1) rfl rfl rfl h1 h2 h3 h4 h5 (fun _ _ => rfl) (by omega) (by rw [zcat]; show _ + (7 + 11) ≤ _; omega) (C.dec hf) (fun H1 locs1 hP hD hS1 => ?_)
  exact k p l e R s m args below meth c Q D cA h0 ad0 n0 C ad H1 locs1 cells slots la (zAW_set hA rfl ho1 (by show Sum.inl (_, _, Sum.inr (Sum.inl _)) = Sum.inl (_, _, Sum.inr (Sum.inl _)); congr 5; exact if_pos rfl) (fun a q' ha => zE_rL_off cA ad w _ q' ha) hA.2.2.1 hP hD) hS1 hg hc hs hl
theorem z_mmax {idx : Nat} {x y : Int32} (hf : zM.f M pc = some (.invokestatic idx, 3)) (hw : Cond.methodLink (zM.y M).cls idx Lib.Math.max.name ∈ zT) (hd : 1 ≤ d) (hrest : (st.map fun v => v.category).sum ≤ 8) (k : zS mc ms d M P (pc + 3) ls (.int (if x < y then y else x) :: st) w) : zS mc ms d M P pc ls (.int y :: .int x :: st) w := by
  intro p l e R s m args below meth c Q D cA h0 ad0 n0 C ad H locs cells slots la hA hS hg hc hs hl
  have hts := C.2.2.2.2.1
  have hrm := C.2.2.2.2.2.2.2.2.2.1
  exact va_mmax C.1 C.2.1 (C.2.2.1.trans hl.1.symm) C.2.2.2.1 (hts _ hw) (hts _ mm_max.1) (hts _ mm_max.2.1) (hts _ mm_max.2.2) (by omega) (by rw [zcat]; omega) (by omega) (by omega) (C.dec hf) (k p l e R s m args below meth c Q D cA h0 ad0 n0 C ad H locs cells slots la hA hS hg hc hs hl)
theorem z_mmin {idx : Nat} {x y : Int32} (hf : zM.f M pc = some (.invokestatic idx, 3)) (hw : Cond.methodLink (zM.y M).cls idx Lib.Math.min.name ∈ zT) (hd : 1 ≤ d) (hrest : (st.map fun v => v.category).sum ≤ 8) (k : zS mc ms d M P (pc + 3) ls (.int (if y < x then y else x) :: st) w) : zS mc ms d M P pc ls (.int y :: .int x :: st) w := by
  intro p l e R s m args below meth c Q D cA h0 ad0 n0 C ad H locs cells slots la hA hS hg hc hs hl
  have hts := C.2.2.2.2.1
  have hrm := C.2.2.2.2.2.2.2.2.2.1
  exact va_mmin C.1 C.2.1 (C.2.2.1.trans hl.1.symm) C.2.2.2.1 (hts _ hw) (hts _ mm_min.1) (hts _ mm_min.2.1) (hts _ mm_min.2.2) (by omega) (by rw [zcat]; omega) (by omega) (by omega) (C.dec hf) (k p l e R s m args below meth c Q D cA h0 ad0 n0 C ad H locs cells slots la hA hS hg hc hs hl)
end Z8
