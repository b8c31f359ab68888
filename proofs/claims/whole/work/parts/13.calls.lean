/-! CALLS: a method's pure run gives its contract, and the contract gives the call -/
def zPre (D : va_G) (cA : Nat → ClassId) (h0 : Nat) (ad : Nat → Nat) (w : zW) (U : State) : Prop := zAW D cA h0 ad w U.heap ∧ va_K D zcl (ztys cA) U ∧ zKC h0 ad U U.heap ∧ h0 ≤ U.heap.size
def zQc (D : va_G) (cA : Nat → ClassId) (h0 : Nat) (ad : Nat → Nat) (n0 : Nat) (P : Option Value → zW → Prop) : Array Value → State → Outcome → State → Prop := fun _ st oc t =>
  (∃ (r : Option Value) (w' : zW) (ad' : Nat → Nat), P r w' ∧ oc = .returned (r.map (cv ad')) ∧ (∀ o, (o < n0 ∨ w'.1.length ≤ o) → ad' o = ad o) ∧ zAW D cA h0 ad' w' t.heap) ∧ va_F (zA h0) st t
abbrev zWs (M : zM) : List Cond := Cond.code (zM.y M) (zM.cc M) (zM.mx M) (zM.rt M) :: zT
theorem zWs_good {M : zM} (ok : zOK M) : GoodIn zT (zWs M) := fun w h => by
  rcases List.mem_cons.mp h with rfl | h
  · exact zT_good _ ok.2.2.2.2
  · exact zT_good w h
theorem cv_args (ad : Nat → Nat) : ∀ (i : Nat) (vs : List Value), lv_args i (vs.map (cv ad)) = cvl ad (lv_args i vs)
  | _, [] => rfl
  | i, v :: vs => by
    show (i, cv ad v) :: lv_args _ (vs.map (cv ad)) = (i, cv ad v) :: cvl ad (lv_args _ vs)
    rw [cv_cat, cv_args ad _ vs]
theorem cv_sl (ad : Nat → Nat) : ∀ (vs : List Value), (lg_sl (vs.map (cv ad))).length = (lg_sl vs).length
  | [] => rfl
  | v :: vs => by
    have h := cv_sl ad vs
    unfold lg_sl at h ⊢
    rw [List.map_cons, List.flatMap_cons, List.flatMap_cons, List.length_append, List.length_append, h, cv_cat]
    split <;> rfl
theorem zofW {l : Launch} {y : MethodName} {ws ws' : List Cond} {rm : Room} {Pc : Array Value → State → Prop} {Qc : Array Value → State → Outcome → State → Prop} {mc ms : Nat} {free : Addr → Prop} {cc : ByteArray} {maxL : Nat} {ret : Option FieldType}
    (hy : plainFor y = true) (hw : ws = Cond.code y cc maxL ret :: ws')
    (body : ∀ p e s m args below meth c s₁, BodyLoose p l y (headSpec ws rm) cc maxL ret e s m args below meth c s₁ → c.maxLocals = maxL → Pc args s →
      W p l e (headSpec ws rm).room s m args below meth c s.heap [] 0 0 (MQ below Qc args s mc ms free) (entryFrame m args maxL)) : Met l y ws rm Pc Qc mc ms free := by
  refine MetFree.of_bodySF (code := cc) (maxLocals := maxL) (ret := ret) hy ?_ ?_
  · intro args s m h hn
    obtain ⟨meth, c, h1, h2, h3, h4, h5, h6, -, -⟩ := Cond.code_spec hn (atoms_spec (ws := ws) h _ (by rw [hw]; exact List.mem_cons_self))
    exact ⟨meth, c, h1, h2, h3, h4, h5, h6⟩
  · intro p e s m args below meth c s₁ B hml hP _
    have hh0 : s₁.heap = s.heap := by rw [B.state]; rfl
    obtain ⟨t, a1, o, b1, b2, b3⟩ := body p e s m args below meth c s₁ B hml hP s₁ hh0 (Stand.of_body B)
    exact ⟨t, o, a1, b1, b2, ⟨b3.1, b3.2⟩⟩
theorem zMet {mc ms d : Nat} {M : zM} {P : Option Value → zW → Prop} {w : zW} {as : List Value} (ok : zOK M) (hX : zM.X M = none) (hl : (lg_sl as).length ≤ zM.mx M) (h : zS mc ms d M P 0 (lv_args 0 as) [] w) (l : Launch) (D : va_G) (cA : Nat → ClassId) (h0 : Nat) (ad : Nat → Nat) :
    Met l (zM.y M) (zWs M) ({ frames := d, cells := mc, slots := ms, locals := 64 * d }) (va_Pc (as.map (cv ad)) (zPre D cA h0 ad w)) (zQc D cA h0 ad w.1.length P) mc ms (zA h0) := by
  refine zofW (cc := zM.cc M) (maxL := zM.mx M) (ret := zM.rt M) ok.2.2.1 rfl ?_
  intro p e s m args below meth c s₁ B hml hv
  obtain ⟨rfl, hA, hK, hKC, hh⟩ := hv
  have hts := atoms_spec (ws := zWs M) B.pre
  have hl0 := lv_entry (as.map (cv ad)) (n := zM.mx M) (by rw [cv_sl]; exact hl)
  rw [cv_args] at hl0
  rw [lg_entry_eq]
  have hlocks := B.notSynchronized
  refine h p l e _ s m _ below meth c _ D cA h0 ad w.1.length ⟨B.exec, B.bytes, hml, findClass_of_methodNamed B.named, fun w hw => hts w (List.mem_cons_of_mem _ hw), hK, hKC, hh, (name_of_methodNamed B.named B.method).1, ⟨Nat.le_refl _, Nat.le_refl _⟩, ok.1, fun x hx => (by rw [hX] at hx; cases hx), ?_⟩ ad s.heap [] 0 0 _ hA va_S.rf ⟨fun o _ => rfl, Nat.le_refl _⟩ (by show 0 + mc ≤ mc; omega) (by show 0 + ms ≤ ms; omega) hl0
  intro r w' hp ad' H locs cells slots pc ls hA' hS' hag hc hs hr _
  refine W.widen (k := mc) (n := ms) hc hs ?_
  have hret := B.returns
  rcases hr with ⟨rfl, h1, h2⟩ | ⟨v, ty, rfl, h1, hn, h2⟩ | ⟨v, rfl, h1, h2⟩ | ⟨v, C0, h3, h1, h2⟩ | ⟨x9, hx9, -⟩
  · exact W.vret B.exec B.bytes (hret.trans h1) (fun t ht hW => ⟨⟨_, w', ad', hp, rfl, hag, by rw [ht]; exact hA'⟩, hS'.F ht⟩) hS'.2.2 (ok.1 _ _ h2)
  · exact W.zret B.exec B.bytes (hret.trans h1) hn (fun t ht hW => ⟨⟨_, w', ad', hp, rfl, hag, by rw [ht]; exact hA'⟩, hS'.F ht⟩) hS'.2.2 (ok.1 _ _ h2)
  · exact W.lret B.exec B.bytes (hret.trans h1) (fun t ht hW => ⟨⟨_, w', ad', hp, rfl, hag, by rw [ht]; exact hA'⟩, hS'.F ht⟩) hS'.2.2 (ok.1 _ _ h2)
  · rcases h3 with rfl | rfl
    · exact W.aret (v := .null) B.exec B.bytes (hret.trans h1) (Or.inl ⟨C0, rfl⟩) (Or.inl rfl) (fun t ht hW => ⟨⟨_, w', ad', hp, rfl, hag, by rw [ht]; exact hA'⟩, hS'.F ht⟩) hS'.2.2 (ok.1 _ _ h2)
    · exact W.aret (v := .ref (ad' v)) B.exec B.bytes (hret.trans h1) (Or.inl ⟨C0, rfl⟩) (Or.inr ⟨_, rfl⟩) (fun t ht hW => ⟨⟨_, w', ad', hp, rfl, hag, by rw [ht]; exact hA'⟩, hS'.F ht⟩) hS'.2.2 (ok.1 _ _ h2)
  · rw [hX] at hx9; cases hx9
/-- a value that names no cell between n1 and n2 -/
def zvk (n1 n2 : Nat) (v : Value) : Prop := ∀ o, v = .ref o → o < n1 ∨ n2 ≤ o
theorem zvk_cv {n1 n2 : Nat} {v : Value} {ad ad' : Nat → Nat} (h : zvk n1 n2 v) (ha : ∀ o, (o < n1 ∨ n2 ≤ o) → ad' o = ad o) : cv ad' v = cv ad v := by
  cases v with
  | ref o => show Value.ref _ = Value.ref _; rw [ha o (h o rfl)]
  | _ => rfl
def zVl (w w1 : zW) (ls : List (Nat × Value)) (st : List Value) : Prop := w1.1.length = w.1.length ∨ (∀ q ∈ ls, zvk w.1.length w1.1.length q.2) ∧ ∀ v ∈ st, zvk w.1.length w1.1.length v
theorem zVl_ls {w w1 : zW} {ls : List (Nat × Value)} {st : List Value} (h : zVl w w1 ls st) {ad ad' : Nat → Nat} (ha : ∀ o, (o < w.1.length ∨ w1.1.length ≤ o) → ad' o = ad o) : cvl ad' ls = cvl ad ls ∧ st.map (cv ad') = st.map (cv ad) := by
  have h2 : (∀ q ∈ ls, zvk w.1.length w1.1.length q.2) ∧ ∀ v ∈ st, zvk w.1.length w1.1.length v := by
    rcases h with h | h
    · rw [h]; exact ⟨fun q _ o _ => Nat.lt_or_ge _ _, fun v _ o _ => Nat.lt_or_ge _ _⟩
    · exact h
  exact ⟨List.map_congr_left fun q hq => by rw [zvk_cv (h2.1 q hq) ha], List.map_congr_left fun v hv => zvk_cv (h2.2 v hv) ha⟩
section Z7
variable {mc ms d : Nat} {M : zM} {P : Option Value → zW → Prop} {pc : Nat} {ls : List (Nat × Value)} {st : List Value} {w : zW}
theorem z_after {p : Program} {l : Launch} {e : Env} {R : Room} {s : State} {m : MethodId} {args : Array Value} {below : List Frame} {meth : Method} {c : Code} {Q : State → Prop} {D : va_G} {cA : Nat → ClassId} {h0 : Nat} {ad0 : Nat → Nat} {n0 : Nat} (C : zCtx d M P p l e R s m args below meth c Q D cA h0 ad0 n0)
    {ad : Nat → Nat} {H : Heap} {locs : List Loc} {cells slots : Nat} {la : Array Slot} (hS : va_S (zA h0) s.heap H locs) (hg : (∀ o, (o < n0 ∨ w.1.length ≤ o) → ad o = ad0 o) ∧ n0 ≤ w.1.length) (hc : cells + mc ≤ R.cells) (hs : slots + ms ≤ R.slots) (hl : lv_has la (zM.mx M) (cvl ad ls))
    {mc1 ms1 mc2 ms2 : Nat} {P1 : Option Value → zW → Prop} {rest st0 : List Value} {a : Array Value} (hr : va_Run p l e R s m args below meth c H locs cells slots mc1 ms1 (F0 m pc la st0) (rest.map (cv ad)) (zQc D cA h0 ad w.1.length P1 a) (zA h0))
    (hmc : mc1 + mc2 ≤ mc) (hms : ms1 + ms2 ≤ ms) (k : ∀ r1 w1, P1 r1 w1 → (w.1.length ≤ w1.1.length ∧ zVl w w1 ls rest) ∧ zS mc2 ms2 d M P (pc + 3) ls (r1.toList ++ rest) w1) : W p l e R s m args below meth c H locs cells slots Q (F0 m pc la st0) := by
  intro T hT X
  obtain ⟨v, st₀, t, T', L, hz, X', hL, e1, e2, ⟨⟨r1, w1, ad', hp1, hv', hag, hA'⟩, hF1, hF2⟩, go⟩ := hr T hT X
  obtain ⟨⟨hle, hv⟩, k⟩ := k r1 w1 hp1
  cases hv'
  rw [hz] at hF1 hF2
  obtain ⟨q1, q2⟩ := zVl_ls hv hag
  have hS' : va_S (zA h0) s.heap T'.heap (locs ++ L) := ⟨Nat.le_trans hS.1 (by rw [e1]; exact hF1), fun q h1 h2 => by rw [e1, hF2 q (Nat.lt_of_lt_of_le h1 hS.1) h2]; exact hS.2.1 q h1 h2, fun q hq => by
      rcases List.mem_append.mp hq with h | h
      · exact hS.2.2 q h
      · exact hL q h⟩
  obtain ⟨t2, a1, b1⟩ := k p l e R s m args below meth c Q D cA h0 ad0 n0 C ad' T'.heap (locs ++ L) (cells + mc1) (slots + ms1) la (by rw [e1]; exact hA') hS' ⟨fun o ho => by
      rcases ho with ho | ho
      · rw [hag o (Or.inl (Nat.lt_of_lt_of_le ho hg.2))]; exact hg.1 o (Or.inl ho)
      · rw [hag o (Or.inr ho)]; exact hg.1 o (Or.inr (Nat.le_trans hle ho)), Nat.le_trans hg.2 hle⟩ (by omega) (by omega) (by rw [q1]; exact hl) T' rfl X'
  have e5 : ((r1.toList ++ rest).map (cv ad')) = (r1.map (cv ad')).toList ++ rest.map (cv ad) := by
    rw [List.map_append, q2]
    cases r1 <;> rfl
  rw [e5] at a1
  exact ⟨t2, go t2 a1, b1⟩
theorem zPre_blind (D : va_G) (cA : Nat → ClassId) (h0 : Nat) (ad : Nat → Nat) (as : List Value) : FrameBlind (va_Pc (as.map (cv ad)) (zPre D cA h0 ad w)) := by
  intro a U g mk q
  obtain ⟨q0, qA, qK, qC, qh⟩ := q
  exact ⟨q0, qA, va_K.moved (u := U) (U := U.calling g mk a) (Vm.Alike.refl U.vm) qK, zKC.go (U := U.calling g mk a) qC (Or.inr rfl) (fun _ _ _ => rfl) (fun _ _ => rfl), qh⟩
theorem zPre_now {p : Program} {l : Launch} {e : Env} {R : Room} {s : State} {m : MethodId} {args : Array Value} {below : List Frame} {meth : Method} {c : Code} {Q : State → Prop} {D : va_G} {cA : Nat → ClassId} {h0 : Nat} {ad0 : Nat → Nat} {n0 : Nat} (C : zCtx d M P p l e R s m args below meth c Q D cA h0 ad0 n0)
    {ad : Nat → Nat} {H : Heap} {locs : List Loc} (hA : zAW D cA h0 ad w H) (hS : va_S (zA h0) s.heap H locs) (hg : (∀ o, (o < n0 ∨ w.1.length ≤ o) → ad o = ad0 o) ∧ n0 ≤ w.1.length) {U : State} (hU : U.heap = H) (hW : s.WarmedH U.vm) : zPre D cA h0 ad w U := by
  refine ⟨by rw [hU]; exact hA, va_K.moved hW.alike C.2.2.2.2.2.1, zKC.go C.2.2.2.2.2.2.1 (Or.inl hW) (fun a h1 h2 => by rw [hU]; exact hS.2.1 a h1 h2) (fun o ho => hg.1 o (Or.inr (Nat.le_trans hA.2.2.2.1 ho))), by rw [hU]; exact Nat.le_trans C.2.2.2.2.2.2.2.1 hS.1⟩
theorem zrm {d d2 R1 R2 mx : Nat} (h : d ≤ R1 ∧ 64 * d ≤ R2) (hd : d2 < d) (hm : mx ≤ 45) : d2 + 1 ≤ R1 ∧ 8 + (mx + 11) + 64 * d2 ≤ R2 := by omega
theorem zcat (ad : Nat → Nat) (rest : List Value) : ((rest.map (cv ad)).map fun v => v.category) = rest.map fun v => v.category := by
  rw [List.map_map]; exact List.map_congr_left fun v _ => cv_cat ad v
theorem z_cS {M2 : zM} {mc1 ms1 mc2 ms2 d2 n idx : Nat} {P1 : Option Value → zW → Prop} {as rest : List Value} (ok : zOK M2) (hX : zM.X M2 = none) (hf : zM.f M pc = some (.invokestatic idx, 3)) (hk : zLkS (zM.y M).cls idx (zM.y M2) n) (hd : d2 < d) (hl2 : (lg_sl as).length ≤ zM.mx M2) (hrest : (rest.map fun v => v.category).sum ≤ 8) (hmc : mc1 + mc2 ≤ mc) (hms : ms1 + ms2 ≤ ms) (hM : zS mc1 ms1 d2 M2 P1 0 (lv_args 0 as) [] w) (k : ∀ r1 w1, P1 r1 w1 → (w.1.length ≤ w1.1.length ∧ zVl w w1 ls rest) ∧ zS mc2 ms2 d M P (pc + 3) ls (r1.toList ++ rest) w1) (hn : as.length = n) (hst : as.reverse ++ rest = st) : zS mc ms d M P pc ls st w := by
  intro p l e R s m args below meth c Q D cA h0 ad0 n0 C ad H locs cells slots la hA hS hg hc hs hl
  subst hst
  have hMet := zMet ok hX hl2 hM l D cA h0 ad
  have hrm := zrm C.2.2.2.2.2.2.2.2.2.1 hd ok.2.1
  have hts := C.2.2.2.2.1
  exact z_after (rest := rest) C hS hg hc hs hl (va_runS (As := as.map (cv ad)) (Ts := zT) ⟨C.1, C.2.1, C.2.2.1, C.2.2.2.1, hts⟩ hMet ⟨callB_of n hts (zWs_good ok) rfl rfl rfl (hts _ hk.1.2.1) (hts _ hk.1.1) ⟨ok.2.2.2.1.1, ok.2.2.2.1.2, hk.1.2.2⟩ hrm, hts _ hk.2⟩ ⟨zPre_blind D cA h0 ad as, fun U hU hW => ⟨rfl, zPre_now C hA hS hg hU hW⟩⟩ rfl (by rw [List.length_map]; exact hn) hl.1 (by simp [cv]) (by show 2 * 0 + _ ≤ 8; rw [zcat]; omega) (C.dec hf) ⟨by omega, by omega⟩) hmc hms k
theorem z_cSN {M2 : zM} {mc1 ms1 mc2 ms2 d2 n idx : Nat} {P1 : Option Value → zW → Prop} {as rest : List Value} (ok : zOK M2) (hX : zM.X M2 = none) (hf : zM.f M pc = some (.invokestatic idx, 3)) (hk : zLkSN (zM.y M).cls idx (zM.y M2) n) (hd : d2 < d) (hl2 : (lg_sl as).length ≤ zM.mx M2) (hrest : (rest.map fun v => v.category).sum ≤ 8) (hmc : mc1 + mc2 ≤ mc) (hms : ms1 + ms2 ≤ ms) (hM : zS mc1 ms1 d2 M2 P1 0 (lv_args 0 as) [] w) (k : ∀ r1 w1, P1 r1 w1 → (w.1.length ≤ w1.1.length ∧ zVl w w1 ls rest) ∧ zS mc2 ms2 d M P (pc + 3) ls (r1.toList ++ rest) w1) (hn : as.length = n) (hst : as.reverse ++ rest = st) : zS mc ms d M P pc ls st w := by
  intro p l e R s m args below meth c Q D cA h0 ad0 n0 C ad H locs cells slots la hA hS hg hc hs hl
  subst hst
  have hMet := zMet ok hX hl2 hM l D cA h0 ad
  have hrm := zrm C.2.2.2.2.2.2.2.2.2.1 hd ok.2.1
  have hts := C.2.2.2.2.1
  obtain ⟨hh, hnest⟩ := hk.1.1
  exact z_after (rest := rest) C hS hg hc hs hl (va_runSN (As := as.map (cv ad)) (Ts := zT) ⟨C.1, C.2.1, C.2.2.1, C.2.2.2.1, hts⟩ hMet ⟨va_cnB n hts (zWs_good ok) rfl rfl rfl (C.2.2.2.2.2.2.1.2.2.2.2.2.1 _ hnest) (hts _ hk.1.2.1) ⟨ok.2.2.2.1.1, ok.2.2.2.1.2, hk.1.2.2⟩ hrm, hts _ hk.2, trivial⟩ ⟨zPre_blind D cA h0 ad as, fun U hU hW => ⟨rfl, zPre_now C hA hS hg hU hW⟩⟩ rfl (by rw [List.length_map]; exact hn) hl.1 (by simp [cv]) (by show 2 * 0 + _ ≤ 8; rw [zcat]; omega) (C.dec hf) ⟨by omega, by omega⟩) hmc hms k
theorem z_cI {M2 : zM} {mc1 ms1 mc2 ms2 d2 n idx : Nat} {P1 : Option Value → zW → Prop} {as rest : List Value} {o : Nat} (hrt : zM.rt M2 = none) (ok : zOK M2) (hX : zM.X M2 = none) (hf : zM.f M pc = some (.invokespecial idx, 3)) (hk : zLkI (zM.y M).cls idx (zM.y M2) n) (hd : d2 < d) (hl2 : (lg_sl (.ref o :: as)).length ≤ zM.mx M2) (hrest : (rest.map fun v => v.category).sum ≤ 8) (hmc : mc1 + mc2 ≤ mc) (hms : ms1 + ms2 ≤ ms) (hM : zS mc1 ms1 d2 M2 P1 0 (lv_args 0 (.ref o :: as)) [] w) (k : ∀ r1 w1, P1 r1 w1 → (w.1.length ≤ w1.1.length ∧ zVl w w1 ls rest) ∧ zS mc2 ms2 d M P (pc + 3) ls (r1.toList ++ rest) w1) (hn : as.length = n) (hst : as.reverse ++ .ref o :: rest = st) : zS mc ms d M P pc ls st w := by
  intro p l e R s m args below meth c Q D cA h0 ad0 n0 C ad H locs cells slots la hA hS hg hc hs hl
  subst hst
  have hMet := zMet ok hX hl2 hM l D cA h0 ad
  have hrm := zrm C.2.2.2.2.2.2.2.2.2.1 hd ok.2.1
  have hts := C.2.2.2.2.1
  have cb := callB_of (rm := ({ frames := d2, cells := mc1, slots := ms1, locals := 64 * d2 } : Room)) (mc := mc1) (ms := ms1) n hts (zWs_good ok) rfl rfl rfl (hts _ hk.1.2.1) (hts _ hk.1.1) ⟨ok.2.2.2.1.1, ok.2.2.2.1.2, hk.1.2.2⟩ hrm
  have hMet : Met l (zM.y M2) (zWs M2) ({ frames := d2, cells := mc1, slots := ms1, locals := 64 * d2 } : Room) _ _ mc1 ms1 _ := hMet
  unfold zWs at cb hMet
  rw [hrt] at cb hMet
  exact z_after (rest := rest) C hS hg hc hs hl (va_runI (As := as.map (cv ad)) (Ts := zT) ⟨C.1, C.2.1, C.2.2.1, C.2.2.2.1, hts⟩ hMet ⟨cb, hk.2.1, hts _ hk.2.2⟩ ⟨zPre_blind D cA h0 ad (.ref o :: as), fun U hU hW => ⟨rfl, zPre_now C hA hS hg hU hW⟩⟩ rfl (by rw [List.length_map]; exact hn) hl.1 (by simp [cv]) (by show 2 * 0 + _ ≤ 8; rw [zcat]; omega) (C.dec hf) ⟨by omega, by omega⟩) hmc hms k
theorem z_cIN {M2 : zM} {mc1 ms1 mc2 ms2 d2 n idx : Nat} {P1 : Option Value → zW → Prop} {as rest : List Value} {o : Nat} (hrt : zM.rt M2 = none) (ok : zOK M2) (hX : zM.X M2 = none) (hf : zM.f M pc = some (.invokespecial idx, 3)) (hk : zLkIN (zM.y M).cls idx (zM.y M2) n) (hd : d2 < d) (hl2 : (lg_sl (.ref o :: as)).length ≤ zM.mx M2) (hrest : (rest.map fun v => v.category).sum ≤ 8) (hmc : mc1 + mc2 ≤ mc) (hms : ms1 + ms2 ≤ ms) (hM : zS mc1 ms1 d2 M2 P1 0 (lv_args 0 (.ref o :: as)) [] w) (k : ∀ r1 w1, P1 r1 w1 → (w.1.length ≤ w1.1.length ∧ zVl w w1 ls rest) ∧ zS mc2 ms2 d M P (pc + 3) ls (r1.toList ++ rest) w1) (hn : as.length = n) (hst : as.reverse ++ .ref o :: rest = st) : zS mc ms d M P pc ls st w := by
  intro p l e R s m args below meth c Q D cA h0 ad0 n0 C ad H locs cells slots la hA hS hg hc hs hl
  subst hst
  have hMet := zMet ok hX hl2 hM l D cA h0 ad
  have hrm := zrm C.2.2.2.2.2.2.2.2.2.1 hd ok.2.1
  have hts := C.2.2.2.2.1
  obtain ⟨hh, hnest⟩ := hk.1.1
  have cb := va_cnB (rm := ({ frames := d2, cells := mc1, slots := ms1, locals := 64 * d2 } : Room)) (mc := mc1) (ms := ms1) n hts (zWs_good ok) rfl rfl rfl (C.2.2.2.2.2.2.1.2.2.2.2.2.1 _ hnest) (hts _ hk.1.2.1) ⟨ok.2.2.2.1.1, ok.2.2.2.1.2, hk.1.2.2⟩ hrm
  have hMet : Met l (zM.y M2) (zWs M2) ({ frames := d2, cells := mc1, slots := ms1, locals := 64 * d2 } : Room) _ _ mc1 ms1 _ := hMet
  unfold zWs at cb hMet
  rw [hrt] at cb hMet
  exact z_after (rest := rest) C hS hg hc hs hl (va_runIN (As := as.map (cv ad)) (Ts := zT) ⟨C.1, C.2.1, C.2.2.1, C.2.2.2.1, hts⟩ hMet ⟨cb, hk.2.1, hts _ hk.2.2⟩ ⟨zPre_blind D cA h0 ad (.ref o :: as), fun U hU hW => ⟨rfl, zPre_now C hA hS hg hU hW⟩⟩ rfl (by rw [List.length_map]; exact hn) hl.1 (by simp [cv]) (by show 2 * 0 + _ ≤ 8; rw [zcat]; omega) (C.dec hf) ⟨by omega, by omega⟩) hmc hms k
theorem z_cV {M2 : zM} {mc1 ms1 mc2 ms2 d2 n idx : Nat} {P1 : Option Value → zW → Prop} {as rest : List Value} {o c0 nn : Nat} {q : vw_C} (hq : zcl[c0]? = some q) (hqn : q.1 = (zM.y M2).cls) (ho : w.1[o]? = some (c0, nn)) (ok : zOK M2) (hX : zM.X M2 = none) (hf : zM.f M pc = some (.invokevirtual idx, 3)) (hk : zLkV (zM.y M).cls idx (zM.y M2) n) (hd : d2 < d) (hl2 : (lg_sl (.ref o :: as)).length ≤ zM.mx M2) (hrest : (rest.map fun v => v.category).sum ≤ 8) (hmc : mc1 + mc2 ≤ mc) (hms : ms1 + ms2 ≤ ms) (hM : zS mc1 ms1 d2 M2 P1 0 (lv_args 0 (.ref o :: as)) [] w) (k : ∀ r1 w1, P1 r1 w1 → (w.1.length ≤ w1.1.length ∧ zVl w w1 ls rest) ∧ zS mc2 ms2 d M P (pc + 3) ls (r1.toList ++ rest) w1) (hn : as.length = n) (hst : as.reverse ++ .ref o :: rest = st) : zS mc ms d M P pc ls st w := by
  intro p l e R s m args below meth c Q D cA h0 ad0 n0 C ad H locs cells slots la hA hS hg hc hs hl
  subst hst
  have hMet := zMet ok hX hl2 hM l D cA h0 ad
  have hrm := zrm C.2.2.2.2.2.2.2.2.2.1 hd ok.2.1
  have hts := C.2.2.2.2.1
  have he := zws_at cA ad ho
  rw [zE_obj cA ad w o (zcl_lt hq)] at he
  have hrecv := va_recv C.2.2.2.2.2.1 hA.1 hq he
  rw [hqn] at hrecv
  exact z_after (rest := rest) C hS hg hc hs hl (va_runV (C := (zM.y M2).cls) (As := as.map (cv ad)) (Ts := zT) ⟨C.1, C.2.1, C.2.2.1, C.2.2.2.1, hts⟩ hMet ⟨callB_of n hts (zWs_good ok) rfl rfl rfl (hts _ hk.1.2.1) (hts _ hk.1.1) ⟨ok.2.2.2.1.1, ok.2.2.2.1.2, hk.1.2.2⟩ hrm, hts _ hk.2.1, hts _ hk.2.2⟩ ⟨zPre_blind D cA h0 ad (.ref o :: as), hrecv, fun U hU hW => ⟨rfl, zPre_now C hA hS hg hU hW⟩⟩ rfl (by rw [List.length_map]; exact hn) hl.1 (by simp [cv]) (by show 2 * 0 + _ ≤ 8; rw [zcat]; omega) (C.dec hf) ⟨by omega, by omega⟩) hmc hms k
end Z7
