/-! THE THROW: its words; a method that throws; its caller that catches -/
def kxN : String := "java/util/NoSuchElementException"
def kxL : List String := ["java/lang/RuntimeException", "java/lang/Exception"]
theorem kx_w : ∀ w ∈ (vx_at0 "SmokeWeds" 157 kxN kxL).filter goodWord, w ∈ zT := by decide +kernel
def kxB : List Cond := (vx_at0 "SmokeWeds" 157 kxN kxL).filter (fun w => !goodWord w)
theorem kx_n : ∀ w ∈ kxB, w.onTables = true ∧ w.faceAtom = true ∧ w ∈ lw_tbl := by decide +kernel
theorem kx_c : Cond.castable kxN kxN ∈ kxB := by decide +kernel
theorem kx_o : ∀ w ∈ Cond.classLink "SmokeWeds" 155 kxN :: Cond.initialized kxN :: vx_at0 "SmokeWeds" 157 kxN kxL, vx_ot w = true := by decide +kernel
theorem kx_at1 : Cond.classLink "SmokeWeds" 155 kxN ∈ zT := by decide +kernel
theorem kx_at2 : Cond.initialized kxN ∈ zT := by decide +kernel
theorem kx_at4 : Cond.laysStatic Jvm.Bundle.tN "UNASSIGNED_STACK" Jvm.Bundle.steD ∈ lw_tbl := by decide +kernel
theorem kx_at5 : Cond.laysStatic Jvm.Bundle.tN "SUPPRESSED_SENTINEL" Jvm.Bundle.listD ∈ lw_tbl := by decide +kernel
theorem kx_at6 : Cond.initialized Jvm.Bundle.tN ∈ lw_tbl := by decide +kernel
theorem kx_at7 : Cond.classLink "SmokeWedsLaw" 13 kxN ∈ zT := by decide +kernel
theorem kx_cast {w : Cond} (hw : w ∈ kxB) {A B : Array Value} {s U : State} (h : w.before A s = true) (hvm : s.vm.Alike U.vm) : w.before B U = true := by
  obtain ⟨h1, h2, -⟩ := kx_n w hw
  have h3 := Cond.faceAtom_setVm (args := A) hvm w h2 h
  rw [Cond.onTables_vm (A' := B) (U' := U) U.vm w h1] at h3
  exact h3
def kxT (h0 : Nat) (U : State) : Prop := vx_Zq Jvm.Bundle.tN "UNASSIGNED_STACK" Jvm.Bundle.steD (zA h0) U U.heap ∧ vx_Zq Jvm.Bundle.tN "SUPPRESSED_SENTINEL" Jvm.Bundle.listD (zA h0) U U.heap ∧ ∀ v ∈ kxB, v.before #[] U = true
theorem kxT.go {h0 : Nat} {u U : State} (h : kxT h0 u) (hvm : u.vm.Alike U.vm) (hq : ∀ a : Nat, a < u.heap.size → ¬ zA h0 a → U.heap[a]? = u.heap[a]?) : kxT h0 U := ⟨(vx_Zq.moved hvm h.1).kept hq, (vx_Zq.moved hvm h.2.1).kept hq, fun v hv => kx_cast hv (h.2.2 v hv) hvm⟩
/-- a pure run, told as steps of the machine up to its end -/
theorem z_reach {mc ms d : Nat} {M : zM} {P : Option Value → zW → Prop} {pc : Nat} {ls : List (Nat × Value)} {st : List Value} {w : zW} (k : zS mc ms d M P pc ls st w) {p : Program} {l : Launch} {e : Env} {R : Room} {s : State} {m : MethodId} {args : Array Value} {below : List Frame} {meth : Method} {c : Code} {D : va_G} {cA : Nat → ClassId} {h0 : Nat} {ad0 : Nat → Nat} {n0 : Nat}
    (c1 : p.tables.exec = Jvm.exec) (c2 : c.code = zM.cc M) (c3 : c.maxLocals = zM.mx M) (c4 : s.vm.findClass (zM.y M).cls = some m.cls) (c5 : ∀ w ∈ zT, w.before args s = true) (c6 : va_K D zcl (ztys cA) s) (c7 : zKC h0 ad0 s s.heap) (c8 : h0 ≤ s.heap.size) (c9 : meth.name = (zM.y M).name) (c10 : d ≤ R.frames ∧ 64 * d ≤ R.locals) (c11 : ∀ pc q, zM.f M pc = some q → decode (zM.cc M) pc = .ok q) (c12 : ∀ x, zM.X M = some x → 5000 ≤ x.1)
    {ad : Nat → Nat} {H : Heap} {locs : List Loc} {cells slots : Nat} {la : Array Slot} (hA : zAW D cA h0 ad w H) (hS : va_S (zA h0) s.heap H locs) (hg : (∀ o, (o < n0 ∨ w.1.length ≤ o) → ad o = ad0 o) ∧ n0 ≤ w.1.length) (hc : cells + mc ≤ R.cells) (hs : slots + ms ≤ R.slots) (hl : lv_has la (zM.mx M) (cvl ad ls)) {T : State} (hT : T.heap = H) (X : Stand p l e R s m args below meth c T locs cells slots) :
    ∃ (r : Option Value) (w' : zW) (ad' : Nat → Nat) (T' : State) (locs' : List Loc) (pc' : Nat) (la' : Array Slot), P r w' ∧ zAW D cA h0 ad' w' T'.heap ∧ va_S (zA h0) s.heap T'.heap locs' ∧ (∀ o, (o < n0 ∨ w'.1.length ≤ o) → ad' o = ad0 o) ∧ zRet M r pc' ∧ la'.size = zM.mx M ∧ Stand p l e R s m args below meth c T' locs' (cells + mc) (slots + ms) ∧ Steps p.tables e below (T.setTop (F0 m pc la (st.map (cv ad)))) (T'.setTop (F0 m pc' la' ((r.map (cv ad')).toList))) := by
  have hroom : s.hasRoom e.platform ({ R with cells := cells + mc, slots := slots + ms } : Room) = true := by
    have h := X.room
    simp only [State.hasRoom, Bool.and_eq_true, decide_eq_true_eq] at h ⊢
    obtain ⟨⟨⟨h1, h7⟩, h8⟩, h9⟩ := h
    exact ⟨⟨⟨h1, by omega⟩, by omega⟩, h9⟩
  have X2 : Stand p l e ({ R with cells := cells + mc, slots := slots + ms } : Room) s m args below meth c T locs cells slots := { X with room := hroom }
  obtain ⟨t, st1, r, w', ad', T', locs', pc', la', q1, q2, q3, q4, q5, q6, q7, q8⟩ := k p l e ({ R with cells := cells + mc, slots := slots + ms } : Room) s m args below meth c (fun t => ∃ (r : Option Value) (w' : zW) (ad' : Nat → Nat) (T' : State) (locs' : List Loc) (pc' : Nat) (la' : Array Slot), P r w' ∧ zAW D cA h0 ad' w' T'.heap ∧ va_S (zA h0) s.heap T'.heap locs' ∧ (∀ o, (o < n0 ∨ w'.1.length ≤ o) → ad' o = ad0 o) ∧ zRet M r pc' ∧ la'.size = zM.mx M ∧ Stand p l e R s m args below meth c T' locs' (cells + mc) (slots + ms) ∧ t = T'.setTop (F0 m pc' la' ((r.map (cv ad')).toList))) D cA h0 ad0 n0
    ⟨c1, c2, c3, c4, c5, c6, c7, c8, c9, c10, c11, fun x hx h5 => absurd h5 (Nat.not_lt.mpr (c12 x hx)), fun r w' hp ad' H' locs' cells' slots' pc' la' hA' hS' hag hc' hs' hr hsz => by
      intro T' hT' X'
      exact ⟨_, Steps.refl _, r, w', ad', T', locs', pc', la', hp, by rw [hT']; exact hA', by rw [hT']; exact hS', hag, hr, hsz, stand_widen ({ X' with room := X.room } : Stand p l e R s m args below meth c T' locs' cells' slots') hc' hs', rfl⟩⟩
    ad H locs cells slots la hA hS hg (Nat.le_refl _) (Nat.le_refl _) hl T hT X2
  exact ⟨r, w', ad', T', locs', pc', la', q1, q2, q3, q4, q5, q6, q7, by rw [← q8]; exact st1⟩
theorem zAW_more {D : va_G} {cA : Nat → ClassId} {h0 : Nat} {ad : Nat → Nat} {w : zW} {H H1 : Heap} (h : zAW D cA h0 ad w H) (hq : ∀ q : Nat, q < H.size → H1[q]? = H[q]?) : zAW D cA h0 ad w H1 := ⟨h.1.kept (fun k q hk => hq q.1 (h.1 k q hk).lt), h.2⟩
def kxP (D : va_G) (cA : Nat → ClassId) (h0 : Nat) (ad : Nat → Nat) (w : zW) (U : State) : Prop := zPre D cA h0 ad w U ∧ kxT h0 U
theorem kxP_blind (D : va_G) (cA : Nat → ClassId) (h0 : Nat) (ad : Nat → Nat) (w : zW) (as : List Value) : FrameBlind (va_Pc (as.map (cv ad)) (kxP D cA h0 ad w)) := by
  intro a U g mk q
  obtain ⟨q0, ⟨qA, qK, qC, qh⟩, qT⟩ := q
  exact ⟨q0, ⟨qA, va_K.moved (u := U) (U := U.calling g mk a) (Vm.Alike.refl U.vm) qK, zKC.go (U := U.calling g mk a) qC (Or.inr rfl) (fun _ _ _ => rfl) (fun _ _ => rfl), qh⟩, kxT.go (U := U.calling g mk a) qT (Vm.Alike.refl U.vm) (fun _ _ _ => rfl)⟩
set_option maxHeartbeats 2000000 in
theorem kx_soot {l : Launch} (hlt : l.stackTraces = false) {w : zW} {s0 C R H : Nat} {F G : Int32 → Int32 → Int32 → Int32} (hx : zX w s0) (hi : zXi (zI w) s0 C R H F G) (x y b : Int32) (D : va_G) (cA : Nat → ClassId) (h0 : Nat) (ad : Nat → Nat) :
    vx_Met l (zM.y m_SW_soot) (zWs m_SW_soot) ({ frames := 9, cells := 1, slots := 6, locals := 576 } : Room) (va_Pc ([Value.ref 0, .int x, .int y, .int b].map (cv ad)) (kxP D cA h0 ad w)) (va_Qi (fun r (_ : Unit) => sootV (zI w) C R H x y b = some r) (fun _ t => zAW D cA h0 ad w t.heap) (zA h0)) (vx_X (fun (_ : Unit) => sootV (zI w) C R H x y b = none) (fun E _ t => E = kxN ∧ zAW D cA h0 ad w t.heap) (zA h0)) 1 6 (zA h0) := by
  refine vx_ofW (cc := zM.cc m_SW_soot) (maxL := 4) (ret := some .int) (by decide +kernel) rfl ?_
  intro p e s m args below meth c s₁ B hml hnt hv
  obtain ⟨rfl, ⟨hA, hK, hKC, hh⟩, hU, hN, hcast⟩ := hv
  have hts := atoms_spec (ws := zWs m_SW_soot) B.pre
  have hts2 : ∀ v ∈ zT, v.before _ s = true := fun v hv => hts v (List.mem_cons_of_mem _ hv)
  have hl0 := lv_entry ([Value.ref 0, .int x, .int y, .int b].map (cv ad)) (n := 4) (Nat.le_of_ble_eq_true rfl)
  rw [cv_args] at hl0
  rw [lg_entry_eq]
  intro T hT X
  have hlocks := B.notSynchronized
  have hown : s.vm.findClass "SmokeWeds" = some m.cls := findClass_of_methodNamed B.named
  obtain ⟨r, w', ad', T', locs', pc', la', hp, hA', hS', hag, hr, hsz, X', st⟩ := z_reach (c_SW_sootx hx hi x y b 8 (by decide)) (D := D) (cA := cA) (h0 := h0) (ad0 := ad) (n0 := w.1.length) B.exec B.bytes hml hown hts2 hK hKC hh (name_of_methodNamed B.named B.method).1 ⟨by show 8 ≤ 9; decide, by show 64 * 8 ≤ 576; decide⟩ ok_SW_soot.1 (fun z hz => by cases hz; decide) hA va_S.rf ⟨fun o _ => rfl, Nat.le_refl _⟩ (by show 0 + 0 ≤ 1; decide) (by show 0 + 0 ≤ 6; decide) hl0 hT X
  have hw : w' = w := by
    rcases hp with ⟨v, -, -, h⟩ | ⟨-, -, h⟩ <;> exact h
  subst hw
  have had : ad' = ad := by
    funext o
    exact hag o (Nat.lt_or_ge _ _)
  subst had
  rcases hp with ⟨v, hv, rfl, -⟩ | ⟨hv, rfl, -⟩
  · rcases hr with ⟨h, -⟩ | ⟨u, ty, h, h1, hn, h2⟩ | ⟨u, h, -⟩ | ⟨u, C0, h, -⟩ | ⟨z, -, -, h, -⟩
    · cases h
    · cases h
      have K : W p l e ({ frames := 9, cells := 1, slots := 6, locals := 576 } : Room) s m ([Value.ref 0, .int x, .int y, .int b].map (cv ad')).toArray below meth c T'.heap locs' (0 + 0) (0 + 0) (vx_MQ below (va_Qi (fun r (_ : Unit) => sootV (zI w') C R H x y b = some r) (fun _ t => zAW D cA h0 ad' w' t.heap) (zA h0)) (vx_X (fun (_ : Unit) => sootV (zI w') C R H x y b = none) (fun E _ t => E = kxN ∧ zAW D cA h0 ad' w' t.heap) (zA h0)) ([Value.ref 0, .int x, .int y, .int b].map (cv ad')).toArray s 1 6 (zA h0)) (F0 m pc' la' [.int v]) := W.widen (k := 1) (n := 6) (H := T'.heap) (locs := locs') (cells := 0 + 0) (slots := 0 + 0) (by decide) (by decide) (vx_ret (XC := vx_X (fun (_ : Unit) => sootV (zI w') C R H x y b = none) (fun E _ t => E = kxN ∧ zAW D cA h0 ad' w' t.heap) (zA h0)) (W.zret (Qc := va_Qi (fun r (_ : Unit) => sootV (zI w') C R H x y b = some r) (fun _ t => zAW D cA h0 ad' w' t.heap) (zA h0)) (ls := la') B.exec B.bytes (B.returns.trans h1) hn (fun t ht hW => ⟨⟨v, (), rfl, hv, (show zAW D cA h0 ad' w' t.heap by rw [ht]; exact hA')⟩, hS'.F ht⟩) hS'.2.2 (ok_SW_soot.1 _ _ h2)))
      obtain ⟨t, a1, b1⟩ := K T' rfl X'
      exact ⟨t, st.trans a1, b1⟩
    · cases h
    · rcases h with h | h <;> cases h
    · cases h
  · rcases hr with ⟨-, h, -⟩ | ⟨u, ty, h, -⟩ | ⟨u, h, -⟩ | ⟨u, C0, h, -⟩ | ⟨z, hz, -, -, hpc⟩
    · cases h
    · cases h
    · cases h
    · rcases h with h | h <;> cases h
    · cases hz
      have hpc : pc' = 25 := hpc
      subst hpc
      have K : W p l e ({ frames := 9, cells := 1, slots := 6, locals := 576 } : Room) s m ([Value.ref 0, .int x, .int y, .int b].map (cv ad')).toArray below meth c T'.heap locs' (0 + 0) (0 + 0) (vx_MQ below (va_Qi (fun r (_ : Unit) => sootV (zI w') C R H x y b = some r) (fun _ t => zAW D cA h0 ad' w' t.heap) (zA h0)) (vx_X (fun (_ : Unit) => sootV (zI w') C R H x y b = none) (fun E _ t => E = kxN ∧ zAW D cA h0 ad' w' t.heap) (zA h0)) ([Value.ref 0, .int x, .int y, .int b].map (cv ad')).toArray s 1 6 (zA h0)) (F0 m 25 la' []) := vx_throw0 (e := e) (R := ({ frames := 9, cells := 1, slots := 6, locals := 576 } : Room)) (below := below) (H := T'.heap) (locs := locs') (cells := 0 + 0) (slots := 0 + 0) (ls := la') (rest := []) (cc := zM.cc m_SW_soot) (pc := 25) (own := "SmokeWeds") (cls := kxN) (names := kxL) (ik := 155) (ic := 157) (mc := 1) (ms := 6) (A := zA h0) (free := zA h0) (Qc := va_Qi (fun r (_ : Unit) => sootV (zI w') C R H x y b = some r) (fun _ t => zAW D cA h0 ad' w' t.heap) (zA h0)) (XC := vx_X (fun (_ : Unit) => sootV (zI w') C R H x y b = none) (fun E _ t => E = kxN ∧ zAW D cA h0 ad' w' t.heap) (zA h0)) B.exec B.bytes hlt hown (by decide +kernel) (by decide +kernel) (hts2 _ kx_at1) (hts2 _ kx_at2)
        (vx_hat (B := kxB) (fun v hv => hts2 v (kx_w v hv)) (fun v hv => hv) (fun v hv => kx_cast hv (hcast v hv) (Vm.Alike.refl _))) kx_o hU hN hS' (hsz.trans hml.symm) (by decide +kernel) (by decide +kernel) (by decide +kernel) (by decide +kernel) (fun z hz => (hnt z hz).elim) (by decide +kernel) (by decide +kernel) (by decide) (by decide) hlocks
        (fun t hvm hsz2 hq => ⟨(), hv, ⟨rfl, zAW_more hA' hq⟩, Nat.le_trans hS'.1 hsz2, fun q h1 h2 => by rw [hq q (Nat.lt_of_lt_of_le h1 hS'.1)]; exact hS'.2.1 q h1 h2⟩) hS'.2.2 (by decide) (by decide)
      obtain ⟨t, a1, b1⟩ := K T' rfl X'
      exact ⟨t, st.trans a1, b1⟩
