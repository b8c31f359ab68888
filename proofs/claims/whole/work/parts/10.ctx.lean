/-- constants: static fields, arrays, fields of constant objects; what is written lies from h0 on -/
def zkZ : List (String × String × String × Value) := [
  ("SmokeWeds", "EASTWARD", "[I", .ref 1000019), ("SmokeWeds", "SOUTHWARD", "[I", .ref 1000020), ("SmokeWeds$Word", "ALL", "[LSmokeWeds$Word;", .ref 1000021),
  ("SmokeWeds$Word", "FIELD", "LSmokeWeds$Word;", .ref 1000000), ("SmokeWeds$Word", "WIND", "LSmokeWeds$Word;", .ref 1000001), ("SmokeWeds$Word", "PLUME", "LSmokeWeds$Word;", .ref 1000002),
  ("SmokeWeds$Word", "COLD", "LSmokeWeds$Word;", .ref 1000003), ("SmokeWeds$Word", "TURNS", "LSmokeWeds$Word;", .ref 1000004), ("SmokeWeds$Word", "HOUSE", "LSmokeWeds$Word;", .ref 1000005),
  ("SmokeWeds$Word", "AT", "LSmokeWeds$Word;", .ref 1000006), ("SmokeWeds$Word", "HIGH", "LSmokeWeds$Word;", .ref 1000007),
  ("SmokeWeds$Word", "NOT", "LSmokeWeds$Word;", .ref 1000013), ("SmokeWeds$Word", "AND", "LSmokeWeds$Word;", .ref 1000014), ("SmokeWeds$Word", "OR", "LSmokeWeds$Word;", .ref 1000015),
  ("SmokeWeds$Word", "HOUR", "LSmokeWeds$Word;", .ref 1000016), ("SmokeWeds$Word", "DAYS", "LSmokeWeds$Word;", .ref 1000017), ("SmokeWeds$Word", "WAY", "LSmokeWeds$Word;", .ref 1000018),
  ("java/lang/String", "COMPACT_STRINGS", "Z", .int 1)]
def zkE : List Int32 := [0, 1, 1, 1, 0, -1, -1, -1]
def zkS : List Int32 := [-1, -1, 0, 1, 1, 1, 0, -1]
def zkB : List Int32 := [40, 41, 60, 61, 43, 45, 42, 59]
def zkT : List (FieldType × Nat × Nat × (Nat → Value)) := [(.int, 1000019, 8, fun k => .int (zkE.getD k 0)), (.int, 1000020, 8, fun k => .int (zkS.getD k 0)), (.object "SmokeWeds$Word", 1000021, 19, fun k => .ref (1000000 + k)), (.byte, 1000023, 8, fun k => .int (zkB.getD k 0))]
def zkK : List Int64 := [439854918756, 2003398244, 482855972197, 1668246628, 500186639987, 448546567013, 24948, 1751738216, 6582905, 7824756, 1885692276, 1818583406, 7301484, 7237492, 6385252, 28530, 1752135026, 6578553, 7823737]
def zkr : List Int32 := [1, 1, 1, 1, 1, 1, 1, 1, 1, 1, 1, 1, 1, 1, 1, 1, 0, 0, 0]
def zkk : List Int32 := [-1, -1, -1, -1, -1, -1, -1, -1, 0, 1, 2, 3, 4, -1, -1, -1, -1, -1, -1]
def zkF : List (String × String × String × (Nat → Value)) := [("SmokeWeds$Word", "key", "J", fun k => .long (zkK.getD k 0)), ("SmokeWeds$Word", "reserved", "Z", fun k => .int (zkr.getD k 0)), ("SmokeWeds$Word", "kind", "I", fun k => .int (zkk.getD k 0))]
def zKC (h0 : Nat) (ad : Nat → Nat) (U : State) (H : Heap) : Prop :=
  (∀ q ∈ zkZ, va_Z q.1 q.2.1 q.2.2.1 (cv ad q.2.2.2) (zA h0) U H) ∧ (∀ q ∈ zkT, va_T q.1 (ad q.2.1) q.2.2.1 (fun k => cv ad (q.2.2.2 k)) (zA h0) U H) ∧
  (∀ q ∈ zkF, ∀ i, i < 19 → va_OF q.1 q.2.1 q.2.2.1 (q.2.2.2 i) (ad (1000000 + i)) (zA h0) U H) ∧ (∀ i j, i < 19 → j < 19 → ad (1000000 + i) = ad (1000000 + j) → i = j) ∧
  (va_O "java/lang/String" (ad 1000022) (zA h0) U H ∧ va_OF "java/lang/String" "value" "[B" (.ref (ad 1000023)) (ad 1000022) (zA h0) U H ∧ va_OF "java/lang/String" "coder" "B" (.int 0) (ad 1000022) (zA h0) U H ∧ vk_R "SmokeWeds$Reader" 250 "()<=+-*;" (ad 1000022) U) ∧
  ((∀ q ∈ zkNM, va_Nw (.methodLinkNest q.1 q.2.1 q.2.2.1 q.2.2.2) U) ∧ (∀ q ∈ zkNF, va_Nw (.fieldLinkNest q.1 q.2.1 q.2.2.1 q.2.2.2.1 q.2.2.2.2.1 q.2.2.2.2.2) U) ∧ va_AO RX2 U)
theorem zKC.go {h0 : Nat} {ad ad2 : Nat → Nat} {u U : State} {H H1 : Heap} (h : zKC h0 ad u H) (hm : u.WarmedH U.vm ∨ U.vm = u.vm) (hq : ∀ a : Nat, a < H.size → ¬ zA h0 a → H1[a]? = H[a]?) (ha : ∀ o, 1000000 ≤ o → ad2 o = ad o) : zKC h0 ad2 U H1 := by
  obtain ⟨h1, h2, h3, h4, ⟨h5, h6, h7, h8⟩, h9, h10, h11⟩ := h
  have hvm : u.vm.Alike U.vm := by
    rcases hm with hm | hm
    · exact hm.alike
    · rw [hm]; exact Vm.Alike.refl _
  have e1 : ∀ q ∈ zkZ, cv ad2 q.2.2.2 = cv ad q.2.2.2 := by
    intro q hq
    simp only [zkZ, List.mem_cons, List.not_mem_nil, or_false] at hq
    rcases hq with rfl | rfl | rfl | rfl | rfl | rfl | rfl | rfl | rfl | rfl | rfl | rfl | rfl | rfl | rfl | rfl | rfl | rfl <;> first | rfl | (show Value.ref (ad2 _) = Value.ref (ad _); rw [ha _ (by decide)])
  have e2 : ∀ q ∈ zkT, ad2 q.2.1 = ad q.2.1 ∧ (fun k => cv ad2 (q.2.2.2 k)) = fun k => cv ad (q.2.2.2 k) := by
    intro q hq
    simp only [zkT, List.mem_cons, List.not_mem_nil, or_false] at hq
    rcases hq with rfl | rfl | rfl | rfl
    · exact ⟨ha _ (by decide), rfl⟩
    · exact ⟨ha _ (by decide), rfl⟩
    · exact ⟨ha _ (by decide), by funext k; show Value.ref (ad2 _) = Value.ref (ad _); rw [ha _ (by omega)]⟩
    · exact ⟨ha _ (by decide), rfl⟩
  refine ⟨fun q hm => ?_, fun q hm => ?_, fun q hm i hi => ?_, fun i j hi hj => ?_, ⟨?_, ?_, ?_, ?_⟩, fun q hm2 => ?_, fun q hm2 => ?_, ?_⟩
  · rw [e1 q hm]; exact (va_Z.moved hvm (h1 q hm)).kept hq
  · rw [(e2 q hm).1, (e2 q hm).2]; exact (va_T.moved hvm (h2 q hm)).kept hq
  · rw [ha _ (by omega)]; exact (va_OF.moved hvm (h3 q hm i hi)).kept hq
  · rw [ha _ (by omega), ha _ (by omega)]; exact h4 i j hi hj
  · rw [ha _ (by decide)]; exact (va_O.moved hvm h5).kept hq
  · rw [ha _ (by decide), ha _ (by decide)]; exact (va_OF.moved hvm h6).kept hq
  · rw [ha _ (by decide)]; exact (va_OF.moved hvm h7).kept hq
  · rw [ha _ (by decide)]
    rcases hm with hm | hm
    · exact h8.warm hm
    · exact h8.same hm
  · rcases hm with hm | hm
    · exact va_Nw.warmM hm (h9 q hm2)
    · exact va_Nw.same rfl hm.symm (h9 q hm2)
  · rcases hm with hm | hm
    · exact va_Nw.warmF hm (h10 q hm2)
    · exact va_Nw.same rfl hm.symm (h10 q hm2)
  · exact va_AO.moved hvm h11
def zRet (M : zM) (r : Option Value) (pc : Nat) : Prop :=
  (r = none ∧ zM.rt M = none ∧ zM.f M pc = some (.return_, 1)) ∨ (∃ v ty, r = some (.int v) ∧ zM.rt M = some ty ∧ narrow ty (.int v) = .int v ∧ zM.f M pc = some (.ireturn, 1)) ∨
  (∃ v, r = some (.long v) ∧ zM.rt M = some .long ∧ zM.f M pc = some (.lreturn, 1)) ∨ (∃ v C, (r = some .null ∨ r = some (.ref v)) ∧ zM.rt M = some (.object C) ∧ zM.f M pc = some (.areturn, 1)) ∨ (∃ x, zM.X M = some x ∧ 5000 ≤ x.1 ∧ r = none ∧ pc = x.1 - 5000)
/-- the frame of a method in the machine -/
def zCtx (d : Nat) (M : zM) (P : Option Value → zW → Prop) (p : Program) (l : Launch) (e : Env) (R : Room) (s : State) (m : MethodId) (args : Array Value) (below : List Frame) (meth : Method) (c : Code) (Q : State → Prop) (D : va_G) (cA : Nat → ClassId) (h0 : Nat) (ad0 : Nat → Nat) (n0 : Nat) : Prop :=
  p.tables.exec = Jvm.exec ∧ c.code = zM.cc M ∧ c.maxLocals = zM.mx M ∧ s.vm.findClass (zM.y M).cls = some m.cls ∧ (∀ w ∈ zT, w.before args s = true) ∧ va_K D zcl (ztys cA) s ∧ zKC h0 ad0 s s.heap ∧ h0 ≤ s.heap.size ∧ meth.name = (zM.y M).name ∧ (d ≤ R.frames ∧ 64 * d ≤ R.locals) ∧ (∀ pc q, zM.f M pc = some q → decode (zM.cc M) pc = .ok q) ∧
  (∀ x, zM.X M = some x → x.1 < 5000 → va_T .int (ad0 1000030) x.1 (fun k => .int (x.2 k)) (zA h0) s s.heap ∧ l.stackTraces = false ∧ (∀ w ∈ lw_tbl, w.before args s = true) ∧ (Jvm.Cond.and given_1 narrow_1).before args s = true ∧ s.heap.size ≤ h0) ∧
  ∀ (r : Option Value) (w' : zW), P r w' → ∀ (ad : Nat → Nat) (H : Heap) (locs : List Loc) (cells slots pc : Nat) (ls : Array Slot), zAW D cA h0 ad w' H → va_S (zA h0) s.heap H locs → (∀ o, (o < n0 ∨ w'.1.length ≤ o) → ad o = ad0 o) → cells ≤ R.cells → slots ≤ R.slots → zRet M r pc → ls.size = zM.mx M → W p l e R s m args below meth c H locs cells slots Q (F0 m pc ls ((r.map (cv ad)).toList))
/-- from this place the method comes to its end: answer and world are as P says; at most mc cells of ms slots come, at most d frames are below it -/
def zS (mc ms d : Nat) (M : zM) (P : Option Value → zW → Prop) (pc : Nat) (ls : List (Nat × Value)) (st : List Value) (w : zW) : Prop :=
  ∀ (p : Program) (l : Launch) (e : Env) (R : Room) (s : State) (m : MethodId) (args : Array Value) (below : List Frame) (meth : Method) (c : Code) (Q : State → Prop) (D : va_G) (cA : Nat → ClassId) (h0 : Nat) (ad0 : Nat → Nat) (n0 : Nat), zCtx d M P p l e R s m args below meth c Q D cA h0 ad0 n0 →
  ∀ (ad : Nat → Nat) (H : Heap) (locs : List Loc) (cells slots : Nat) (la : Array Slot), zAW D cA h0 ad w H → va_S (zA h0) s.heap H locs → ((∀ o, (o < n0 ∨ w.1.length ≤ o) → ad o = ad0 o) ∧ n0 ≤ w.1.length) → cells + mc ≤ R.cells → slots + ms ≤ R.slots → lv_has la (zM.mx M) (cvl ad ls) → W p l e R s m args below meth c H locs cells slots Q (F0 m pc la (st.map (cv ad)))
theorem zCtx.dec {d : Nat} {M : zM} {P : Option Value → zW → Prop} {p : Program} {l : Launch} {e : Env} {R : Room} {s : State} {m : MethodId} {args : Array Value} {below : List Frame} {meth : Method} {c : Code} {Q : State → Prop} {D : va_G} {cA : Nat → ClassId} {h0 : Nat} {ad0 : Nat → Nat} {n0 : Nat} (C : zCtx d M P p l e R s m args below meth c Q D cA h0 ad0 n0) {pc : Nat} {q : Instr × Nat} (hf : zM.f M pc = some q) : decode (zM.cc M) pc = .ok q := C.2.2.2.2.2.2.2.2.2.2.1 _ _ hf
