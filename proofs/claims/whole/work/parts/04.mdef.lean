/-! A METHOD: its name, bytes, locals, answer's type, its instructions by place, the law's script where it is the law -/
abbrev zM : Type := MethodName × ByteArray × Nat × Option FieldType × (Nat → Option (Instr × Nat)) × Option (Nat × (Nat → Int32))
abbrev zM.y (M : zM) : MethodName := M.1
abbrev zM.cc (M : zM) : ByteArray := M.2.1
abbrev zM.mx (M : zM) : Nat := M.2.2.1
abbrev zM.rt (M : zM) : Option FieldType := M.2.2.2.1
abbrev zM.f (M : zM) : Nat → Option (Instr × Nat) := M.2.2.2.2.1
abbrev zM.X (M : zM) : Option (Nat × (Nat → Int32)) := M.2.2.2.2.2
def zOK (M : zM) : Prop := (∀ pc q, zM.f M pc = some q → decode (zM.cc M) pc = .ok q) ∧ zM.mx M ≤ 45 ∧ plainFor (zM.y M) = true ∧ ((zM.y M).cls ≠ "java/lang/invoke/MethodHandle" ∧ (zM.y M).cls ≠ "java/lang/invoke/VarHandle") ∧ Cond.code (zM.y M) (zM.cc M) (zM.mx M) (zM.rt M) ∈ zT
def zkNM : List (String × Nat × MethodName × String) := [("SmokeWeds", 9, ⟨"SmokeWeds$Reader", "<init>", "()V"⟩, "SmokeWeds"), ("SmokeWeds$Reader", 11, ⟨"SmokeWeds$Tape", "<init>", "()V"⟩, "SmokeWeds"), ("SmokeWeds$Street", 30, ⟨"SmokeWeds$Law", "<init>", "()V"⟩, "SmokeWeds"), ("SmokeWeds", 23, ⟨"SmokeWeds$Smoke", "<init>", "()V"⟩, "SmokeWeds"), ("SmokeWeds$Smoke", 36, ⟨"SmokeWeds", "hasBit", "(II)Z"⟩, "SmokeWeds"), ("SmokeWeds$Smoke", 58, ⟨"SmokeWeds", "cellPlace", "(II)I"⟩, "SmokeWeds"), ("SmokeWeds$Life", 67, ⟨"SmokeWeds", "turns", "(II)Z"⟩, "SmokeWeds"), ("SmokeWeds$Life", 76, ⟨"SmokeWeds", "wed", "([IZ[I)I"⟩, "SmokeWeds"), ("SmokeWeds$Life", 97, ⟨"SmokeWeds", "hasBit", "(II)Z"⟩, "SmokeWeds"), ("SmokeWeds$Life", 107, ⟨"SmokeWeds", "pairPlace", "(II)I"⟩, "SmokeWeds"), ("SmokeWeds$Smoke", 68, ⟨"SmokeWeds", "pairsIn", "([I)I"⟩, "SmokeWeds"), ("SmokeWeds$Life", 117, ⟨"SmokeWeds", "sootPlace", "(III)I"⟩, "SmokeWeds"), ("SmokeWeds", 248, ⟨"SmokeWeds$Mark", "<init>", "()V"⟩, "SmokeWeds")]
def zkNF : List (String × Nat × String × String × String × String) := [("SmokeWeds$Smoke", 62, "SmokeWeds", "EASTWARD", "[I", "SmokeWeds"), ("SmokeWeds$Smoke", 65, "SmokeWeds", "SOUTHWARD", "[I", "SmokeWeds")]
theorem zT_at (i : Nat) {c : Cond} (h : tables_1[i]? = some c) (hg : goodWord c = true) : c ∈ zT := List.mem_filter.mpr ⟨List.mem_append_right _ (List.mem_of_getElem? h), hg⟩
theorem zT_sel (i : Nat) {c : Cond} (h : (k2_sels lw_privs)[i]? = some c) (hg : goodWord c = true) : c ∈ zT := List.mem_filter.mpr ⟨List.mem_append_left _ (List.mem_of_getElem? h), hg⟩
/-- the field link of a class' entry: the class' number, the field's place, final or not -/
def zFl (own : String) (idx c k : Nat) (fin : Bool) : Prop := ∃ q, zcl[c]? = some q ∧ k < q.2.2 ∧ (q.2.1 k).2.2.2 = fin ∧ Cond.fieldLink own idx (q.2.1 k).1 (q.2.1 k).2.1 (q.2.1 k).2.2.1 ∈ zT
theorem zcl_lt {c : Nat} {q : vw_C} (h : zcl[c]? = some q) : c < 9 := (List.getElem?_eq_some_iff.mp h).1
theorem zE_obj (cA : Nat → ClassId) (ad : Nat → Nat) (w : zW) (o : Nat) {c n : Nat} (h : c < 9) : zE cA ad w o (c, n) = .inr (c, (List.range n).map (zfv w ad o c)) := by unfold zE; rw [if_pos h]
theorem zAW_set {D : va_G} {cA : Nat → ClassId} {h0 : Nat} {ad : Nat → Nat} {w w2 : zW} {H H1 : Heap} {o : Nat} {q : Nat × Nat} {e : va_E} (hA : zAW D cA h0 ad w H) (hk : w2.1 = w.1) (h : w.1[o]? = some q) (he : zE cA ad w2 o q = e) (ho : ∀ a q', a ≠ o → zE cA ad w2 a q' = zE cA ad w a q') (hv : zV2 w2)
    (hP : va_P D zcl ((zws cA ad w).set o (ad o, e)) H1) (hD : va_D (zA h0) ((zws cA ad w).set o (ad o, e))) : zAW D cA h0 ad w2 H1 := by
  rw [zws_set cA ad hk h he ho] at hP hD
  exact ⟨hP, hD, hv, by rw [hk]; exact hA.2.2.2.1, by rw [hk]; exact hA.2.2.2.2⟩
theorem zV2_R {w : zW} {o k : Nat} {x : Option Nat} (h : zV2 w) (hx : ∀ r, x = some r → r < w.1.length ∨ 1000000 ≤ r) : zV2 (zsR w o k x) := by
  intro a b r ha hr
  show r < w.1.length ∨ 1000000 ≤ r
  have hr : z2 (zR w) o k x a b = some r := hr
  unfold z2 at hr
  split at hr
  · exact hx r hr
  · exact h a b r ha hr
/-- the words of a call: the link, the callee's class, how many arguments -/
def zLk (own : String) (idx : Nat) (y : MethodName) (n : Nat) : Prop := Cond.methodLink own idx y ∈ zT ∧ Cond.initialized y.cls ∈ zT ∧ (parseMethodDescriptor y.desc).map (fun d => d.parameters.length) = some n
def zLkS (own : String) (idx : Nat) (y : MethodName) (n : Nat) : Prop := zLk own idx y n ∧ Cond.static y ∈ zT
def zLkV (own : String) (idx : Nat) (y : MethodName) (n : Nat) : Prop := zLk own idx y n ∧ Cond.instanceMethod y ∈ zT ∧ Cond.selects y.cls y y ∈ zT
def zLkI (own : String) (idx : Nat) (y : MethodName) (n : Nat) : Prop := zLk own idx y n ∧ y.name = "<init>" ∧ Cond.instanceMethod y ∈ zT
def zLkN (own : String) (idx : Nat) (y : MethodName) (n : Nat) : Prop := (∃ h, (own, idx, y, h) ∈ zkNM) ∧ Cond.initialized y.cls ∈ zT ∧ (parseMethodDescriptor y.desc).map (fun d => d.parameters.length) = some n
def zLkSN (own : String) (idx : Nat) (y : MethodName) (n : Nat) : Prop := zLkN own idx y n ∧ Cond.static y ∈ zT
def zLkIN (own : String) (idx : Nat) (y : MethodName) (n : Nat) : Prop := zLkN own idx y n ∧ y.name = "<init>" ∧ Cond.instanceMethod y ∈ zT
/-- the instructions, cut behind the last -/
def zcut (n : Nat) (t : Nat → Option (Instr × Nat)) : Nat → Option (Instr × Nat) := fun pc => bif Nat.blt pc n then t pc else none
theorem zcut_ok {n : Nat} {t : Nat → Option (Instr × Nat)} {cc : ByteArray} (h : (List.range n).all (fun pc => match t pc with | none => true | some q => decide (decode cc pc = .ok q)) = true) : ∀ pc q, zcut n t pc = some q → decode cc pc = .ok q := by
  intro pc q hq
  unfold zcut at hq
  cases hb : Nat.blt pc n with
  | false => rw [hb] at hq; cases hq
  | true =>
    rw [hb] at hq
    have hlt : pc < n := Nat.lt_of_succ_le (by simpa [Nat.blt] using hb)
    have h1 := List.all_eq_true.mp h pc (List.mem_range.mpr hlt)
    have hq : t pc = some q := hq
    rw [hq] at h1
    exact of_decide_eq_true h1
theorem zOK_of {M : zM} (h1 : ∀ pc q, zM.f M pc = some q → decode (zM.cc M) pc = .ok q) (h2 : zM.mx M ≤ 45) (h3 : plainFor (zM.y M) = true ∧ (zM.y M).cls ≠ "java/lang/invoke/MethodHandle" ∧ (zM.y M).cls ≠ "java/lang/invoke/VarHandle") (h4 : Cond.code (zM.y M) (zM.cc M) (zM.mx M) (zM.rt M) ∈ zT) : zOK M := ⟨h1, h2, h3.1, h3.2, h4⟩
