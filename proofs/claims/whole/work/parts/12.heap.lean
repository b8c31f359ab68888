theorem znar2 {t : FieldType} (h : zft t = 2) (a : Nat) : narrow t (.ref a) = .ref a := by cases t <;> first | rfl | (simp [zft] at h)
theorem znar2n {t : FieldType} (h : zft t = 2) : narrow t .null = .null := by cases t <;> first | rfl | (simp [zft] at h)
theorem zfit2 {t : FieldType} (h : zft t = 2) (a : Nat) : fits t (.ref a) = true := by cases t <;> first | rfl | (simp [zft] at h)
theorem zfit2n {t : FieldType} (h : zft t = 2) : fits t .null = true := by cases t <;> first | rfl | (simp [zft] at h)
section Z6
variable {mc ms d : Nat} {M : zM} {P : Option Value → zW → Prop} {pc : Nat} {ls : List (Nat × Value)} {st : List Value} {w : zW}
theorem z_getI {idx c0 j n o : Nat} {fin : Bool} (hf : zM.f M pc = some (.getfield idx, 3)) (hl0 : zFl (zM.y M).cls idx c0 j fin) (ho : w.1[o]? = some (c0, n)) (ht : zft (zty c0 j) = 0) (k : zS mc ms d M P (pc + 3) ls (.int (zI w o j) :: st) w) : zS mc ms d M P pc ls (.ref o :: st) w := by
  intro p l e R s m args below meth c Q D cA h0 ad0 n0 C ad H locs cells slots la hA hS hg hc hs hl
  obtain ⟨q, hq, hk, -, hw⟩ := hl0
  have hc9 := zcl_lt hq
  have hn : n = q.2.2 := by
    obtain ⟨q', h1, h2⟩ := hA.2.2.2.2 o c0 n ho hc9
    cases hq.symm.trans h1
    exact h2
  have he := zws_at cA ad ho
  rw [zE_obj cA ad w o hc9] at he
  exact va_get (C := q.1) (T := q.2.1) (N := q.2.2) C.1 C.2.1 C.2.2.2.2.1 (zcls hq).1 C.2.2.2.1 C.2.2.2.2.2.1 hA.1 o he hq j hk (C.2.2.2.2.1 _ hw) (fun _ h => h) (by rw [zfs_at (by rw [hn]; exact hk), zfv, if_pos ht]; rfl) (C.dec hf) (k p l e R s m args below meth c Q D cA h0 ad0 n0 C ad H locs cells slots la hA hS hg hc hs hl)
theorem z_getL {idx c0 j n o : Nat} {fin : Bool} (hf : zM.f M pc = some (.getfield idx, 3)) (hl0 : zFl (zM.y M).cls idx c0 j fin) (ho : w.1[o]? = some (c0, n)) (ht : zft (zty c0 j) = 1) (k : zS mc ms d M P (pc + 3) ls (.long (zL w o j) :: st) w) : zS mc ms d M P pc ls (.ref o :: st) w := by
  intro p l e R s m args below meth c Q D cA h0 ad0 n0 C ad H locs cells slots la hA hS hg hc hs hl
  obtain ⟨q, hq, hk, -, hw⟩ := hl0
  have hc9 := zcl_lt hq
  have hn : n = q.2.2 := by
    obtain ⟨q', h1, h2⟩ := hA.2.2.2.2 o c0 n ho hc9
    cases hq.symm.trans h1
    exact h2
  have he := zws_at cA ad ho
  rw [zE_obj cA ad w o hc9] at he
  exact va_get (C := q.1) (T := q.2.1) (N := q.2.2) C.1 C.2.1 C.2.2.2.2.1 (zcls hq).1 C.2.2.2.1 C.2.2.2.2.2.1 hA.1 o he hq j hk (C.2.2.2.2.1 _ hw) (fun _ h => h) (by rw [zfs_at (by rw [hn]; exact hk), zfv, if_neg (by rw [ht]; decide), if_pos ht]; rfl) (C.dec hf) (k p l e R s m args below meth c Q D cA h0 ad0 n0 C ad H locs cells slots la hA hS hg hc hs hl)
theorem z_getR {idx c0 j n o : Nat} {x : Nat} {fin : Bool} (hf : zM.f M pc = some (.getfield idx, 3)) (hl0 : zFl (zM.y M).cls idx c0 j fin) (ho : w.1[o]? = some (c0, n)) (ht : zft (zty c0 j) = 2) (hv : zR w o j = some x) (k : zS mc ms d M P (pc + 3) ls (.ref x :: st) w) : zS mc ms d M P pc ls (.ref o :: st) w := by
  intro p l e R s m args below meth c Q D cA h0 ad0 n0 C ad H locs cells slots la hA hS hg hc hs hl
  obtain ⟨q, hq, hk, -, hw⟩ := hl0
  have hc9 := zcl_lt hq
  have hn : n = q.2.2 := by
    obtain ⟨q', h1, h2⟩ := hA.2.2.2.2 o c0 n ho hc9
    cases hq.symm.trans h1
    exact h2
  have he := zws_at cA ad ho
  rw [zE_obj cA ad w o hc9] at he
  exact va_get (C := q.1) (T := q.2.1) (N := q.2.2) C.1 C.2.1 C.2.2.2.2.1 (zcls hq).1 C.2.2.2.1 C.2.2.2.2.2.1 hA.1 o he hq j hk (C.2.2.2.2.1 _ hw) (fun _ h => h) (by rw [zfs_at (by rw [hn]; exact hk), zfv, if_neg (by rw [ht]; decide), if_neg (by rw [ht]; decide), hv]; rfl) (C.dec hf) (k p l e R s m args below meth c Q D cA h0 ad0 n0 C ad H locs cells slots la hA hS hg hc hs hl)
theorem z_getN {idx c0 j n o : Nat} {fin : Bool} (hf : zM.f M pc = some (.getfield idx, 3)) (hl0 : zFl (zM.y M).cls idx c0 j fin) (ho : w.1[o]? = some (c0, n)) (ht : zft (zty c0 j) = 2) (hv : zR w o j = none) (k : zS mc ms d M P (pc + 3) ls (.null :: st) w) : zS mc ms d M P pc ls (.ref o :: st) w := by
  intro p l e R s m args below meth c Q D cA h0 ad0 n0 C ad H locs cells slots la hA hS hg hc hs hl
  obtain ⟨q, hq, hk, -, hw⟩ := hl0
  have hc9 := zcl_lt hq
  have hn : n = q.2.2 := by
    obtain ⟨q', h1, h2⟩ := hA.2.2.2.2 o c0 n ho hc9
    cases hq.symm.trans h1
    exact h2
  have he := zws_at cA ad ho
  rw [zE_obj cA ad w o hc9] at he
  exact va_get (C := q.1) (T := q.2.1) (N := q.2.2) C.1 C.2.1 C.2.2.2.2.1 (zcls hq).1 C.2.2.2.1 C.2.2.2.2.2.1 hA.1 o he hq j hk (C.2.2.2.2.1 _ hw) (fun _ h => h) (by rw [zfs_at (by rw [hn]; exact hk), zfv, if_neg (by rw [ht]; decide), if_neg (by rw [ht]; decide), hv]; rfl) (C.dec hf) (k p l e R s m args below meth c Q D cA h0 ad0 n0 C ad H locs cells slots la hA hS hg hc hs hl)
theorem z_putI {idx c0 j n o : Nat} {x : Int32} (hf : zM.f M pc = some (.putfield idx, 3)) (hl0 : zFl (zM.y M).cls idx c0 j false) (ho : w.1[o]? = some (c0, n)) (ht : zty c0 j = .int) (k : zS mc ms d M P (pc + 3) ls st (zsI w o j x)) : zS mc ms d M P pc ls (.int x :: .ref o :: st) w := by
  intro p l e R s m args below meth c Q D cA h0 ad0 n0 C ad H locs cells slots la hA hS hg hc hs hl
  obtain ⟨q, hq, hk, hfi, hw⟩ := hl0
  have hc9 := zcl_lt hq
  have hn : n = q.2.2 := by
    obtain ⟨q', h1, h2⟩ := hA.2.2.2.2 o c0 n ho hc9
    cases hq.symm.trans h1
    exact h2
  have he := zws_at cA ad ho
  rw [zE_obj cA ad w o hc9] at he
  refine va_put (C := q.1) (T := q.2.1) (N := q.2.2) (v := cv ad (.int x)) C.1 C.2.1 C.2.2.2.2.1 (zcls hq).1 (zty c0) (zcls hq).2.1 (zcls hq).2.2 C.2.2.2.1 C.2.2.2.2.2.1 hA.1 hA.2.1 hS o he hq j hk (C.2.2.2.2.1 _ hw) (fun _ h => h) hfi  ((zcls hq).2.1 j hk) (by rw [ht]; rfl) (by rw [ht]; rfl) (by simp [hn, hk]) (C.dec hf) (fun H1 locs1 hP hD hS1 => ?_)
  have e1 : ((List.range n).map (zfv w ad o c0)).set j (cv ad (.int x)) = (List.range n).map (zfv (zsI w o j x) ad o c0) := zfs_set (by rw [zfv, if_pos (by rw [ht]; rfl)]; show Value.int (z2 (zI w) o j x o j) = _; rw [z2_row]; simp [cv]) (fun b hb => by simp only [zfv, zsI, zI, zL, zR]; rw [z2_row]; simp [hb])
  rw [e1] at hP hD
  exact k p l e R s m args below meth c Q D cA h0 ad0 n0 C ad H1 locs1 cells slots la (zAW_set hA rfl ho (zE_obj cA ad _ o hc9) (fun a q' ha => zE_I_off cA ad w j _ q' ha) hA.2.2.1 hP hD) hS1 hg hc hs hl
theorem z_putIF {idx c0 j n o : Nat} {x : Int32} (hf : zM.f M pc = some (.putfield idx, 3)) (hl0 : zFl (zM.y M).cls idx c0 j true) (ho : w.1[o]? = some (c0, n)) (ht : zty c0 j = .int) (hi : (zM.y M).name = "<init>") (hd : ∀ q, zcl[c0]? = some q → (q.2.1 j).1 = (zM.y M).cls) (k : zS mc ms d M P (pc + 3) ls st (zsI w o j x)) : zS mc ms d M P pc ls (.int x :: .ref o :: st) w := by
  intro p l e R s m args below meth c Q D cA h0 ad0 n0 C ad H locs cells slots la hA hS hg hc hs hl
  obtain ⟨q, hq, hk, hfi, hw⟩ := hl0
  have hc9 := zcl_lt hq
  have hn : n = q.2.2 := by
    obtain ⟨q', h1, h2⟩ := hA.2.2.2.2 o c0 n ho hc9
    cases hq.symm.trans h1
    exact h2
  have he := zws_at cA ad ho
  rw [zE_obj cA ad w o hc9] at he
  refine va_putF (C := q.1) (T := q.2.1) (N := q.2.2) (v := cv ad (.int x)) C.1 C.2.1 C.2.2.2.2.1 (zcls hq).1 (zty c0) (zcls hq).2.1 (zcls hq).2.2 C.2.2.2.1 C.2.2.2.2.2.1 hA.1 hA.2.1 hS o he hq j hk (C.2.2.2.2.1 _ hw) (fun _ h => h) hfi (C.2.2.2.2.2.2.2.2.1.trans hi) (hd q hq) ((zcls hq).2.1 j hk) (by rw [ht]; rfl) (by rw [ht]; rfl) (by simp [hn, hk]) (C.dec hf) (fun H1 locs1 hP hD hS1 => ?_)
  have e1 : ((List.range n).map (zfv w ad o c0)).set j (cv ad (.int x)) = (List.range n).map (zfv (zsI w o j x) ad o c0) := zfs_set (by rw [zfv, if_pos (by rw [ht]; rfl)]; show Value.int (z2 (zI w) o j x o j) = _; rw [z2_row]; simp [cv]) (fun b hb => by simp only [zfv, zsI, zI, zL, zR]; rw [z2_row]; simp [hb])
  rw [e1] at hP hD
  exact k p l e R s m args below meth c Q D cA h0 ad0 n0 C ad H1 locs1 cells slots la (zAW_set hA rfl ho (zE_obj cA ad _ o hc9) (fun a q' ha => zE_I_off cA ad w j _ q' ha) hA.2.2.1 hP hD) hS1 hg hc hs hl
theorem z_putZ {idx c0 j n o : Nat} {x : Int32} (hf : zM.f M pc = some (.putfield idx, 3)) (hl0 : zFl (zM.y M).cls idx c0 j false) (ho : w.1[o]? = some (c0, n)) (ht : zty c0 j = .boolean) (hx : x = 0 ∨ x = 1) (k : zS mc ms d M P (pc + 3) ls st (zsI w o j x)) : zS mc ms d M P pc ls (.int x :: .ref o :: st) w := by
  intro p l e R s m args below meth c Q D cA h0 ad0 n0 C ad H locs cells slots la hA hS hg hc hs hl
  obtain ⟨q, hq, hk, hfi, hw⟩ := hl0
  have hc9 := zcl_lt hq
  have hn : n = q.2.2 := by
    obtain ⟨q', h1, h2⟩ := hA.2.2.2.2 o c0 n ho hc9
    cases hq.symm.trans h1
    exact h2
  have he := zws_at cA ad ho
  rw [zE_obj cA ad w o hc9] at he
  refine va_put (C := q.1) (T := q.2.1) (N := q.2.2) (v := cv ad (.int x)) C.1 C.2.1 C.2.2.2.2.1 (zcls hq).1 (zty c0) (zcls hq).2.1 (zcls hq).2.2 C.2.2.2.1 C.2.2.2.2.2.1 hA.1 hA.2.1 hS o he hq j hk (C.2.2.2.2.1 _ hw) (fun _ h => h) hfi  ((zcls hq).2.1 j hk) (by rw [ht]; rcases hx with rfl | rfl <;> rfl) (by rw [ht]; rcases hx with rfl | rfl <;> rfl) (by simp [hn, hk]) (C.dec hf) (fun H1 locs1 hP hD hS1 => ?_)
  have e1 : ((List.range n).map (zfv w ad o c0)).set j (cv ad (.int x)) = (List.range n).map (zfv (zsI w o j x) ad o c0) := zfs_set (by rw [zfv, if_pos (by rw [ht]; rfl)]; show Value.int (z2 (zI w) o j x o j) = _; rw [z2_row]; simp [cv]) (fun b hb => by simp only [zfv, zsI, zI, zL, zR]; rw [z2_row]; simp [hb])
  rw [e1] at hP hD
  exact k p l e R s m args below meth c Q D cA h0 ad0 n0 C ad H1 locs1 cells slots la (zAW_set hA rfl ho (zE_obj cA ad _ o hc9) (fun a q' ha => zE_I_off cA ad w j _ q' ha) hA.2.2.1 hP hD) hS1 hg hc hs hl
theorem z_putZF {idx c0 j n o : Nat} {x : Int32} (hf : zM.f M pc = some (.putfield idx, 3)) (hl0 : zFl (zM.y M).cls idx c0 j true) (ho : w.1[o]? = some (c0, n)) (ht : zty c0 j = .boolean) (hx : x = 0 ∨ x = 1) (hi : (zM.y M).name = "<init>") (hd : ∀ q, zcl[c0]? = some q → (q.2.1 j).1 = (zM.y M).cls) (k : zS mc ms d M P (pc + 3) ls st (zsI w o j x)) : zS mc ms d M P pc ls (.int x :: .ref o :: st) w := by
  intro p l e R s m args below meth c Q D cA h0 ad0 n0 C ad H locs cells slots la hA hS hg hc hs hl
  obtain ⟨q, hq, hk, hfi, hw⟩ := hl0
  have hc9 := zcl_lt hq
  have hn : n = q.2.2 := by
    obtain ⟨q', h1, h2⟩ := hA.2.2.2.2 o c0 n ho hc9
    cases hq.symm.trans h1
    exact h2
  have he := zws_at cA ad ho
  rw [zE_obj cA ad w o hc9] at he
  refine va_putF (C := q.1) (T := q.2.1) (N := q.2.2) (v := cv ad (.int x)) C.1 C.2.1 C.2.2.2.2.1 (zcls hq).1 (zty c0) (zcls hq).2.1 (zcls hq).2.2 C.2.2.2.1 C.2.2.2.2.2.1 hA.1 hA.2.1 hS o he hq j hk (C.2.2.2.2.1 _ hw) (fun _ h => h) hfi (C.2.2.2.2.2.2.2.2.1.trans hi) (hd q hq) ((zcls hq).2.1 j hk) (by rw [ht]; rcases hx with rfl | rfl <;> rfl) (by rw [ht]; rcases hx with rfl | rfl <;> rfl) (by simp [hn, hk]) (C.dec hf) (fun H1 locs1 hP hD hS1 => ?_)
  have e1 : ((List.range n).map (zfv w ad o c0)).set j (cv ad (.int x)) = (List.range n).map (zfv (zsI w o j x) ad o c0) := zfs_set (by rw [zfv, if_pos (by rw [ht]; rfl)]; show Value.int (z2 (zI w) o j x o j) = _; rw [z2_row]; simp [cv]) (fun b hb => by simp only [zfv, zsI, zI, zL, zR]; rw [z2_row]; simp [hb])
  rw [e1] at hP hD
  exact k p l e R s m args below meth c Q D cA h0 ad0 n0 C ad H1 locs1 cells slots la (zAW_set hA rfl ho (zE_obj cA ad _ o hc9) (fun a q' ha => zE_I_off cA ad w j _ q' ha) hA.2.2.1 hP hD) hS1 hg hc hs hl
theorem z_putL {idx c0 j n o : Nat} {x : Int64} (hf : zM.f M pc = some (.putfield idx, 3)) (hl0 : zFl (zM.y M).cls idx c0 j false) (ho : w.1[o]? = some (c0, n)) (ht : zty c0 j = .long) (k : zS mc ms d M P (pc + 3) ls st (zsL w o j x)) : zS mc ms d M P pc ls (.long x :: .ref o :: st) w := by
  intro p l e R s m args below meth c Q D cA h0 ad0 n0 C ad H locs cells slots la hA hS hg hc hs hl
  obtain ⟨q, hq, hk, hfi, hw⟩ := hl0
  have hc9 := zcl_lt hq
  have hn : n = q.2.2 := by
    obtain ⟨q', h1, h2⟩ := hA.2.2.2.2 o c0 n ho hc9
    cases hq.symm.trans h1
    exact h2
  have he := zws_at cA ad ho
  rw [zE_obj cA ad w o hc9] at he
  refine va_put (C := q.1) (T := q.2.1) (N := q.2.2) (v := cv ad (.long x)) C.1 C.2.1 C.2.2.2.2.1 (zcls hq).1 (zty c0) (zcls hq).2.1 (zcls hq).2.2 C.2.2.2.1 C.2.2.2.2.2.1 hA.1 hA.2.1 hS o he hq j hk (C.2.2.2.2.1 _ hw) (fun _ h => h) hfi  ((zcls hq).2.1 j hk) (by rw [ht]; rfl) (by rw [ht]; rfl) (by simp [hn, hk]) (C.dec hf) (fun H1 locs1 hP hD hS1 => ?_)
  have e1 : ((List.range n).map (zfv w ad o c0)).set j (cv ad (.long x)) = (List.range n).map (zfv (zsL w o j x) ad o c0) := zfs_set (by rw [zfv, if_neg (by rw [ht]; decide), if_pos (by rw [ht]; rfl)]; show Value.long (z2 (zL w) o j x o j) = _; rw [z2_row]; simp [cv]) (fun b hb => by simp only [zfv, zsL, zI, zL, zR]; rw [z2_row]; simp [hb])
  rw [e1] at hP hD
  exact k p l e R s m args below meth c Q D cA h0 ad0 n0 C ad H1 locs1 cells slots la (zAW_set hA rfl ho (zE_obj cA ad _ o hc9) (fun a q' ha => zE_L_off cA ad w j _ q' ha) hA.2.2.1 hP hD) hS1 hg hc hs hl
theorem z_putLF {idx c0 j n o : Nat} {x : Int64} (hf : zM.f M pc = some (.putfield idx, 3)) (hl0 : zFl (zM.y M).cls idx c0 j true) (ho : w.1[o]? = some (c0, n)) (ht : zty c0 j = .long) (hi : (zM.y M).name = "<init>") (hd : ∀ q, zcl[c0]? = some q → (q.2.1 j).1 = (zM.y M).cls) (k : zS mc ms d M P (pc + 3) ls st (zsL w o j x)) : zS mc ms d M P pc ls (.long x :: .ref o :: st) w := by
  intro p l e R s m args below meth c Q D cA h0 ad0 n0 C ad H locs cells slots la hA hS hg hc hs hl
  obtain ⟨q, hq, hk, hfi, hw⟩ := hl0
  have hc9 := zcl_lt hq
  have hn : n = q.2.2 := by
    obtain ⟨q', h1, h2⟩ := hA.2.2.2.2 o c0 n ho hc9
    cases hq.symm.trans h1
    exact h2
  have he := zws_at cA ad ho
  rw [zE_obj cA ad w o hc9] at he
  refine va_putF (C := q.1) (T := q.2.1) (N := q.2.2) (v := cv ad (.long x)) C.1 C.2.1 C.2.2.2.2.1 (zcls hq).1 (zty c0) (zcls hq).2.1 (zcls hq).2.2 C.2.2.2.1 C.2.2.2.2.2.1 hA.1 hA.2.1 hS o he hq j hk (C.2.2.2.2.1 _ hw) (fun _ h => h) hfi (C.2.2.2.2.2.2.2.2.1.trans hi) (hd q hq) ((zcls hq).2.1 j hk) (by rw [ht]; rfl) (by rw [ht]; rfl) (by simp [hn, hk]) (C.dec hf) (fun H1 locs1 hP hD hS1 => ?_)
  have e1 : ((List.range n).map (zfv w ad o c0)).set j (cv ad (.long x)) = (List.range n).map (zfv (zsL w o j x) ad o c0) := zfs_set (by rw [zfv, if_neg (by rw [ht]; decide), if_pos (by rw [ht]; rfl)]; show Value.long (z2 (zL w) o j x o j) = _; rw [z2_row]; simp [cv]) (fun b hb => by simp only [zfv, zsL, zI, zL, zR]; rw [z2_row]; simp [hb])
  rw [e1] at hP hD
  exact k p l e R s m args below meth c Q D cA h0 ad0 n0 C ad H1 locs1 cells slots la (zAW_set hA rfl ho (zE_obj cA ad _ o hc9) (fun a q' ha => zE_L_off cA ad w j _ q' ha) hA.2.2.1 hP hD) hS1 hg hc hs hl
theorem z_putR {idx c0 j n o : Nat} {x : Nat} (hf : zM.f M pc = some (.putfield idx, 3)) (hl0 : zFl (zM.y M).cls idx c0 j false) (ho : w.1[o]? = some (c0, n)) (ht : zft (zty c0 j) = 2) (hx : x < w.1.length ∨ 1000000 ≤ x) (k : zS mc ms d M P (pc + 3) ls st (zsR w o j (some x))) : zS mc ms d M P pc ls (.ref x :: .ref o :: st) w := by
  intro p l e R s m args below meth c Q D cA h0 ad0 n0 C ad H locs cells slots la hA hS hg hc hs hl
  obtain ⟨q, hq, hk, hfi, hw⟩ := hl0
  have hc9 := zcl_lt hq
  have hn : n = q.2.2 := by
    obtain ⟨q', h1, h2⟩ := hA.2.2.2.2 o c0 n ho hc9
    cases hq.symm.trans h1
    exact h2
  have he := zws_at cA ad ho
  rw [zE_obj cA ad w o hc9] at he
  refine va_put (C := q.1) (T := q.2.1) (N := q.2.2) (v := cv ad (.ref x)) C.1 C.2.1 C.2.2.2.2.1 (zcls hq).1 (zty c0) (zcls hq).2.1 (zcls hq).2.2 C.2.2.2.1 C.2.2.2.2.2.1 hA.1 hA.2.1 hS o he hq j hk (C.2.2.2.2.1 _ hw) (fun _ h => h) hfi  ((zcls hq).2.1 j hk) (znar2 ht _) (zfit2 ht _) (by simp [hn, hk]) (C.dec hf) (fun H1 locs1 hP hD hS1 => ?_)
  have e1 : ((List.range n).map (zfv w ad o c0)).set j (cv ad (.ref x)) = (List.range n).map (zfv (zsR w o j (some x)) ad o c0) := zfs_set (by rw [zfv, if_neg (by rw [ht]; decide), if_neg (by rw [ht]; decide)]; show va_rf ((z2 (zR w) o j (some x) o j).map ad) = _; rw [z2_row]; simp [va_rf, cv]) (fun b hb => by simp only [zfv, zsR, zI, zL, zR]; rw [z2_row]; simp [hb])
  rw [e1] at hP hD
  exact k p l e R s m args below meth c Q D cA h0 ad0 n0 C ad H1 locs1 cells slots la (zAW_set hA rfl ho (zE_obj cA ad _ o hc9) (fun a q' ha => zE_R_off cA ad w j _ q' ha) (zV2_R hA.2.2.1 (fun r e => by cases e; exact hx)) hP hD) hS1 hg hc hs hl
theorem z_putRF {idx c0 j n o : Nat} {x : Nat} (hf : zM.f M pc = some (.putfield idx, 3)) (hl0 : zFl (zM.y M).cls idx c0 j true) (ho : w.1[o]? = some (c0, n)) (ht : zft (zty c0 j) = 2) (hx : x < w.1.length ∨ 1000000 ≤ x) (hi : (zM.y M).name = "<init>") (hd : ∀ q, zcl[c0]? = some q → (q.2.1 j).1 = (zM.y M).cls) (k : zS mc ms d M P (pc + 3) ls st (zsR w o j (some x))) : zS mc ms d M P pc ls (.ref x :: .ref o :: st) w := by
  intro p l e R s m args below meth c Q D cA h0 ad0 n0 C ad H locs cells slots la hA hS hg hc hs hl
  obtain ⟨q, hq, hk, hfi, hw⟩ := hl0
  have hc9 := zcl_lt hq
  have hn : n = q.2.2 := by
    obtain ⟨q', h1, h2⟩ := hA.2.2.2.2 o c0 n ho hc9
    cases hq.symm.trans h1
    exact h2
  have he := zws_at cA ad ho
  rw [zE_obj cA ad w o hc9] at he
  refine va_putF (C := q.1) (T := q.2.1) (N := q.2.2) (v := cv ad (.ref x)) C.1 C.2.1 C.2.2.2.2.1 (zcls hq).1 (zty c0) (zcls hq).2.1 (zcls hq).2.2 C.2.2.2.1 C.2.2.2.2.2.1 hA.1 hA.2.1 hS o he hq j hk (C.2.2.2.2.1 _ hw) (fun _ h => h) hfi (C.2.2.2.2.2.2.2.2.1.trans hi) (hd q hq) ((zcls hq).2.1 j hk) (znar2 ht _) (zfit2 ht _) (by simp [hn, hk]) (C.dec hf) (fun H1 locs1 hP hD hS1 => ?_)
  have e1 : ((List.range n).map (zfv w ad o c0)).set j (cv ad (.ref x)) = (List.range n).map (zfv (zsR w o j (some x)) ad o c0) := zfs_set (by rw [zfv, if_neg (by rw [ht]; decide), if_neg (by rw [ht]; decide)]; show va_rf ((z2 (zR w) o j (some x) o j).map ad) = _; rw [z2_row]; simp [va_rf, cv]) (fun b hb => by simp only [zfv, zsR, zI, zL, zR]; rw [z2_row]; simp [hb])
  rw [e1] at hP hD
  exact k p l e R s m args below meth c Q D cA h0 ad0 n0 C ad H1 locs1 cells slots la (zAW_set hA rfl ho (zE_obj cA ad _ o hc9) (fun a q' ha => zE_R_off cA ad w j _ q' ha) (zV2_R hA.2.2.1 (fun r e => by cases e; exact hx)) hP hD) hS1 hg hc hs hl
theorem z_putN {idx c0 j n o : Nat}  (hf : zM.f M pc = some (.putfield idx, 3)) (hl0 : zFl (zM.y M).cls idx c0 j false) (ho : w.1[o]? = some (c0, n)) (ht : zft (zty c0 j) = 2) (k : zS mc ms d M P (pc + 3) ls st (zsR w o j none)) : zS mc ms d M P pc ls (.null :: .ref o :: st) w := by
  intro p l e R s m args below meth c Q D cA h0 ad0 n0 C ad H locs cells slots la hA hS hg hc hs hl
  obtain ⟨q, hq, hk, hfi, hw⟩ := hl0
  have hc9 := zcl_lt hq
  have hn : n = q.2.2 := by
    obtain ⟨q', h1, h2⟩ := hA.2.2.2.2 o c0 n ho hc9
    cases hq.symm.trans h1
    exact h2
  have he := zws_at cA ad ho
  rw [zE_obj cA ad w o hc9] at he
  refine va_put (C := q.1) (T := q.2.1) (N := q.2.2) (v := cv ad (.null)) C.1 C.2.1 C.2.2.2.2.1 (zcls hq).1 (zty c0) (zcls hq).2.1 (zcls hq).2.2 C.2.2.2.1 C.2.2.2.2.2.1 hA.1 hA.2.1 hS o he hq j hk (C.2.2.2.2.1 _ hw) (fun _ h => h) hfi  ((zcls hq).2.1 j hk) (znar2n ht) (zfit2n ht) (by simp [hn, hk]) (C.dec hf) (fun H1 locs1 hP hD hS1 => ?_)
  have e1 : ((List.range n).map (zfv w ad o c0)).set j (cv ad (.null)) = (List.range n).map (zfv (zsR w o j none) ad o c0) := zfs_set (by rw [zfv, if_neg (by rw [ht]; decide), if_neg (by rw [ht]; decide)]; show va_rf ((z2 (zR w) o j none o j).map ad) = _; rw [z2_row]; simp [va_rf, cv]) (fun b hb => by simp only [zfv, zsR, zI, zL, zR]; rw [z2_row]; simp [hb])
  rw [e1] at hP hD
  exact k p l e R s m args below meth c Q D cA h0 ad0 n0 C ad H1 locs1 cells slots la (zAW_set hA rfl ho (zE_obj cA ad _ o hc9) (fun a q' ha => zE_R_off cA ad w j _ q' ha) (zV2_R hA.2.2.1 (fun r e => by cases e)) hP hD) hS1 hg hc hs hl
theorem z_putNF {idx c0 j n o : Nat}  (hf : zM.f M pc = some (.putfield idx, 3)) (hl0 : zFl (zM.y M).cls idx c0 j true) (ho : w.1[o]? = some (c0, n)) (ht : zft (zty c0 j) = 2) (hi : (zM.y M).name = "<init>") (hd : ∀ q, zcl[c0]? = some q → (q.2.1 j).1 = (zM.y M).cls) (k : zS mc ms d M P (pc + 3) ls st (zsR w o j none)) : zS mc ms d M P pc ls (.null :: .ref o :: st) w := by
  intro p l e R s m args below meth c Q D cA h0 ad0 n0 C ad H locs cells slots la hA hS hg hc hs hl
  obtain ⟨q, hq, hk, hfi, hw⟩ := hl0
  have hc9 := zcl_lt hq
  have hn : n = q.2.2 := by
    obtain ⟨q', h1, h2⟩ := hA.2.2.2.2 o c0 n ho hc9
    cases hq.symm.trans h1
    exact h2
  have he := zws_at cA ad ho
  rw [zE_obj cA ad w o hc9] at he
  refine va_putF (C := q.1) (T := q.2.1) (N := q.2.2) (v := cv ad (.null)) C.1 C.2.1 C.2.2.2.2.1 (zcls hq).1 (zty c0) (zcls hq).2.1 (zcls hq).2.2 C.2.2.2.1 C.2.2.2.2.2.1 hA.1 hA.2.1 hS o he hq j hk (C.2.2.2.2.1 _ hw) (fun _ h => h) hfi (C.2.2.2.2.2.2.2.2.1.trans hi) (hd q hq) ((zcls hq).2.1 j hk) (znar2n ht) (zfit2n ht) (by simp [hn, hk]) (C.dec hf) (fun H1 locs1 hP hD hS1 => ?_)
  have e1 : ((List.range n).map (zfv w ad o c0)).set j (cv ad (.null)) = (List.range n).map (zfv (zsR w o j none) ad o c0) := zfs_set (by rw [zfv, if_neg (by rw [ht]; decide), if_neg (by rw [ht]; decide)]; show va_rf ((z2 (zR w) o j none o j).map ad) = _; rw [z2_row]; simp [va_rf, cv]) (fun b hb => by simp only [zfv, zsR, zI, zL, zR]; rw [z2_row]; simp [hb])
  rw [e1] at hP hD
  exact k p l e R s m args below meth c Q D cA h0 ad0 n0 C ad H1 locs1 cells slots la (zAW_set hA rfl ho (zE_obj cA ad _ o hc9) (fun a q' ha => zE_R_off cA ad w j _ q' ha) (zV2_R hA.2.2.1 (fun r e => by cases e)) hP hD) hS1 hg hc hs hl
theorem z_iald {o n : Nat} {i : Int32} (hf : zM.f M pc = some (.iaload, 1)) (ho : w.1[o]? = some (10, n)) (hi : vp_in i n) (k : zS mc ms d M P (pc + 1) ls (.int (zI w o i.toNatClampNeg) :: st) w) : zS mc ms d M P pc ls (.int i :: .ref o :: st) w := by
  intro p l e R s m args below meth c Q D cA h0 ad0 n0 C ad H locs cells slots la hA hS hg hc hs hl
  exact va_iald C.1 C.2.1 C.2.2.2.2.2.1 hA.1 o 1 (zws_at cA ad ho) rfl hi (C.dec hf) (k p l e R s m args below meth c Q D cA h0 ad0 n0 C ad H locs cells slots la hA hS hg hc hs hl)
theorem z_bald {o n : Nat} {i : Int32} (hf : zM.f M pc = some (.baload, 1)) (ho : w.1[o]? = some (9, n)) (hi : vp_in i n) (k : zS mc ms d M P (pc + 1) ls (.int (zI w o i.toNatClampNeg) :: st) w) : zS mc ms d M P pc ls (.int i :: .ref o :: st) w := by
  intro p l e R s m args below meth c Q D cA h0 ad0 n0 C ad H locs cells slots la hA hS hg hc hs hl
  exact va_bald C.1 C.2.1 C.2.2.2.2.2.1 hA.1 o 0 (zws_at cA ad ho) rfl hi (C.dec hf) (k p l e R s m args below meth c Q D cA h0 ad0 n0 C ad H locs cells slots la hA hS hg hc hs hl)
theorem z_zald {o n : Nat} {i : Int32} (hf : zM.f M pc = some (.baload, 1)) (ho : w.1[o]? = some (12, n)) (hi : vp_in i n) (k : zS mc ms d M P (pc + 1) ls (.int (zI w o i.toNatClampNeg) :: st) w) : zS mc ms d M P pc ls (.int i :: .ref o :: st) w := by
  intro p l e R s m args below meth c Q D cA h0 ad0 n0 C ad H locs cells slots la hA hS hg hc hs hl
  exact va_zald C.1 C.2.1 C.2.2.2.2.2.1 hA.1 o 3 (zws_at cA ad ho) rfl hi (C.dec hf) (k p l e R s m args below meth c Q D cA h0 ad0 n0 C ad H locs cells slots la hA hS hg hc hs hl)
theorem z_lald {o n : Nat} {i : Int32} (hf : zM.f M pc = some (.laload, 1)) (ho : w.1[o]? = some (11, n)) (hi : vp_in i n) (k : zS mc ms d M P (pc + 1) ls (.long (zL w o i.toNatClampNeg) :: st) w) : zS mc ms d M P pc ls (.int i :: .ref o :: st) w := by
  intro p l e R s m args below meth c Q D cA h0 ad0 n0 C ad H locs cells slots la hA hS hg hc hs hl
  exact va_lald C.1 C.2.1 C.2.2.2.2.2.1 hA.1 o 2 (zws_at cA ad ho) rfl hi (C.dec hf) (k p l e R s m args below meth c Q D cA h0 ad0 n0 C ad H locs cells slots la hA hS hg hc hs hl)
theorem z_aald {o n : Nat} {x : Nat} {i : Int32} (hf : zM.f M pc = some (.aaload, 1)) (ho : w.1[o]? = some (13, n)) (hi : vp_in i n) (hv : zR w o i.toNatClampNeg = some x) (k : zS mc ms d M P (pc + 1) ls (.ref x :: st) w) : zS mc ms d M P pc ls (.int i :: .ref o :: st) w := by
  intro p l e R s m args below meth c Q D cA h0 ad0 n0 C ad H locs cells slots la hA hS hg hc hs hl
  refine va_aldq C.1 C.2.1 C.2.2.2.2.2.1 hA.1 o 4 (zws_at cA ad ho) rfl hi (C.dec hf) ?_
  rw [hv]
  exact k p l e R s m args below meth c Q D cA h0 ad0 n0 C ad H locs cells slots la hA hS hg hc hs hl
theorem z_aaldN {o n : Nat} {i : Int32} (hf : zM.f M pc = some (.aaload, 1)) (ho : w.1[o]? = some (13, n)) (hi : vp_in i n) (hv : zR w o i.toNatClampNeg = none) (k : zS mc ms d M P (pc + 1) ls (.null :: st) w) : zS mc ms d M P pc ls (.int i :: .ref o :: st) w := by
  intro p l e R s m args below meth c Q D cA h0 ad0 n0 C ad H locs cells slots la hA hS hg hc hs hl
  refine va_aldq C.1 C.2.1 C.2.2.2.2.2.1 hA.1 o 4 (zws_at cA ad ho) rfl hi (C.dec hf) ?_
  rw [hv]
  exact k p l e R s m args below meth c Q D cA h0 ad0 n0 C ad H locs cells slots la hA hS hg hc hs hl
theorem z_iast {o n : Nat} {i : Int32} {x : Int32} (hf : zM.f M pc = some (.iastore, 1)) (ho : w.1[o]? = some (10, n)) (hi : vp_in i n) (k : zS mc ms d M P (pc + 1) ls st (zsI w o i.toNatClampNeg x)) : zS mc ms d M P pc ls (.int x :: .int i :: .ref o :: st) w := by
  intro p l e R s m args below meth c Q D cA h0 ad0 n0 C ad H locs cells slots la hA hS hg hc hs hl
  refine va_iast C.1 C.2.1 C.2.2.2.2.2.1 hA.1 hA.2.1 hS o 1 (zws_at cA ad ho) rfl hi (C.dec hf) (fun H1 locs1 hP hD hS1 => ?_)
  exact k p l e R s m args below meth c Q D cA h0 ad0 n0 C ad H1 locs1 cells slots la (zAW_set hA rfl ho (by show Sum.inl (_, _, _) = Sum.inl (_, _, _); congr 4; exact z2_row _ _ _ _) (fun a q' ha => zE_I_off cA ad w _ _ q' ha) hA.2.2.1 hP hD) hS1 hg hc hs hl
theorem z_bast {o n : Nat} {i : Int32} {x : Int32} (hf : zM.f M pc = some (.bastore, 1)) (ho : w.1[o]? = some (9, n)) (hi : vp_in i n) (k : zS mc ms d M P (pc + 1) ls st (zsI w o i.toNatClampNeg (vp_nar .byte x))) : zS mc ms d M P pc ls (.int x :: .int i :: .ref o :: st) w := by
  intro p l e R s m args below meth c Q D cA h0 ad0 n0 C ad H locs cells slots la hA hS hg hc hs hl
  refine va_bast C.1 C.2.1 C.2.2.2.2.2.1 hA.1 hA.2.1 hS o 0 (zws_at cA ad ho) rfl hi (C.dec hf) (fun H1 locs1 hP hD hS1 => ?_)
  exact k p l e R s m args below meth c Q D cA h0 ad0 n0 C ad H1 locs1 cells slots la (zAW_set hA rfl ho (by show Sum.inl (_, _, _) = Sum.inl (_, _, _); congr 4; exact z2_row _ _ _ _) (fun a q' ha => zE_I_off cA ad w _ _ q' ha) hA.2.2.1 hP hD) hS1 hg hc hs hl
theorem z_zast {o n : Nat} {i : Int32} {x : Int32} (hf : zM.f M pc = some (.bastore, 1)) (ho : w.1[o]? = some (12, n)) (hi : vp_in i n) (k : zS mc ms d M P (pc + 1) ls st (zsI w o i.toNatClampNeg (vp_nar .boolean x))) : zS mc ms d M P pc ls (.int x :: .int i :: .ref o :: st) w := by
  intro p l e R s m args below meth c Q D cA h0 ad0 n0 C ad H locs cells slots la hA hS hg hc hs hl
  refine va_zast C.1 C.2.1 C.2.2.2.2.2.1 hA.1 hA.2.1 hS o 3 (zws_at cA ad ho) rfl hi (C.dec hf) (fun H1 locs1 hP hD hS1 => ?_)
  exact k p l e R s m args below meth c Q D cA h0 ad0 n0 C ad H1 locs1 cells slots la (zAW_set hA rfl ho (by show Sum.inl (_, _, _) = Sum.inl (_, _, _); congr 4; exact z2_row _ _ _ _) (fun a q' ha => zE_I_off cA ad w _ _ q' ha) hA.2.2.1 hP hD) hS1 hg hc hs hl
theorem z_last {o n : Nat} {i : Int32} {x : Int64} (hf : zM.f M pc = some (.lastore, 1)) (ho : w.1[o]? = some (11, n)) (hi : vp_in i n) (k : zS mc ms d M P (pc + 1) ls st (zsL w o i.toNatClampNeg x)) : zS mc ms d M P pc ls (.long x :: .int i :: .ref o :: st) w := by
  intro p l e R s m args below meth c Q D cA h0 ad0 n0 C ad H locs cells slots la hA hS hg hc hs hl
  refine va_last C.1 C.2.1 C.2.2.2.2.2.1 hA.1 hA.2.1 hS o 2 (zws_at cA ad ho) rfl hi (C.dec hf) (fun H1 locs1 hP hD hS1 => ?_)
  exact k p l e R s m args below meth c Q D cA h0 ad0 n0 C ad H1 locs1 cells slots la (zAW_set hA rfl ho (by show Sum.inl (_, _, Sum.inr (Sum.inl _)) = Sum.inl (_, _, Sum.inr (Sum.inl _)); congr 5; exact z2_row _ _ _ _) (fun a q' ha => zE_L_off cA ad w _ _ q' ha) hA.2.2.1 hP hD) hS1 hg hc hs hl
theorem z_alen {o kd n : Nat} {v : Int32} (hf : zM.f M pc = some (.arraylength, 1)) (ho : w.1[o]? = some (kd, n)) (hk : 9 ≤ kd ∧ kd ≤ 13) (hv : Int32.ofNat n = v) (k : zS mc ms d M P (pc + 1) ls (.int v :: st) w) : zS mc ms d M P pc ls (.ref o :: st) w := by
  intro p l e R s m args below meth c Q D cA h0 ad0 n0 C ad H locs cells slots la hA hS hg hc hs hl
  have he := zws_at cA ad ho
  obtain ⟨h1, h2⟩ := hk
  rcases (show kd = 9 ∨ kd = 10 ∨ kd = 11 ∨ kd = 12 ∨ kd = 13 by omega) with rfl | rfl | rfl | rfl | rfl
  · exact va_alen C.1 C.2.1 C.2.2.2.2.2.1 hA.1 o 0 he rfl hv (C.dec hf) (k p l e R s m args below meth c Q D cA h0 ad0 n0 C ad H locs cells slots la hA hS hg hc hs hl)
  · exact va_alen C.1 C.2.1 C.2.2.2.2.2.1 hA.1 o 1 he rfl hv (C.dec hf) (k p l e R s m args below meth c Q D cA h0 ad0 n0 C ad H locs cells slots la hA hS hg hc hs hl)
  · exact va_alen C.1 C.2.1 C.2.2.2.2.2.1 hA.1 o 2 he rfl hv (C.dec hf) (k p l e R s m args below meth c Q D cA h0 ad0 n0 C ad H locs cells slots la hA hS hg hc hs hl)
  · exact va_alen C.1 C.2.1 C.2.2.2.2.2.1 hA.1 o 3 he rfl hv (C.dec hf) (k p l e R s m args below meth c Q D cA h0 ad0 n0 C ad H locs cells slots la hA hS hg hc hs hl)
  · exact va_alen C.1 C.2.1 C.2.2.2.2.2.1 hA.1 o 4 he rfl hv (C.dec hf) (k p l e R s m args below meth c Q D cA h0 ad0 n0 C ad H locs cells slots la hA hS hg hc hs hl)
end Z6
