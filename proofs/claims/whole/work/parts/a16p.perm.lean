/-! THE SAME WORLD IN OTHER NUMBERS: cells are names alone. The class makes its reader first (cell 1), then the tape (2) and its row (3); all rows speak of tape 1, row 2, reader 3 -/
def zp (o : Nat) : Nat := if o = 1 then 2 else if o = 2 then 3 else if o = 3 then 1 else o
def zq (o : Nat) : Nat := if o = 2 then 1 else if o = 3 then 2 else if o = 1 then 3 else o
theorem zp_q (o : Nat) : zp (zq o) = o := by
  unfold zp zq
  repeat' split
  all_goals omega
theorem zq_p (o : Nat) : zq (zp o) = o := by
  unfold zp zq
  repeat' split
  all_goals omega
theorem zp_hi {o : Nat} (h : 4 ≤ o) : zp o = o := by
  unfold zp
  repeat' split
  all_goals omega
theorem zq_lo {o n : Nat} (h4 : 4 ≤ n) (h : o < n) : zq o < n := by
  unfold zq
  repeat' split
  all_goals omega
theorem zq_hi {o : Nat} (h : 4 ≤ o) : zq o = o := by
  unfold zq
  repeat' split
  all_goals omega
def zpm (w : zW) : zW := ((List.range w.1.length).map (fun o => (w.1[zp o]?).getD (0, 0)), fun o => zI w (zp o), fun o => zL w (zp o), fun o k => (zR w (zp o) k).map zq)
theorem zpm_len (w : zW) : (zpm w).1.length = w.1.length := by
  show ((List.range w.1.length).map _).length = _
  rw [List.length_map, List.length_range]
theorem zp_lo {o n : Nat} (h4 : 4 ≤ n) (h : o < n) : zp o < n := by
  unfold zp
  repeat' split
  all_goals omega
theorem zpm_at {w : zW} (h4 : 4 ≤ w.1.length) {o : Nat} {q : Nat × Nat} (h : (zpm w).1[o]? = some q) : o < w.1.length ∧ w.1[zp o]? = some q := by
  have ho : o < w.1.length := by
    rw [← zpm_len w]
    exact (List.getElem?_eq_some_iff.mp h).1
  refine ⟨ho, ?_⟩
  have h : ((List.range w.1.length).map (fun o => (w.1[zp o]?).getD (0, 0)))[o]? = some q := h
  rw [List.getElem?_map, List.getElem?_range ho] at h
  have h : some ((w.1[zp o]?).getD (0, 0)) = some q := h
  obtain ⟨x, hx⟩ : ∃ x, w.1[zp o]? = some x := ⟨_, List.getElem?_eq_getElem (zp_lo h4 ho)⟩
  rw [hx] at h
  rw [hx]
  exact h
theorem zpm_fv (ad : Nat → Nat) (w : zW) (o c : Nat) : zfv (zpm w) (fun a => ad (zp a)) o c = zfv w ad (zp o) c := by
  funext k
  have e : ((zR w (zp o) k).map zq).map (fun a => ad (zp a)) = (zR w (zp o) k).map ad := by
    cases zR w (zp o) k with
    | none => rfl
    | some r => show some (ad (zp (zq r))) = some (ad r); rw [zp_q]
  show (if zft (zty c k) = 0 then Value.int (zI w (zp o) k) else if zft (zty c k) = 1 then Value.long (zL w (zp o) k) else va_rf (((zR w (zp o) k).map zq).map (fun a => ad (zp a)))) = _
  rw [e]
  rfl
theorem zpm_E (cA : Nat → ClassId) (ad : Nat → Nat) (w : zW) (o : Nat) (q : Nat × Nat) : zE cA (fun a => ad (zp a)) (zpm w) o q = zE cA ad w (zp o) q := by
  have e : (fun k => ((zR w (zp o) k).map zq).map (fun a => ad (zp a))) = fun k => (zR w (zp o) k).map ad := by
    funext k
    cases zR w (zp o) k with
    | none => rfl
    | some r => show some (ad (zp (zq r))) = some (ad r); rw [zp_q]
  have e2 : (fun k => (zR (zpm w) o k).map (fun a => ad (zp a))) = fun k => (zR w (zp o) k).map ad := e
  unfold zE
  rw [zpm_fv, e2]
  rfl
theorem zpm_ws (cA : Nat → ClassId) (ad : Nat → Nat) {w : zW} (h4 : 4 ≤ w.1.length) {k : Nat} {q : Nat × va_E} (h : (zws cA (fun a => ad (zp a)) (zpm w))[k]? = some q) : (zws cA ad w)[zp k]? = some q := by
  have hk : k < (zpm w).1.length := by
    rw [← zws_len cA (fun a => ad (zp a)) (zpm w)]
    exact (List.getElem?_eq_some_iff.mp h).1
  obtain ⟨x, hx⟩ : ∃ x, (zpm w).1[k]? = some x := ⟨_, List.getElem?_eq_getElem hk⟩
  rw [zws_at cA (fun a => ad (zp a)) hx, zpm_E] at h
  rw [zws_at cA ad (zpm_at h4 hx).2]
  exact h
theorem zpm_AW {D : va_G} {cA : Nat → ClassId} {h0 : Nat} {ad : Nat → Nat} {w : zW} {H : Heap} (h4 : 4 ≤ w.1.length) (hA : zAW D cA h0 ad w H) : zAW D cA h0 (fun a => ad (zp a)) (zpm w) H := by
  obtain ⟨a1, ⟨a2, a3⟩, a4, a5, a6⟩ := hA
  refine ⟨fun k q h => a1 (zp k) q (zpm_ws cA ad h4 h), ⟨fun i j p q hi hj e => ?_, fun k q h => a3 (zp k) q (zpm_ws cA ad h4 h)⟩, fun o k r ho hr => ?_, by rw [zpm_len]; exact a5, fun o c n h hc => a6 (zp o) c n (zpm_at h4 h).2 hc⟩
  · have h := a2 (zp i) (zp j) p q (zpm_ws cA ad h4 hi) (zpm_ws cA ad h4 hj) e
    rw [← zq_p i, ← zq_p j, h]
  · rw [zpm_len] at ho ⊢
    have hr : (zR w (zp o) k).map zq = some r := hr
    cases hx : zR w (zp o) k with
    | none => rw [hx] at hr; cases hr
    | some x =>
      rw [hx] at hr
      have hr : zq x = r := Option.some.inj hr
      rw [← hr]
      rcases a4 (zp o) k x (zp_lo h4 ho) hx with h | h
      · exact Or.inl (zq_lo h4 h)
      · exact Or.inr (by rw [zq_hi (by omega)]; exact h)
theorem zE_AW {D : va_G} {cA : Nat → ClassId} {h0 : Nat} {ad : Nat → Nat} {H : Heap} : zAW D cA h0 ad wE H :=
  ⟨fun k q h => (by cases h), ⟨fun i j p q h _ _ => (by cases h), fun k q h => (by cases h)⟩, fun o k r ho _ => absurd ho (Nat.not_lt_zero o), Nat.zero_le _, fun o c n h _ => (by cases h)⟩
/-- a method whose end says nothing of the world goes on in other numbers -/
theorem z_pm {mc ms d : Nat} {M : zM} {P : Option Value → zW → Prop} {pc : Nat} {ls : List (Nat × Value)} {st : List Value} {w : zW} (h4 : 4 ≤ w.1.length) (hP : ∀ r w1, P r w1 → (∃ v : Int32, r = some (.int v)) ∧ ∀ w2, P r w2) (hls : ∀ ad : Nat → Nat, cvl (fun a => ad (zp a)) ls = cvl ad ls) (hst : ∀ ad : Nat → Nat, st.map (cv (fun a => ad (zp a))) = st.map (cv ad)) (k : zS mc ms d M P pc ls st (zpm w)) : zS mc ms d M P pc ls st w := by
  intro p l e R s m args below meth c Q D cA h0 ad0 n0 C ad H locs cells slots la hA hS hg hc hs hl
  obtain ⟨c1, c2, c3, c4, c5, c6, c7, c8, c9, c10, c11, c12, c13⟩ := C
  have h := k p l e R s m args below meth c Q D cA h0 ad0 0 ⟨c1, c2, c3, c4, c5, c6, c7, c8, c9, c10, c11, c12, fun r w' hp ad2 H2 locs2 cells2 slots2 pc2 ls2 hA2 hS2 hg2 g1 g2 g3 g4 => by
    obtain ⟨⟨v, rfl⟩, hw⟩ := hP r w' hp
    exact c13 (some (.int v)) wE (hw wE) ad0 H2 locs2 cells2 slots2 pc2 ls2 zE_AW hS2 (fun o _ => rfl) g1 g2 g3 g4⟩ (fun a => ad (zp a)) H locs cells slots la (zpm_AW h4 hA) hS ⟨fun o ho => by
      rw [zpm_len] at ho
      have h5 : w.1.length ≤ o := by omega
      show ad (zp o) = ad0 o
      rw [zp_hi (by omega)]
      exact hg.1 o (Or.inr h5), Nat.zero_le _⟩ hc hs (by rw [hls]; exact hl)
  rw [hst] at h
  exact h
/-- the new object in the numbers of the rows -/
def wB8 : zW := zpm wB9
