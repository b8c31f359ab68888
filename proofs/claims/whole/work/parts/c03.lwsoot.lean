/-! THE LAW'S OWN soot: the answer, or that it was thrown -/
def t_Lws : Nat → Option (Instr × Nat) := fun pc => match pc with
  | 0 => some (.aload 4, 2)
  | 2 => some (.iconst 0, 1)
  | 3 => some (.aload_n 0, 1)
  | 4 => some (.iload_n 1, 1)
  | 5 => some (.iload_n 2, 1)
  | 6 => some (.iload_n 3, 1)
  | 7 => some (.invokevirtual 7, 3)
  | 10 => some (.i2l, 1)
  | 11 => some (.lastore, 1)
  | 12 => some (.goto 7, 3)
  | 15 => some (.astore 5, 2)
  | 17 => some (.iconst 1, 1)
  | 18 => some (.ireturn, 1)
  | 19 => some (.iconst 0, 1)
  | 20 => some (.ireturn, 1)
  | _ => none
def m_Lws : zM := (⟨"SmokeWedsLaw", "soot", "(LSmokeWeds;III[J)I"⟩, method_3_code, 6, (some .int), zcut 21 t_Lws, some (6000, fun _ => 0))
theorem dec_Lws : ∀ pc q, zM.f m_Lws pc = some q → decode (zM.cc m_Lws) pc = .ok q := zcut_ok (n := 21) (t := t_Lws) (by decide +kernel)
def kxR (w : zW) (C R H : Nat) (x y b : Int32) (rv : Option Value) (w1 : zW) : Prop := (∃ v : Int32, sootV (zI w) C R H x y b = some v ∧ rv = some (.int 0) ∧ w1 = zsL w 73 0 v.toInt64) ∨ (sootV (zI w) C R H x y b = none ∧ rv = some (.int 1) ∧ w1 = w)
theorem kx_l1 {w : zW} {C R H : Nat} {x y b v : Int32} (h73 : w.1[73]? = some (11, 1)) (hv : sootV (zI w) C R H x y b = some v) (d : Nat) : zS 0 0 d m_Lws (kxR w C R H x y b) 10 [] [.int v, .int 0, .ref 73] w := by
  refine z_i2l (pc := 10) rfl ?_
  refine z_last (pc := 11) rfl h73 (vp_in_nI (n := 0) (by decide) (by decide)) ?_
  refine z_goto (pc := 12) (tgt := 19) rfl (by decide) ?_
  refine z_iconst (pc := 19) (v := 0) rfl (by decide) ?_
  exact z_iret (pc := 20) rfl rfl (Or.inl ⟨v, hv, rfl, rfl⟩)
theorem kx_l2 {w : zW} {C R H : Nat} {x y b : Int32} (hv : sootV (zI w) C R H x y b = none) (d : Nat) : zS 0 0 d m_Lws (kxR w C R H x y b) 17 [] [] w := by
  refine z_iconst (pc := 17) (v := 1) rfl (by decide) ?_
  exact z_iret (pc := 18) rfl rfl (Or.inr ⟨hv, rfl, rfl⟩)
theorem zofWH {l : Launch} {y : MethodName} {ws ws' : List Cond} {rm : Room} {Pc : Array Value → State → Prop} {Qc : Array Value → State → Outcome → State → Prop} {mc ms : Nat} {free : Addr → Prop} {cc : ByteArray} {maxL : Nat} {ret : Option FieldType} {hh : List (Nat × Nat × Nat × Nat)}
    (hy : plainFor y = true) (hw : ws = Cond.codeWith y cc maxL ret hh :: ws')
    (body : ∀ p e s m args below meth c s₁, BodyLoose p l y (headSpec ws rm) cc maxL ret e s m args below meth c s₁ → c.maxLocals = maxL → Pc args s →
      W p l e (headSpec ws rm).room s m args below meth c s.heap [] 0 0 (MQ below Qc args s mc ms free) (entryFrame m args maxL)) : Met l y ws rm Pc Qc mc ms free := by
  refine MetFree.of_bodySF (code := cc) (maxLocals := maxL) (ret := ret) hy ?_ ?_
  · intro args s m h hn
    obtain ⟨m9, meth, c, hn9, h1, h2, h3, h4, -, h5, h6, -⟩ := Cond.codeWith_spec (atoms_spec (ws := ws) h _ (by rw [hw]; exact List.mem_cons_self))
    cases hn.symm.trans hn9
    exact ⟨meth, c, h1, h2, h3, h4, h5, h6⟩
  · intro p e s m args below meth c s₁ B hml hP _
    have hh0 : s₁.heap = s.heap := by rw [B.state]; rfl
    obtain ⟨t, a1, o, b1, b2, b3⟩ := body p e s m args below meth c s₁ B hml hP s₁ hh0 (Stand.of_body B)
    exact ⟨t, o, a1, b1, b2, ⟨b3.1, b3.2⟩⟩
abbrev wsLs : List Cond := Cond.codeWith (zM.y m_Lws) (zM.cc m_Lws) 6 (some .int) [(0, 12, 15, 13)] :: zT
theorem wsLs_in : Cond.codeWith (zM.y m_Lws) (zM.cc m_Lws) 6 (some .int) [(0, 12, 15, 13)] ∈ zT := by decide +kernel
theorem cl_Lws_7 : zLkV "SmokeWedsLaw" 7 ⟨"SmokeWeds", "soot", "(III)I"⟩ 3 := ⟨⟨by decide +kernel, by decide +kernel, by decide +kernel⟩, by decide +kernel, by decide +kernel⟩
theorem cl_Lws_70 : zLkS "SmokeWedsLaw" 70 (zM.y m_Lws) 5 := ⟨⟨by decide +kernel, by decide +kernel, by decide +kernel⟩, by decide +kernel⟩
set_option maxHeartbeats 2000000 in
theorem kx_lw {l : Launch} (hlt : l.stackTraces = false) {w : zW} {s0 C R H : Nat} {F G : Int32 → Int32 → Int32 → Int32} (hx : zX w s0) (hi : zXi (zI w) s0 C R H F G) (h73 : w.1[73]? = some (11, 1)) (x y b : Int32) (D : va_G) (cA : Nat → ClassId) (h0 : Nat) (ad : Nat → Nat) :
    Met l (zM.y m_Lws) wsLs ({ frames := 11, cells := 1, slots := 6, locals := 704 } : Room) (va_Pc ([Value.ref 0, .int x, .int y, .int b, .ref 73].map (cv ad)) (kxP D cA h0 ad w)) (zQc D cA h0 ad w.1.length (kxR w C R H x y b)) 1 6 (zA h0) := by
  refine zofWH (hh := [(0, 12, 15, 13)]) (cc := zM.cc m_Lws) (maxL := 6) (ret := some .int) (by decide +kernel) rfl ?_
  intro p e s m args below meth c s₁ B hml hv
  obtain ⟨rfl, ⟨hA, hK, hKC, hh⟩, hT3⟩ := hv
  have hts := atoms_spec (ws := wsLs) B.pre
  have hts2 : ∀ v ∈ zT, v.before _ s = true := fun v hv => hts v (List.mem_cons_of_mem _ hv)
  have hl0 := lv_entry ([Value.ref 0, .int x, .int y, .int b, .ref 73].map (cv ad)) (n := 6) (Nat.le_of_ble_eq_true rfl)
  rw [cv_args] at hl0
  rw [lg_entry_eq]
  have hlocks := B.notSynchronized
  have hown : s.vm.findClass "SmokeWedsLaw" = some m.cls := findClass_of_methodNamed B.named
  have htab := vx_table (x := zM.y m_Lws) B (hts _ List.mem_cons_self)
  have C0 : zCtx 10 m_Lws (kxR w C R H x y b) p l e ({ frames := 11, cells := 1, slots := 6, locals := 704 } : Room) s m ([Value.ref 0, .int x, .int y, .int b, .ref 73].map (cv ad)).toArray below meth c (MQ below (zQc D cA h0 ad w.1.length (kxR w C R H x y b)) ([Value.ref 0, .int x, .int y, .int b, .ref 73].map (cv ad)).toArray s 1 6 (zA h0)) D cA h0 ad w.1.length := by
    refine ⟨B.exec, B.bytes, hml, hown, hts2, hK, hKC, hh, (name_of_methodNamed B.named B.method).1, ⟨by decide, by decide⟩, dec_Lws, fun z hz h5 => (by cases hz; exact absurd h5 (by decide)), ?_⟩
    intro r w' hp ad' H locs cells slots pc ls hA' hS' hag hc hs hr _
    refine W.widen (k := 1) (n := 6) hc hs ?_
    have hr0 : ∃ u : Int32, r = some (.int u) := by
      rcases hp with ⟨v, -, h, -⟩ | ⟨-, h, -⟩
      · exact ⟨_, h⟩
      · exact ⟨_, h⟩
    obtain ⟨u, rfl⟩ := hr0
    rcases hr with ⟨h, -⟩ | ⟨v, ty, h, h1, hn, h2⟩ | ⟨v, h, -⟩ | ⟨v, C9, h, -⟩ | ⟨z, -, -, h, -⟩
    · cases h
    · cases h
      exact W.zret B.exec B.bytes (B.returns.trans h1) hn (fun t ht hW => ⟨⟨_, w', ad', hp, rfl, hag, by rw [ht]; exact hA'⟩, hS'.F ht⟩) hS'.2.2 (dec_Lws _ _ h2)
    · cases h
    · rcases h with h | h <;> cases h
    · cases h
  refine lv_aload C0.1 C0.2.1 (C0.dec (pc := 0) rfl) (lv_at hl0 4 rfl) ?_
  refine lv_iconst C0.1 C0.2.1 (C0.dec (pc := 2) rfl) (v := 0) rfl ?_
  refine lv_aload_n C0.1 C0.2.1 (C0.dec (pc := 3) rfl) (i := 0) rfl (lv_at hl0 0 rfl) ?_
  refine lv_iload_n C0.1 C0.2.1 (C0.dec (pc := 4) rfl) (i := 1) rfl (lv_at hl0 1 rfl) ?_
  refine lv_iload_n C0.1 C0.2.1 (C0.dec (pc := 5) rfl) (i := 2) rfl (lv_at hl0 2 rfl) ?_
  refine lv_iload_n C0.1 C0.2.1 (C0.dec (pc := 6) rfl) (i := 3) rfl (lv_at hl0 3 rfl) ?_
  have hA0 : va_S (zA h0) s.heap s.heap [] := va_S.rf
  have hg0 : (∀ o, (o < w.1.length ∨ w.1.length ≤ o) → ad o = ad o) ∧ w.1.length ≤ w.1.length := ⟨fun _ _ => rfl, Nat.le_refl _⟩
  have he := zws_at cA ad hx.1
  rw [zE_obj cA ad w 0 (by decide)] at he
  have hrecv := va_recv C0.2.2.2.2.2.1 hA.1 (show zcl[7]? = some _ from rfl) he
  have hrun := vx_runV (e := e) (below := below) (meth := meth) (C := "SmokeWeds") (cells := 0) (slots := 0) (locs := []) (H := s.heap) (b := ad 0) (As := [.int x, .int y, .int b]) (rest := [.int 0, .ref (ad 73)]) (Ts := zT) (cc := zM.cc m_Lws) (nL := 6) (own := "SmokeWedsLaw") (index := 7) (n := 3) (R := ({ frames := 11, cells := 1, slots := 6, locals := 704 } : Room)) (g := F0 m 7 _ [.int b, .int y, .int x, .ref (ad 0), .int 0, .ref (ad 73)]) ⟨C0.1, C0.2.1, C0.2.2.1, C0.2.2.2.1, hts2⟩ (kx_soot hlt hx hi x y b D cA h0 ad)
    ⟨callB_of 3 hts2 (zWs_good ok_SW_soot) rfl rfl rfl (hts2 _ cl_Lws_7.1.2.1) (hts2 _ cl_Lws_7.1.1) ⟨ok_SW_soot.2.2.2.1.1, ok_SW_soot.2.2.2.1.2, cl_Lws_7.1.2.2⟩ ⟨by decide, by decide⟩, hts2 _ cl_Lws_7.2.1, hts2 _ cl_Lws_7.2.2⟩
    ⟨kxP_blind D cA h0 ad w _, hrecv, fun U hU hW => ⟨rfl, zPre_now C0 hA hA0 hg0 hU hW, kxT.go hT3 hW.alike (fun a _ _ => by rw [hU])⟩⟩ rfl rfl hl0.1 rfl (show 2 * 0 + 2 ≤ 8 by decide) (C0.dec (pc := 7) rfl) ⟨by decide, by decide⟩
  refine vx_calli hrun hA0 (fun _ _ h => h) (fun _ h => h) (fun _ _ h => h) ?_ ?_
  · intro E ce q9 u t H1 locs1 ht hvm hpx hbx hz hq hS1 hcell hv hcl
    obtain ⟨rfl, hA1⟩ := hbx
    refine kx_catch (own := "SmokeWedsLaw") (name := kxN) hown ⟨0, 12, 15, 13⟩ htab (by decide) (by decide) (hts2 _ kx_at7) (kx_cast kx_c (hT3.2.2 _ kx_c) (Vm.Alike.refl _)) hcell hv hcl ?_
    refine lv_astore C0.1 C0.2.1 (C0.dec (pc := 15) rfl) (lv_sub hl0 [] rfl) (by decide) rfl (fun la' hl' => ?_)
    exact kx_l2 hpx 10 p l e _ s m _ below meth c _ D cA h0 ad w.1.length C0 ad H1 locs1 (0 + 1) (0 + 6) la' (by rw [← ht]; exact hA1) hS1 hg0 (by decide) (by decide) (lv_sub hl' [] rfl)
  · intro r u t H1 locs1 ht hvm hpx hbx hz hq hS1
    exact kx_l1 h73 hpx 10 p l e _ s m _ below meth c _ D cA h0 ad w.1.length C0 ad H1 locs1 (0 + 1) (0 + 6) _ (by rw [← ht]; exact hbx) hS1 hg0 (by decide) (by decide) (lv_sub hl0 [] rfl)
/-- the call of it, from the law -/
theorem z_cSoot {mc ms mc2 ms2 d : Nat} {M : zM} {P : Option Value → zW → Prop} {pc : Nat} {ls : List (Nat × Value)} {rest : List Value} {w : zW} {X0 : Nat × (Nat → Int32)} {s0 C R H : Nat} {F G : Int32 → Int32 → Int32 → Int32} {x y b : Int32} (hf : zM.f M pc = some (.invokestatic 70, 3)) (hM : (zM.y M).cls = "SmokeWedsLaw") (hX : zM.X M = some X0) (h5 : X0.1 < 5000) (hx : zX w s0) (hi : zXi (zI w) s0 C R H F G) (h73 : w.1[73]? = some (11, 1)) (hd : 13 ≤ d) (hrest : (rest.map fun v => v.category).sum ≤ 8) (hmc : 1 + mc2 ≤ mc) (hms : 6 + ms2 ≤ ms)
    (k : ∀ r1 w1, kxR w C R H x y b r1 w1 → (w.1.length ≤ w1.1.length ∧ zVl w w1 ls rest) ∧ zS mc2 ms2 d M P (pc + 3) ls (r1.toList ++ rest) w1) : zS mc ms d M P pc ls (.ref 73 :: .int b :: .int y :: .int x :: .ref 0 :: rest) w := by
  intro p l e R0 s m args below meth c Q D cA h0 ad0 n0 C0 ad H0 locs cells slots la hA hS hg hc hs hl
  obtain ⟨-, hlt, hall, hgv, hle⟩ := C0.2.2.2.2.2.2.2.2.2.2.2.1 X0 hX h5
  have hts := C0.2.2.2.2.1
  have hfl := flat_of_before _ hgv
  have hno : ∀ a : Nat, a < s.heap.size → ¬ zA h0 a := fun a h1 h2 => Nat.lt_irrefl _ (Nat.lt_of_lt_of_le h1 (Nat.le_trans hle h2))
  have hT3 : kxT h0 s := ⟨vx_Zqof (hall _ kx_at4) (hall _ kx_at6) (hfl _ (by decide +kernel)) hno, vx_Zqof (hall _ kx_at5) (hall _ kx_at6) (hfl _ (by decide +kernel)) hno, fun v hv => kx_cast hv (hall v (kx_n v hv).2.2) (Vm.Alike.refl _)⟩
  have hrm := C0.2.2.2.2.2.2.2.2.2.1
  have hgd : GoodIn zT wsLs := fun w h => by
    rcases List.mem_cons.mp h with rfl | h
    · exact zT_good _ wsLs_in
    · exact zT_good w h
  have hcw : vx_CSW R0 s args (zM.y M).cls 70 (zM.y m_Lws) (zM.cc m_Lws) 6 (some .int) [(0, 12, 15, 13)] wsLs ({ frames := 11, cells := 1, slots := 6, locals := 704 } : Room) 1 6 5 := by
    rw [hM]
    exact ⟨⟨rfl, rfl, by show 11 + 1 ≤ R0.frames; omega, by show 8 + (6 + 11) + 704 ≤ R0.locals; omega, pay_in hts hgd, List.mem_cons_self⟩, hts _ wsLs_in, hts _ cl_Lws_70.1.2.1, ⟨by decide +kernel, by decide +kernel⟩, fun sig h => by
      have h2 := cl_Lws_70.1.2.2
      rw [h] at h2
      exact (Option.some.inj h2).symm, hts _ cl_Lws_70.1.1, hts _ cl_Lws_70.2⟩
  exact z_after (rest := rest) C0 hS hg hc hs hl (vx_runSW (As := [Value.ref 0, .int x, .int y, .int b, .ref 73].map (cv ad)) (Ts := zT) ⟨C0.1, C0.2.1, C0.2.2.1, C0.2.2.2.1, hts⟩ (kx_lw hlt hx hi h73 x y b D cA h0 ad) hcw ⟨kxP_blind D cA h0 ad w _, fun U hU hW => ⟨rfl, zPre_now C0 hA hS hg hU hW, kxT.go hT3 hW.alike (fun a h1 h2 => by rw [hU]; exact hS.2.1 a h1 h2)⟩⟩ rfl rfl hl.1 rfl (by show 2 * 0 + _ ≤ 8; rw [zcat]; omega) (C0.dec hf) ⟨by omega, by omega⟩) hmc hms k
