/-! HOURS: the invariant -/
def hrJ (f0 : Nat → Nat → Int32) (s C R H K U N : Nat) (V : Int32 → Int32) (G : Int32 → Int32 → Int32 → Int32) (t : Nat) (f : Nat → Nat → Int32) : Prop := (N + t ≤ 600000 → LR f 21 (hrsR f0 C R H V G t) H (N + t)) ∧ SRn f s 0 C R H K U ∧ (∀ o, o ≠ s + 8 → o ≠ s + 11 → (o < 17 ∨ 26 < o) → f o = f0 o)
theorem hrJ_0 {f : Nat → Nat → Int32} {s C R H K U N : Nat} {V : Int32 → Int32} {G : Int32 → Int32 → Int32 → Int32} (h : SRn f s 0 C R H K U) (k : LR f 21 (f 67) H N) : hrJ f s C R H K U N V G 0 f := ⟨fun _ => k, h, fun _ _ _ _ => rfl⟩
theorem hrJ_n {f0 : Nat → Nat → Int32} {s C R H K U N : Nat} {V : Int32 → Int32} {F G : Int32 → Int32 → Int32 → Int32} (hss : s = 4 ∨ s = 32) (hF : ∀ x y z, F x y z = V x) : ∀ t f g, hrJ f0 s C R H K U N V G t f → hourC s C R H F G f g → hrJ f0 s C R H K U N V G (t + 1) g := fun t f g j c => by
  obtain ⟨j1, j2, j3⟩ := j
  have e := c.1
  refine ⟨fun hN => ?_, ?_, fun o h1 h2 h3 => (e o h1 h2 h3).trans (j3 o h1 h2 h3)⟩
  · have l := LR_pass (V := V) hss j2 (j1 (by omega)) (by omega) hF c
    have p := passR_c (f := f0) (g := f) (j3 46 (by omega) (by omega) (by omega)) (j3 48 (by omega) (by omega) (by omega)) (j3 49 (by omega) (by omega) (by omega)) (j3 50 (by omega) (by omega) (by omega)) (j3 51 (by omega) (by omega) (by omega)) C R H (yvO V (hrsR f0 C R H V G t 138)) G (hrsR f0 C R H V G t)
    rw [p] at l
    exact l
  · exact SRn_keep j2 (fun o h1 h2 h3 h4 h5 => e o h4 h5 (by omega)) (fun i _ => congrFun (e 46 (by omega) (by omega) (by omega)) _) (fun o h1 h2 i _ => congrFun (e o (by omega) (by omega) (by omega)) _) (fun o ho i _ => congrFun (e o (by omega) (by omega) (by omega)) _) (fun i _ => congrFun (e 54 (by omega) (by omega) (by omega)) _)
/-- the answers: the hour -/
theorem an_hours {f0 f : Nat → Nat → Int32} {s C R H K U N t : Nat} {V : Int32 → Int32} {G : Int32 → Int32 → Int32 → Int32} (j : hrJ f0 s C R H K U N V G t f) (hN : N + t ≤ 600000) : f 21 8 = hrsR f0 C R H V G t 138 := (LR_hour (j.1 hN)).symm
