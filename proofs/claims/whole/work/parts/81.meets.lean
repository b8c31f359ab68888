/-! SMOKE: who meets whom, by the object's rows and by the model's, is one set -/
def pX (f : Nat → Nat → Int32) (s h : Nat) : Int32 := if f (s + 4) h = 3 then f (s + 1) h + 1 else f (s + 1) h
def cH (f : Nat → Nat → Int32) (s C R yv h : Nat) : Nat → Option Nat := clA C R (pX f s h) (f (s + 2) h) (zkE.getD yv 0) (zkS.getD yv 0)
def cLen (f : Nat → Nat → Int32) (s : Nat) (G : Int32 → Int32 → Int32 → Int32) (hour : Int32) (yv h : Nat) : Nat := plN (f (s + 4) h) (G hour (f (s + 3) h) (nI yv))
def ccov (f : Nat → Nat → Int32) (s C R yv : Nat) (G : Int32 → Int32 → Int32 → Int32) (hour burn : Int32) (h p : Nat) : Bool := hasB burn h && covB (cH f s C R yv h) p (cLen f s G hour yv h)
def stIn (f : Nat → Nat → Int32) (s C R H : Nat) : Prop := ∀ h, h < H → ∃ c r, c < C ∧ r < R ∧ f (s + 1) h = nI c ∧ f (s + 2) h = nI r
theorem stIn_p {f : Nat → Nat → Int32} {s C R H h : Nat} (hs : stIn f s C R H) (hC : C ≤ 12) (hR : R ≤ 12) (hh : h < H) : ∃ c r, c ≤ 12 ∧ r ≤ 12 ∧ pX f s h = nI c ∧ f (s + 2) h = nI r := by
  obtain ⟨c, r, h1, h2, h3, h4⟩ := hs h hh
  unfold pX
  by_cases z : f (s + 4) h = 3
  · exact ⟨c + 1, r, by omega, by omega, by rw [if_pos z, h3, nI_1], h4⟩
  · exact ⟨c, r, by omega, by omega, by rw [if_neg z, h3], h4⟩
theorem cov_lt {C R : Nat} (hC : C ≤ 12) (hR : R ≤ 12) {x y dx dy : Int32} {p n : Nat} (h : covB (clA C R x y dx dy) p n = true) : p < 144 := by
  obtain ⟨i, _, h2⟩ := covB_iff.mp h
  exact (cell_in hC hR h2).1
section R81
variable {f : Nat → Nat → Int32} {a s C R H yv : Nat} {G : Int32 → Int32 → Int32 → Int32} {hour burn : Int32}
theorem rise_bits (hC : C ≤ 12) (hR : R ≤ 12) (hH : H ≤ 8) (hy : yv < 8) (hsa : s + 12 ≤ a ∨ a + 5 ≤ s) (hs : stIn f s C R H) : ∀ i, i ≤ H → (∀ p b, p < 144 → b < 32 → tb (riseM f a s C R yv G hour burn i (a + 4) p) b = (decide (b < i) && ccov f s C R yv G hour burn b p)) ∧ (∀ j b, j < 8 → b < 32 → (tb (riseM f a s C R yv G hour burn i (a + 1) j) b = true ↔ j < i ∧ b < i ∧ j ≠ b ∧ ∃ p, p < 144 ∧ ccov f s C R yv G hour burn j p = true ∧ ccov f s C R yv G hour burn b p = true))
  | 0, _ => by
    refine ⟨fun p b hp hb => ?_, fun j b hj hb => ?_⟩
    · show tb (rise0 f a (a + 4) p) b = _
      unfold rise0
      rw [zr_h]
      unfold fillF
      rw [if_pos hp, tb_0]
      simp
    · show tb (rise0 f a (a + 1) j) b = true ↔ _
      unfold rise0
      rw [zr_o _ _ (by omega), zr_o _ _ (by omega), zr_h]
      unfold fillF
      rw [if_pos hj, tb_0]
      simp
  | i + 1, hi => by
    obtain ⟨I1, I2⟩ := rise_bits hC hR hH hy hsa hs i (by omega)
    rw [riseM_s]
    by_cases hb : hasB burn i = true
    · rw [if_pos hb]
      have eo : ∀ k, k ≤ 4 → riseM f a s C R yv G hour burn i (s + k) = f (s + k) := fun k hk => riseM_o f a s C R yv G hour burn (by omega) (by omega) (by omega) (by omega) i
      obtain ⟨c0, r0, hc0, hr0, ex, ey⟩ := stIn_p hs hC hR (show i < H by omega)
      have hd := dir_ok ⟨yv, hy⟩
      have hd : dirOK (zkE.getD yv 0) (zkS.getD yv 0) := hd
      have hl := (plN_eq (f (s + 4) i) (G hour (f (s + 3) i) (nI yv))).2
      have hl : cLen f s G hour yv i ≤ 42 := hl
      have eq0 : lay0 (riseM f a s C R yv G hour burn i) a s i = (pX f s i, f (s + 2) i, 0, riseM f a s C R yv G hour burn i (a + 4), 0, riseM f a s C R yv G hour burn i (a + 3)) := by
        unfold lay0 pX
        rw [eo 4 (by decide), eo 1 (by decide), eo 2 (by decide)]
      generalize hF : riseM f a s C R yv G hour burn i = F at I1 I2 eq0 ⊢
      have eE : layE F a s C R i yv (cLen f s G hour yv i) = layN C R i (zkE.getD yv 0) (zkS.getD yv 0) (pX f s i, f (s + 2) i, 0, F (a + 4), 0, F (a + 3)) (if cLen f s G hour yv i ≤ 13 then cLen f s G hour yv i else 13) := by
        unfold layE
        rw [eq0]
      have cI : ∀ p, ccov f s C R yv G hour burn i p = covB (clA C R (pX f s i) (f (s + 2) i) (zkE.getD yv 0) (zkS.getD yv 0)) p (if cLen f s G hour yv i ≤ 13 then cLen f s G hour yv i else 13) := fun p => by
        rw [covB_13 hC hR ex hc0 ey hr0 hd hl]
        unfold ccov cH
        rw [hb]; rfl
      have hm100 : (if cLen f s G hour yv i ≤ 13 then cLen f s G hour yv i else 13) < 100 := by split <;> omega
      have crs : ∀ b, b < 32 → (tb (layE F a s C R i yv (cLen f s G hour yv i)).2.2.1 b = true ↔ b < i ∧ ∃ p, p < 144 ∧ ccov f s C R yv G hour burn i p = true ∧ ccov f s C R yv G hour burn b p = true) := fun b hb32 => by
        rw [eE, lay_crs (by omega) _ hb32]
        show (tb (0 : Int32) b || anyB _ _) = true ↔ _
        rw [tb_0, Bool.false_or, anyB_iff]
        constructor
        · rintro ⟨k, h1, h2⟩
          unfold crsB at h2
          cases e : clA C R (pX f s i) (f (s + 2) i) (zkE.getD yv 0) (zkS.getD yv 0) k with
          | none => rw [e] at h2; cases h2
          | some p =>
            have hp := (cell_in hC hR e).1
            rw [e] at h2
            have h2 : (tb (F (a + 4) p) b || (decide (b = i) && covB (clA C R (pX f s i) (f (s + 2) i) (zkE.getD yv 0) (zkS.getD yv 0)) p k)) = true := h2
            rw [covB_new hC hR ex hc0 ey hr0 hd (by omega) e, Bool.and_false, Bool.or_false, I1 p b hp hb32, Bool.and_eq_true, decide_eq_true_eq] at h2
            refine ⟨h2.1, p, hp, ?_, h2.2⟩
            rw [cI, covB_iff]
            exact ⟨k, h1, e⟩
        · rintro ⟨h1, p, hp, h2, h3⟩
          rw [cI, covB_iff] at h2
          obtain ⟨k, h4, h5⟩ := h2
          refine ⟨k, h4, ?_⟩
          unfold crsB
          rw [h5]
          show (tb (F (a + 4) p) b || _) = true
          rw [I1 p b hp hb32, h3]
          simp [h1]
      refine ⟨fun p b hp hb32 => ?_, fun j b hj hb32 => ?_⟩
      · show tb (layFin F a s C R i yv (cLen f s G hour yv i) (a + 4) p) b = _
        unfold layFin
        rw [zr_o _ _ (by omega), layF_4, eE, lay_who (by omega) _ p hb32]
        show (tb (F (a + 4) p) b || (decide (b = i) && covB (clA C R (pX f s i) (f (s + 2) i) (zkE.getD yv 0) (zkS.getD yv 0)) p _)) = _
        rw [← cI, I1 p b hp hb32]
        by_cases z : b = i
        · subst z; simp
        · have : (b < i + 1) ↔ b < i := by omega
          simp [z, this]
      · show tb (layFin F a s C R i yv (cLen f s G hour yv i) (a + 1) j) b = true ↔ _
        unfold layFin
        rw [zr_h]
        unfold metR
        by_cases z1 : j < i
        · rw [if_pos z1]
          have hj32 : j < 32 := by omega
          have cj := crs j hj32
          by_cases z2 : ((layE F a s C R i yv (cLen f s G hour yv i)).2.2.1 >>> (nI j &&& 31)) &&& 1 = 0
          · rw [if_pos z2, I2 j b hj hb32]
            have nc : ¬ tb (layE F a s C R i yv (cLen f s G hour yv i)).2.2.1 j = true := by rw [(sh_0 hj32 _).mp z2]; decide
            constructor
            · rintro ⟨y1, y2, y3⟩; exact ⟨by omega, by omega, y3⟩
            · rintro ⟨y1, y2, y3, y4⟩
              by_cases y5 : b = i
              · subst y5
                obtain ⟨p, q1, q2, q3⟩ := y4
                exact absurd (cj.mpr ⟨z1, p, q1, q3, q2⟩) nc
              · exact ⟨z1, by omega, y3, y4⟩
          · rw [if_neg z2, tb_or, tb_bitI (by omega) hb32, Bool.or_eq_true, I2 j b hj hb32, decide_eq_true_eq]
            have yc : tb (layE F a s C R i yv (cLen f s G hour yv i)).2.2.1 j = true := Decidable.byContradiction (fun e => z2 ((sh_0 hj32 _).mpr (by simpa using e)))
            obtain ⟨_, p, q1, q2, q3⟩ := cj.mp yc
            constructor
            · rintro (⟨y1, y2, y3⟩ | y1)
              · exact ⟨by omega, by omega, y3⟩
              · subst y1; exact ⟨by omega, by omega, by omega, p, q1, q3, q2⟩
            · rintro ⟨y1, y2, y3, y4⟩
              by_cases y5 : b = i
              · exact Or.inr y5
              · exact Or.inl ⟨z1, by omega, y3, y4⟩
        · rw [if_neg z1]
          by_cases z2 : j = i
          · subst z2
            rw [if_pos rfl, crs b hb32]
            constructor
            · rintro ⟨y1, y2⟩; exact ⟨by omega, by omega, by omega, y2⟩
            · rintro ⟨y1, y2, y3, y4⟩; exact ⟨by omega, y4⟩
          · rw [if_neg z2, I2 j b hj hb32]
            constructor
            · rintro ⟨y1, _⟩; omega
            · rintro ⟨y1, _⟩; omega
    · rw [if_neg hb]
      have n1 : ∀ p, ccov f s C R yv G hour burn i p = false := fun p => by
        unfold ccov
        cases e : hasB burn i with
        | false => rfl
        | true => exact absurd e hb
      refine ⟨fun p b hp hb32 => ?_, fun j b hj hb32 => ?_⟩
      · rw [I1 p b hp hb32]
        by_cases z : b = i
        · subst z; simp [n1]
        · have : (b < i + 1) ↔ b < i := by omega
          simp [this]
      · rw [I2 j b hj hb32]
        constructor
        · rintro ⟨y1, y2, y3⟩; exact ⟨by omega, by omega, y3⟩
        · rintro ⟨y1, y2, y3, p, q1, q2, q3⟩
          refine ⟨?_, ?_, y3, p, q1, q2, q3⟩
          · by_cases y5 : j = i
            · subst y5; rw [n1] at q2; cases q2
            · omega
          · by_cases y5 : b = i
            · subst y5; rw [n1] at q3; cases q3
            · omega
end R81
