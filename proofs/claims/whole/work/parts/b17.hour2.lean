/-! THE ROW BEHIND AN HOUR, PLACE BY PLACE -/
theorem passR_p (f : Nat → Nat → Int32) {C R H : Nat} (yv : Nat) (G : Int32 → Int32 → Int32 → Int32) (r : Nat → Int32) (hC : C ≤ 12) (hR : R ≤ 12) (hH : H ≤ 8) :
    (∀ x y, x < 8 → y < 8 → ((x < H ∧ y < H) → passR f C R H yv G r (8 * x + y) = wdV (turnM (r 139) yv) (mset f C R yv G (r 138) (burnR r) H) r x y ∧ passR f C R H yv G r (64 + (8 * x + y)) = r (64 + (8 * x + y)) + wedE 1 (wdV (turnM (r 139) yv) (mset f C R yv G (r 138) (burnR r) H) r x y)) ∧ (¬ (x < H ∧ y < H) → passR f C R H yv G r (8 * x + y) = r (8 * x + y) ∧ passR f C R H yv G r (64 + (8 * x + y)) = r (64 + (8 * x + y)))) ∧
    (∀ h, h < 8 → passR f C R H yv G r (128 + h) = r (128 + h) + (if h < H then (if burnV (r 136) (r 137) h = 0 then f 46 2 else priceV (f 51 h)) else 0)) ∧
    (passR f C R H yv G r 136 = r 136 ∧ passR f C R H yv G r 137 = r 137 ∧ passR f C R H yv G r 138 = r 138 + 1 ∧ passR f C R H yv G r 139 = 1 + nI yv ∧ ∀ k, 140 ≤ k → k < 176 → passR f C R H yv G r k = r k) ∧
    (∀ h p, h < 8 → p < 144 → passR f C R H yv G r (176 + 8 * p + h) = r (176 + 8 * p + h) + (if h < H ∧ mcov f C R yv G (r 138) (burnR r) h (16 * (p / 12) + p % 12) = true then 1 else 0)) := by
  obtain ⟨a1, a2⟩ := wedA_p (turnM (r 139) yv) 1 (mset f C R yv G (r 138) (burnR r) H) hH (r, 0) H (Nat.le_refl _)
  have y67 : passY f C R H yv G r 67 = passX f C R H yv G r := zr_h _ _ _
  have y70 : passY f C R H yv G r 70 = sset f C R yv G (r 138) (burnR r) H := (zr_o _ _ (by decide)).trans (zr_h _ _ _)
  have y46 : passY f C R H yv G r 46 = f 46 := (zr_o _ _ (by decide)).trans (zr_o _ _ (by decide))
  have y51 : passY f C R H yv G r 51 = f 51 := (zr_o _ _ (by decide)).trans (zr_o _ _ (by decide))
  have x1 : ∀ k, k ≠ 139 → passX f C R H yv G r k = (wedA (turnM (r 139) yv) 1 (mset f C R yv G (r 138) (burnR r) H) H (r, 0) H).1 k := fun k hk => by
    unfold passX
    rw [pk_un hk]
  have x2 : passX f C R H yv G r 139 = 1 + nI yv := by
    unfold passX
    rw [pk_us]
  have x3 : ∀ k, 128 ≤ k → k ≠ 139 → passX f C R H yv G r k = r k := fun k h1 h2 => (x1 k h2).trans (a1 k h1)
  have u : ∀ k, k ≠ 138 → passR f C R H yv G r k = payN (passY f C R H yv G r) H k := fun k hk => by
    unfold passR
    rw [pk_un hk]
  have sb : ∀ h c, h < 8 → ((passY f C R H yv G r 70 c >>> (nI h &&& 31)) &&& 1 = 1 ↔ (h < H ∧ mcov f C R yv G (r 138) (burnR r) h c = true)) := fun h c h8 => by
    rw [y70, sh_1 (by omega)]
    unfold sset
    rw [smk0_tb f C R yv G (r 138) (burnR r) hH (by omega), Bool.and_eq_true, decide_eq_true_iff]
  refine ⟨fun x y hx hy => ?_, fun h h8 => ?_, ⟨?_, ?_, ?_, ?_, fun k h1 h2 => ?_⟩, fun h p h8 hp => ?_⟩
  · rw [u _ (by omega), u _ (by omega), payN_o _ (by omega) H hH, payN_o _ (by omega) H hH, y67, x1 _ (by omega), x1 _ (by omega)]
    exact a2 x y hx hy
  · rw [u _ (by omega), payN_pay _ h8 H hH, y67, x3 _ (by omega) (by omega)]
    unfold payV
    rw [y67, x3 136 (by omega) (by omega), x3 137 (by omega) (by omega), y46, y51]
  · rw [u _ (by omega), payN_o _ (by omega) H hH, y67, x3 _ (by omega) (by omega)]
  · rw [u _ (by omega), payN_o _ (by omega) H hH, y67, x3 _ (by omega) (by omega)]
  · unfold passR
    rw [pk_us]
  · rw [u _ (by omega), payN_o _ (by omega) H hH, y67, x2]
  · rw [u _ (by omega), payN_o _ (by omega) H hH, y67, x3 _ (by omega) (by omega)]
  · rw [u _ (by omega), payN_soot _ h8 hp (fun h c h8 hc z => by
      have := mcov_in hC hR ((sb h c h8).mp z).2
      omega) H hH, y67, x3 _ (by omega) (by omega)]
    congr 1
    by_cases z : h < H ∧ mcov f C R yv G (r 138) (burnR r) h (16 * (p / 12) + p % 12) = true
    · rw [if_pos z, if_pos ⟨z.1, (sb h _ h8).mpr z⟩]
    · rw [if_neg z, if_neg (fun y => z ((sb h _ h8).mp y.2))]
/-- the turn of the wind, on both sides -/
theorem turn_m {ah last : Int32} {yv : Nat} (h : lastR ah last) (hy : yv < 8) : (turnV ah (nI yv) = 0) ↔ turnM last yv = 0 := by
  rw [turn_e h hy]
  unfold frT turnM
  rw [decide_eq_true_iff]
  by_cases a : last ≤ 0
  · rw [if_pos a]; exact ⟨fun _ => rfl, fun _ z => z.1 a⟩
  rw [if_neg a]
  by_cases b : last = 1 + nI yv
  · rw [if_pos b]; exact ⟨fun _ => rfl, fun _ z => z.2 b⟩
  · rw [if_neg b]; exact ⟨fun z => absurd ⟨a, b⟩ z, fun z => absurd z (by decide)⟩
/-- a pair's hours behind an hour -/
theorem wdV_n {y u : Int32} {v : Nat} (hy : y = nI v) (hv : v < 2 ^ 30) : ((0 < v ∨ ¬ u = 0) → wedV y u = nI (v + 1)) ∧ (¬ (0 < v ∨ ¬ u = 0) → wedV y u = nI 0) := by
  unfold wedV
  rw [hy]
  refine ⟨fun z => ?_, fun z => ?_⟩
  · by_cases p : 0 < v
    · rw [if_pos (show 0 < nI v from show nI 0 < nI v from nI_lt p (by omega)), nI_1]
    · have q : ¬ u = 0 := z.resolve_left p
      rw [if_neg (show ¬ 0 < nI v from show ¬ nI 0 < nI v from nI_nlt (by omega) (by omega)), if_neg q, nI_1]
  · have p : ¬ 0 < v := fun p => z (Or.inl p)
    have q : u = 0 := Decidable.byContradiction (fun q => z (Or.inr q))
    rw [if_neg (show ¬ 0 < nI v from show ¬ nI 0 < nI v from nI_nlt (by omega) (by omega)), if_pos q]
    rfl
