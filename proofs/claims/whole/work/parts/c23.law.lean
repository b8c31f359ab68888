/-! the law decoded, 3 -/
set_option maxRecDepth 100000 in
theorem dLw_864 : ∀ pc q, 864 ≤ pc → pc < 864 + 72 → t_law pc = some q → decode code pc = .ok q := zrange_ok (by decide +kernel)
set_option maxRecDepth 100000 in
theorem dLw_936 : ∀ pc q, 936 ≤ pc → pc < 936 + 72 → t_law pc = some q → decode code pc = .ok q := zrange_ok (by decide +kernel)
set_option maxRecDepth 100000 in
theorem dLw_1008 : ∀ pc q, 1008 ≤ pc → pc < 1008 + 72 → t_law pc = some q → decode code pc = .ok q := zrange_ok (by decide +kernel)
set_option maxRecDepth 100000 in
theorem dLw_1080 : ∀ pc q, 1080 ≤ pc → pc < 1080 + 43 → t_law pc = some q → decode code pc = .ok q := zrange_ok (by decide +kernel)
theorem dec_law (X : Nat × (Nat → Int32)) : ∀ pc q, zM.f (m_law X) pc = some q → decode (zM.cc (m_law X)) pc = .ok q := by
  intro pc q hq
  have hq : zcut 1123 t_law pc = some q := hq
  unfold zcut at hq
  cases hb : Nat.blt pc 1123 with
  | false => rw [hb] at hq; cases hq
  | true =>
    rw [hb] at hq
    have hlt : pc < 1123 := Nat.lt_of_succ_le (by simpa [Nat.blt] using hb)
    have hq : t_law pc = some q := hq
    show decode code pc = .ok q
    by_cases h0 : pc < 0 + 72
    · exact dLw_0 pc q (by omega) h0 hq
    by_cases h72 : pc < 72 + 72
    · exact dLw_72 pc q (by omega) h72 hq
    by_cases h144 : pc < 144 + 72
    · exact dLw_144 pc q (by omega) h144 hq
    by_cases h216 : pc < 216 + 72
    · exact dLw_216 pc q (by omega) h216 hq
    by_cases h288 : pc < 288 + 72
    · exact dLw_288 pc q (by omega) h288 hq
    by_cases h360 : pc < 360 + 72
    · exact dLw_360 pc q (by omega) h360 hq
    by_cases h432 : pc < 432 + 72
    · exact dLw_432 pc q (by omega) h432 hq
    by_cases h504 : pc < 504 + 72
    · exact dLw_504 pc q (by omega) h504 hq
    by_cases h576 : pc < 576 + 72
    · exact dLw_576 pc q (by omega) h576 hq
    by_cases h648 : pc < 648 + 72
    · exact dLw_648 pc q (by omega) h648 hq
    by_cases h720 : pc < 720 + 72
    · exact dLw_720 pc q (by omega) h720 hq
    by_cases h792 : pc < 792 + 72
    · exact dLw_792 pc q (by omega) h792 hq
    by_cases h864 : pc < 864 + 72
    · exact dLw_864 pc q (by omega) h864 hq
    by_cases h936 : pc < 936 + 72
    · exact dLw_936 pc q (by omega) h936 hq
    by_cases h1008 : pc < 1008 + 72
    · exact dLw_1008 pc q (by omega) h1008 hq
    exact dLw_1080 pc q (by omega) (by omega) hq
