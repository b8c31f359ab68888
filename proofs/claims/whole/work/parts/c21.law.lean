/-! the law decoded, 1 -/
set_option maxRecDepth 100000 in
theorem dLw_288 : ∀ pc q, 288 ≤ pc → pc < 288 + 72 → t_law pc = some q → decode code pc = .ok q := zrange_ok (by decide +kernel)
set_option maxRecDepth 100000 in
theorem dLw_360 : ∀ pc q, 360 ≤ pc → pc < 360 + 72 → t_law pc = some q → decode code pc = .ok q := zrange_ok (by decide +kernel)
set_option maxRecDepth 100000 in
theorem dLw_432 : ∀ pc q, 432 ≤ pc → pc < 432 + 72 → t_law pc = some q → decode code pc = .ok q := zrange_ok (by decide +kernel)
set_option maxRecDepth 100000 in
theorem dLw_504 : ∀ pc q, 504 ≤ pc → pc < 504 + 72 → t_law pc = some q → decode code pc = .ok q := zrange_ok (by decide +kernel)
