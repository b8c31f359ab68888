/-! the law decoded, 2 -/
set_option maxRecDepth 100000 in
theorem dLw_576 : ∀ pc q, 576 ≤ pc → pc < 576 + 72 → t_law pc = some q → decode code pc = .ok q := zrange_ok (by decide +kernel)
set_option maxRecDepth 100000 in
theorem dLw_648 : ∀ pc q, 648 ≤ pc → pc < 648 + 72 → t_law pc = some q → decode code pc = .ok q := zrange_ok (by decide +kernel)
set_option maxRecDepth 100000 in
theorem dLw_720 : ∀ pc q, 720 ≤ pc → pc < 720 + 72 → t_law pc = some q → decode code pc = .ok q := zrange_ok (by decide +kernel)
set_option maxRecDepth 100000 in
theorem dLw_792 : ∀ pc q, 792 ≤ pc → pc < 792 + 72 → t_law pc = some q → decode code pc = .ok q := zrange_ok (by decide +kernel)
