/-- what Integer.bitCount computes -/
def bitc (x : Int32) : Int32 :=
  let a := x - ((x.toUInt32 >>> ((1 : Int32).toUInt32 &&& Int32.toUInt32 31)).toInt32 &&& 1431655765)
  let b := (a &&& 858993459) + ((a.toUInt32 >>> ((2 : Int32).toUInt32 &&& Int32.toUInt32 31)).toInt32 &&& 858993459)
  let c := (b + (b.toUInt32 >>> ((4 : Int32).toUInt32 &&& Int32.toUInt32 31)).toInt32) &&& 252645135
  let e := c + (c.toUInt32 >>> ((8 : Int32).toUInt32 &&& Int32.toUInt32 31)).toInt32
  let f := e + (e.toUInt32 >>> ((16 : Int32).toUInt32 &&& Int32.toUInt32 31)).toInt32
  f &&& 63
set_option maxRecDepth 100000 in
set_option maxHeartbeats 4000000 in
theorem c_SW_cellPlace (x : Int32) (y : Int32) (d : Nat) (w : zW) : zS 0 0 d m_SW_cellPlace (fun rv w1 => rv = some (.int ((y * 12) + x)) ∧ w1 = w) 0 [(0, .int x), (1, .int y)] [] w := by
  refine z_iload_n (pc := 0) (i := 1) (j := 1) rfl rfl rfl ?_
  refine z_bipush (pc := 1) (v := 12) rfl (by decide) ?_
  refine z_imul (pc := 3) rfl ?_
  refine z_iload_n (pc := 4) (i := 0) (j := 0) rfl rfl rfl ?_
  refine z_iadd (pc := 5) rfl ?_
  exact z_iret (pc := 6) rfl rfl ⟨rfl, rfl⟩
set_option maxRecDepth 100000 in
set_option maxHeartbeats 4000000 in
theorem c_SW_hasBit (b : Int32) (p : Int32) (d : Nat) (w : zW) : zS 0 0 d m_SW_hasBit (fun rv w1 => rv = some (.int (if (b >>> (p &&& 31)) &&& 1 = 0 then 0 else 1)) ∧ w1 = w) 0 [(0, .int b), (1, .int p)] [] w := by
  refine z_iload_n (pc := 0) (i := 0) (j := 0) rfl rfl rfl ?_
  refine z_iload_n (pc := 1) (i := 1) (j := 1) rfl rfl rfl ?_
  refine z_ishr (pc := 2) rfl ?_
  refine z_iconst (pc := 3) (v := 1) rfl (by decide) ?_
  refine z_iand (pc := 4) rfl ?_
  refine z_if_eq (pc := 5) (tgt := 12) rfl (by decide) (fun h5 => ?_) (fun h5 => ?_)
  · refine z_iconst (pc := 12) (v := 0) rfl (by decide) ?_
    exact z_zret (pc := 13) rfl rfl (by decide) ⟨by rw [if_pos h5], rfl⟩
  · refine z_iconst (pc := 8) (v := 1) rfl (by decide) ?_
    refine z_goto (pc := 9) (tgt := 13) rfl (by decide) ?_
    exact z_zret (pc := 13) rfl rfl (by decide) ⟨by rw [if_neg h5], rfl⟩
set_option maxRecDepth 100000 in
set_option maxHeartbeats 4000000 in
theorem c_SW_turns (a : Int32) (b : Int32) (d : Nat) (w : zW) : zS 0 0 d m_SW_turns (fun rv w1 => rv = some (.int (if a = (-1) then 0 else (if a = b then 0 else 1))) ∧ w1 = w) 0 [(0, .int a), (1, .int b)] [] w := by
  refine z_iload_n (pc := 0) (i := 0) (j := 0) rfl rfl rfl ?_
  refine z_iconst (pc := 1) (v := (-1)) rfl (by decide) ?_
  refine z_icmp_eq (pc := 2) (tgt := 14) rfl (by decide) (fun h2 => ?_) (fun h2 => ?_)
  · refine z_iconst (pc := 14) (v := 0) rfl (by decide) ?_
    exact z_zret (pc := 15) rfl rfl (by decide) ⟨by rw [if_pos h2], rfl⟩
  · refine z_iload_n (pc := 5) (i := 0) (j := 0) rfl rfl rfl ?_
    refine z_iload_n (pc := 6) (i := 1) (j := 1) rfl rfl rfl ?_
    refine z_icmp_eq (pc := 7) (tgt := 14) rfl (by decide) (fun h7 => ?_) (fun h7 => ?_)
    · refine z_iconst (pc := 14) (v := 0) rfl (by decide) ?_
      exact z_zret (pc := 15) rfl rfl (by decide) ⟨by rw [if_neg h2, if_pos h7], rfl⟩
    · refine z_iconst (pc := 10) (v := 1) rfl (by decide) ?_
      refine z_goto (pc := 11) (tgt := 15) rfl (by decide) ?_
      exact z_zret (pc := 15) rfl rfl (by decide) ⟨by rw [if_neg h2, if_neg h7], rfl⟩
set_option maxRecDepth 100000 in
set_option maxHeartbeats 4000000 in
theorem c_SW_pairPlace (a : Int32) (b : Int32) (d : Nat) (hd : 1 ≤ d) (w : zW) : zS 0 0 d m_SW_pairPlace (fun rv w1 => rv = some (.int (((if b < a then b else a) * 8) + (if a < b then b else a))) ∧ w1 = w) 0 [(0, .int a), (1, .int b)] [] w := by
  refine z_iload_n (pc := 0) (i := 0) (j := 0) rfl rfl rfl ?_
  refine z_iload_n (pc := 1) (i := 1) (j := 1) rfl rfl rfl ?_
  refine z_mmin (pc := 2) rfl ml_SW_193 (by omega) (Nat.le_of_ble_eq_true rfl) ?_
  refine z_bipush (pc := 5) (v := 8) rfl (by decide) ?_
  refine z_imul (pc := 7) rfl ?_
  refine z_iload_n (pc := 8) (i := 0) (j := 0) rfl rfl rfl ?_
  refine z_iload_n (pc := 9) (i := 1) (j := 1) rfl rfl rfl ?_
  refine z_mmax (pc := 10) rfl ml_SW_236 (by omega) (Nat.le_of_ble_eq_true rfl) ?_
  refine z_iadd (pc := 13) rfl ?_
  exact z_iret (pc := 14) rfl rfl ⟨rfl, rfl⟩
set_option maxRecDepth 100000 in
set_option maxHeartbeats 4000000 in
theorem c_SW_nextDraw (g : Int64) (d : Nat) (w : zW) : zS 0 0 d m_SW_nextDraw (fun rv w1 => rv = some (.long (((g * 1103515245) + 12345) - ((g * 1103515245) + 12345) / 2147483648 * 2147483648)) ∧ w1 = w) 0 [(0, .long g)] [] w := by
  refine z_lload_n (pc := 0) (i := 0) (j := 0) rfl rfl rfl ?_
  refine z_ldc2 (pc := 1) (v := 1103515245) rfl kl_SW_267 ?_
  refine z_lmul (pc := 4) rfl ?_
  refine z_ldc2 (pc := 5) (v := 12345) rfl kl_SW_269 ?_
  refine z_ladd (pc := 8) rfl ?_
  refine z_ldc2 (pc := 9) (v := 2147483648) rfl kl_SW_271 ?_
  refine z_lrem (pc := 12) rfl (by decide) ?_
  exact z_lret (pc := 13) rfl rfl ⟨rfl, rfl⟩
set_option maxRecDepth 100000 in
set_option maxHeartbeats 4000000 in
theorem c_Integer_bitCount (x : Int32) (d : Nat) (w : zW) : zS 0 0 d m_Integer_bitCount (fun rv w1 => rv = some (.int (bitc x)) ∧ w1 = w) 0 [(0, .int x)] [] w := by
  refine z_iload_n (pc := 0) (i := 0) (j := 0) rfl rfl rfl ?_
  refine z_iload_n (pc := 1) (i := 0) (j := 0) rfl rfl rfl ?_
  refine z_iconst (pc := 2) (v := 1) rfl (by decide) ?_
  refine z_iushr (pc := 3) rfl ?_
  refine z_ldcw (pc := 4) (v := 1431655765) rfl kl_Integer_265 ?_
  refine z_iand (pc := 7) rfl ?_
  refine z_isub (pc := 8) rfl ?_
  refine z_istore_n (pc := 9) (i := 0) (ls' := [(0, .int (x - (((x.toUInt32 >>> ((1 : Int32).toUInt32 &&& Int32.toUInt32 31)).toInt32) &&& 1431655765)))]) rfl rfl (by decide) rfl ?_
  refine z_iload_n (pc := 10) (i := 0) (j := 0) rfl rfl rfl ?_
  refine z_ldcw (pc := 11) (v := 858993459) rfl kl_Integer_266 ?_
  refine z_iand (pc := 14) rfl ?_
  refine z_iload_n (pc := 15) (i := 0) (j := 0) rfl rfl rfl ?_
  refine z_iconst (pc := 16) (v := 2) rfl (by decide) ?_
  refine z_iushr (pc := 17) rfl ?_
  refine z_ldcw (pc := 18) (v := 858993459) rfl kl_Integer_266 ?_
  refine z_iand (pc := 21) rfl ?_
  refine z_iadd (pc := 22) rfl ?_
  refine z_istore_n (pc := 23) (i := 0) (ls' := [(0, .int (((x - (((x.toUInt32 >>> ((1 : Int32).toUInt32 &&& Int32.toUInt32 31)).toInt32) &&& 1431655765)) &&& 858993459) + ((((x - (((x.toUInt32 >>> ((1 : Int32).toUInt32 &&& Int32.toUInt32 31)).toInt32) &&& 1431655765)).toUInt32 >>> ((2 : Int32).toUInt32 &&& Int32.toUInt32 31)).toInt32) &&& 858993459)))]) rfl rfl (by decide) rfl ?_
  refine z_iload_n (pc := 24) (i := 0) (j := 0) rfl rfl rfl ?_
  refine z_iload_n (pc := 25) (i := 0) (j := 0) rfl rfl rfl ?_
  refine z_iconst (pc := 26) (v := 4) rfl (by decide) ?_
  refine z_iushr (pc := 27) rfl ?_
  refine z_iadd (pc := 28) rfl ?_
  refine z_ldcw (pc := 29) (v := 252645135) rfl kl_Integer_267 ?_
  refine z_iand (pc := 32) rfl ?_
  refine z_istore_n (pc := 33) (i := 0) (ls' := [(0, .int (((((x - (((x.toUInt32 >>> ((1 : Int32).toUInt32 &&& Int32.toUInt32 31)).toInt32) &&& 1431655765)) &&& 858993459) + ((((x - (((x.toUInt32 >>> ((1 : Int32).toUInt32 &&& Int32.toUInt32 31)).toInt32) &&& 1431655765)).toUInt32 >>> ((2 : Int32).toUInt32 &&& Int32.toUInt32 31)).toInt32) &&& 858993459)) + (((((x - (((x.toUInt32 >>> ((1 : Int32).toUInt32 &&& Int32.toUInt32 31)).toInt32) &&& 1431655765)) &&& 858993459) + ((((x - (((x.toUInt32 >>> ((1 : Int32).toUInt32 &&& Int32.toUInt32 31)).toInt32) &&& 1431655765)).toUInt32 >>> ((2 : Int32).toUInt32 &&& Int32.toUInt32 31)).toInt32) &&& 858993459)).toUInt32 >>> ((4 : Int32).toUInt32 &&& Int32.toUInt32 31)).toInt32)) &&& 252645135))]) rfl rfl (by decide) rfl ?_
  refine z_iload_n (pc := 34) (i := 0) (j := 0) rfl rfl rfl ?_
  refine z_iload_n (pc := 35) (i := 0) (j := 0) rfl rfl rfl ?_
  refine z_bipush (pc := 36) (v := 8) rfl (by decide) ?_
  refine z_iushr (pc := 38) rfl ?_
  refine z_iadd (pc := 39) rfl ?_
  refine z_istore_n (pc := 40) (i := 0) (ls' := [(0, .int ((((((x - (((x.toUInt32 >>> ((1 : Int32).toUInt32 &&& Int32.toUInt32 31)).toInt32) &&& 1431655765)) &&& 858993459) + ((((x - (((x.toUInt32 >>> ((1 : Int32).toUInt32 &&& Int32.toUInt32 31)).toInt32) &&& 1431655765)).toUInt32 >>> ((2 : Int32).toUInt32 &&& Int32.toUInt32 31)).toInt32) &&& 858993459)) + (((((x - (((x.toUInt32 >>> ((1 : Int32).toUInt32 &&& Int32.toUInt32 31)).toInt32) &&& 1431655765)) &&& 858993459) + ((((x - (((x.toUInt32 >>> ((1 : Int32).toUInt32 &&& Int32.toUInt32 31)).toInt32) &&& 1431655765)).toUInt32 >>> ((2 : Int32).toUInt32 &&& Int32.toUInt32 31)).toInt32) &&& 858993459)).toUInt32 >>> ((4 : Int32).toUInt32 &&& Int32.toUInt32 31)).toInt32)) &&& 252645135) + (((((((x - (((x.toUInt32 >>> ((1 : Int32).toUInt32 &&& Int32.toUInt32 31)).toInt32) &&& 1431655765)) &&& 858993459) + ((((x - (((x.toUInt32 >>> ((1 : Int32).toUInt32 &&& Int32.toUInt32 31)).toInt32) &&& 1431655765)).toUInt32 >>> ((2 : Int32).toUInt32 &&& Int32.toUInt32 31)).toInt32) &&& 858993459)) + (((((x - (((x.toUInt32 >>> ((1 : Int32).toUInt32 &&& Int32.toUInt32 31)).toInt32) &&& 1431655765)) &&& 858993459) + ((((x - (((x.toUInt32 >>> ((1 : Int32).toUInt32 &&& Int32.toUInt32 31)).toInt32) &&& 1431655765)).toUInt32 >>> ((2 : Int32).toUInt32 &&& Int32.toUInt32 31)).toInt32) &&& 858993459)).toUInt32 >>> ((4 : Int32).toUInt32 &&& Int32.toUInt32 31)).toInt32)) &&& 252645135).toUInt32 >>> ((8 : Int32).toUInt32 &&& Int32.toUInt32 31)).toInt32)))]) rfl rfl (by decide) rfl ?_
  refine z_iload_n (pc := 41) (i := 0) (j := 0) rfl rfl rfl ?_
  refine z_iload_n (pc := 42) (i := 0) (j := 0) rfl rfl rfl ?_
  refine z_bipush (pc := 43) (v := 16) rfl (by decide) ?_
  refine z_iushr (pc := 45) rfl ?_
  refine z_iadd (pc := 46) rfl ?_
  refine z_istore_n (pc := 47) (i := 0) (ls' := [(0, .int (((((((x - (((x.toUInt32 >>> ((1 : Int32).toUInt32 &&& Int32.toUInt32 31)).toInt32) &&& 1431655765)) &&& 858993459) + ((((x - (((x.toUInt32 >>> ((1 : Int32).toUInt32 &&& Int32.toUInt32 31)).toInt32) &&& 1431655765)).toUInt32 >>> ((2 : Int32).toUInt32 &&& Int32.toUInt32 31)).toInt32) &&& 858993459)) + (((((x - (((x.toUInt32 >>> ((1 : Int32).toUInt32 &&& Int32.toUInt32 31)).toInt32) &&& 1431655765)) &&& 858993459) + ((((x - (((x.toUInt32 >>> ((1 : Int32).toUInt32 &&& Int32.toUInt32 31)).toInt32) &&& 1431655765)).toUInt32 >>> ((2 : Int32).toUInt32 &&& Int32.toUInt32 31)).toInt32) &&& 858993459)).toUInt32 >>> ((4 : Int32).toUInt32 &&& Int32.toUInt32 31)).toInt32)) &&& 252645135) + (((((((x - (((x.toUInt32 >>> ((1 : Int32).toUInt32 &&& Int32.toUInt32 31)).toInt32) &&& 1431655765)) &&& 858993459) + ((((x - (((x.toUInt32 >>> ((1 : Int32).toUInt32 &&& Int32.toUInt32 31)).toInt32) &&& 1431655765)).toUInt32 >>> ((2 : Int32).toUInt32 &&& Int32.toUInt32 31)).toInt32) &&& 858993459)) + (((((x - (((x.toUInt32 >>> ((1 : Int32).toUInt32 &&& Int32.toUInt32 31)).toInt32) &&& 1431655765)) &&& 858993459) + ((((x - (((x.toUInt32 >>> ((1 : Int32).toUInt32 &&& Int32.toUInt32 31)).toInt32) &&& 1431655765)).toUInt32 >>> ((2 : Int32).toUInt32 &&& Int32.toUInt32 31)).toInt32) &&& 858993459)).toUInt32 >>> ((4 : Int32).toUInt32 &&& Int32.toUInt32 31)).toInt32)) &&& 252645135).toUInt32 >>> ((8 : Int32).toUInt32 &&& Int32.toUInt32 31)).toInt32)) + ((((((((x - (((x.toUInt32 >>> ((1 : Int32).toUInt32 &&& Int32.toUInt32 31)).toInt32) &&& 1431655765)) &&& 858993459) + ((((x - (((x.toUInt32 >>> ((1 : Int32).toUInt32 &&& Int32.toUInt32 31)).toInt32) &&& 1431655765)).toUInt32 >>> ((2 : Int32).toUInt32 &&& Int32.toUInt32 31)).toInt32) &&& 858993459)) + (((((x - (((x.toUInt32 >>> ((1 : Int32).toUInt32 &&& Int32.toUInt32 31)).toInt32) &&& 1431655765)) &&& 858993459) + ((((x - (((x.toUInt32 >>> ((1 : Int32).toUInt32 &&& Int32.toUInt32 31)).toInt32) &&& 1431655765)).toUInt32 >>> ((2 : Int32).toUInt32 &&& Int32.toUInt32 31)).toInt32) &&& 858993459)).toUInt32 >>> ((4 : Int32).toUInt32 &&& Int32.toUInt32 31)).toInt32)) &&& 252645135) + (((((((x - (((x.toUInt32 >>> ((1 : Int32).toUInt32 &&& Int32.toUInt32 31)).toInt32) &&& 1431655765)) &&& 858993459) + ((((x - (((x.toUInt32 >>> ((1 : Int32).toUInt32 &&& Int32.toUInt32 31)).toInt32) &&& 1431655765)).toUInt32 >>> ((2 : Int32).toUInt32 &&& Int32.toUInt32 31)).toInt32) &&& 858993459)) + (((((x - (((x.toUInt32 >>> ((1 : Int32).toUInt32 &&& Int32.toUInt32 31)).toInt32) &&& 1431655765)) &&& 858993459) + ((((x - (((x.toUInt32 >>> ((1 : Int32).toUInt32 &&& Int32.toUInt32 31)).toInt32) &&& 1431655765)).toUInt32 >>> ((2 : Int32).toUInt32 &&& Int32.toUInt32 31)).toInt32) &&& 858993459)).toUInt32 >>> ((4 : Int32).toUInt32 &&& Int32.toUInt32 31)).toInt32)) &&& 252645135).toUInt32 >>> ((8 : Int32).toUInt32 &&& Int32.toUInt32 31)).toInt32)).toUInt32 >>> ((16 : Int32).toUInt32 &&& Int32.toUInt32 31)).toInt32)))]) rfl rfl (by decide) rfl ?_
  refine z_iload_n (pc := 48) (i := 0) (j := 0) rfl rfl rfl ?_
  refine z_bipush (pc := 49) (v := 63) rfl (by decide) ?_
  refine z_iand (pc := 51) rfl ?_
  exact z_iret (pc := 52) rfl rfl ⟨rfl, rfl⟩
set_option maxRecDepth 100000 in
set_option maxHeartbeats 4000000 in
theorem c_Reader_isDigit (x : Int32) (d : Nat) (w : zW) : zS 0 0 d m_Reader_isDigit (fun rv w1 => rv = some (.int (if x < 48 then 0 else (if 57 < x then 0 else 1))) ∧ w1 = w) 0 [(0, .int x)] [] w := by
  refine z_iload_n (pc := 0) (i := 0) (j := 0) rfl rfl rfl ?_
  refine z_bipush (pc := 1) (v := 48) rfl (by decide) ?_
  refine z_icmp_lt (pc := 3) (tgt := 16) rfl (by decide) (fun h3 => ?_) (fun h3 => ?_)
  · refine z_iconst (pc := 16) (v := 0) rfl (by decide) ?_
    exact z_zret (pc := 17) rfl rfl (by decide) ⟨by rw [if_pos h3], rfl⟩
  · refine z_iload_n (pc := 6) (i := 0) (j := 0) rfl rfl rfl ?_
    refine z_bipush (pc := 7) (v := 57) rfl (by decide) ?_
    refine z_icmp_gt (pc := 9) (tgt := 16) rfl (by decide) (fun h9 => ?_) (fun h9 => ?_)
    · refine z_iconst (pc := 16) (v := 0) rfl (by decide) ?_
      exact z_zret (pc := 17) rfl rfl (by decide) ⟨by rw [if_neg h3, if_pos h9], rfl⟩
    · refine z_iconst (pc := 12) (v := 1) rfl (by decide) ?_
      refine z_goto (pc := 13) (tgt := 17) rfl (by decide) ?_
      exact z_zret (pc := 17) rfl rfl (by decide) ⟨by rw [if_neg h3, if_neg h9], rfl⟩
set_option maxRecDepth 100000 in
set_option maxHeartbeats 4000000 in
theorem c_Reader_isLetter (x : Int32) (d : Nat) (w : zW) : zS 0 0 d m_Reader_isLetter (fun rv w1 => rv = some (.int (if x < 97 then 0 else (if 122 < x then 0 else 1))) ∧ w1 = w) 0 [(0, .int x)] [] w := by
  refine z_iload_n (pc := 0) (i := 0) (j := 0) rfl rfl rfl ?_
  refine z_bipush (pc := 1) (v := 97) rfl (by decide) ?_
  refine z_icmp_lt (pc := 3) (tgt := 16) rfl (by decide) (fun h3 => ?_) (fun h3 => ?_)
  · refine z_iconst (pc := 16) (v := 0) rfl (by decide) ?_
    exact z_zret (pc := 17) rfl rfl (by decide) ⟨by rw [if_pos h3], rfl⟩
  · refine z_iload_n (pc := 6) (i := 0) (j := 0) rfl rfl rfl ?_
    refine z_bipush (pc := 7) (v := 122) rfl (by decide) ?_
    refine z_icmp_gt (pc := 9) (tgt := 16) rfl (by decide) (fun h9 => ?_) (fun h9 => ?_)
    · refine z_iconst (pc := 16) (v := 0) rfl (by decide) ?_
      exact z_zret (pc := 17) rfl rfl (by decide) ⟨by rw [if_neg h3, if_pos h9], rfl⟩
    · refine z_iconst (pc := 12) (v := 1) rfl (by decide) ?_
      refine z_goto (pc := 13) (tgt := 17) rfl (by decide) ?_
      exact z_zret (pc := 17) rfl rfl (by decide) ⟨by rw [if_neg h3, if_neg h9], rfl⟩
set_option maxRecDepth 100000 in
set_option maxHeartbeats 4000000 in
theorem c_Word_withLetter (g : Int64) (x : Int32) (d : Nat) (w : zW) : zS 0 0 d m_Word_withLetter (fun rv w1 => rv = some (.long ((g <<< ((8 : Int32).toInt64 &&& 63)) ||| x.toInt64)) ∧ w1 = w) 0 [(0, .long g), (2, .int x)] [] w := by
  refine z_lload_n (pc := 0) (i := 0) (j := 0) rfl rfl rfl ?_
  refine z_bipush (pc := 1) (v := 8) rfl (by decide) ?_
  refine z_lshl (pc := 3) rfl ?_
  refine z_iload_n (pc := 4) (i := 2) (j := 1) rfl rfl rfl ?_
  refine z_i2l (pc := 5) rfl ?_
  refine z_lor (pc := 6) rfl ?_
  exact z_lret (pc := 7) rfl rfl ⟨rfl, rfl⟩
set_option maxRecDepth 100000 in
set_option maxHeartbeats 4000000 in
theorem c_Mod_within (v : Int32) (a : Int32) (b : Int32) (d : Nat) (w : zW) : zS 0 0 d m_Mod_within (fun rv w1 => rv = some (.int (if v < a then 0 else (if b < v then 0 else 1))) ∧ w1 = w) 0 [(0, .int v), (1, .int a), (2, .int b)] [] w := by
  refine z_iload_n (pc := 0) (i := 0) (j := 0) rfl rfl rfl ?_
  refine z_iload_n (pc := 1) (i := 1) (j := 1) rfl rfl rfl ?_
  refine z_icmp_lt (pc := 2) (tgt := 14) rfl (by decide) (fun h2 => ?_) (fun h2 => ?_)
  · refine z_iconst (pc := 14) (v := 0) rfl (by decide) ?_
    exact z_zret (pc := 15) rfl rfl (by decide) ⟨by rw [if_pos h2], rfl⟩
  · refine z_iload_n (pc := 5) (i := 0) (j := 0) rfl rfl rfl ?_
    refine z_iload_n (pc := 6) (i := 2) (j := 2) rfl rfl rfl ?_
    refine z_icmp_gt (pc := 7) (tgt := 14) rfl (by decide) (fun h7 => ?_) (fun h7 => ?_)
    · refine z_iconst (pc := 14) (v := 0) rfl (by decide) ?_
      exact z_zret (pc := 15) rfl rfl (by decide) ⟨by rw [if_neg h2, if_pos h7], rfl⟩
    · refine z_iconst (pc := 10) (v := 1) rfl (by decide) ?_
      refine z_goto (pc := 11) (tgt := 15) rfl (by decide) ?_
      exact z_zret (pc := 15) rfl rfl (by decide) ⟨by rw [if_neg h2, if_neg h7], rfl⟩
set_option maxRecDepth 100000 in
set_option maxHeartbeats 4000000 in
theorem c_Mod_east (x : Int32) (d : Nat) (w : zW) : zS 0 0 d m_Mod_east (fun rv w1 => rv = some (.int (if x < 1 then (if x < 5 then 0 else (-1)) else (if 3 < x then (if x < 5 then 0 else (-1)) else 1))) ∧ w1 = w) 0 [(0, .int x)] [] w := by
  refine z_iload_n (pc := 0) (i := 0) (j := 0) rfl rfl rfl ?_
  refine z_iconst (pc := 1) (v := 1) rfl (by decide) ?_
  refine z_icmp_lt (pc := 2) (tgt := 14) rfl (by decide) (fun h2 => ?_) (fun h2 => ?_)
  · refine z_iload_n (pc := 14) (i := 0) (j := 0) rfl rfl rfl ?_
    refine z_iconst (pc := 15) (v := 5) rfl (by decide) ?_
    refine z_icmp_lt (pc := 16) (tgt := 23) rfl (by decide) (fun h16 => ?_) (fun h16 => ?_)
    · refine z_iconst (pc := 23) (v := 0) rfl (by decide) ?_
      exact z_iret (pc := 24) rfl rfl ⟨by rw [if_pos h2, if_pos h16], rfl⟩
    · refine z_iconst (pc := 19) (v := (-1)) rfl (by decide) ?_
      refine z_goto (pc := 20) (tgt := 24) rfl (by decide) ?_
      exact z_iret (pc := 24) rfl rfl ⟨by rw [if_pos h2, if_neg h16], rfl⟩
  · refine z_iload_n (pc := 5) (i := 0) (j := 0) rfl rfl rfl ?_
    refine z_iconst (pc := 6) (v := 3) rfl (by decide) ?_
    refine z_icmp_gt (pc := 7) (tgt := 14) rfl (by decide) (fun h7 => ?_) (fun h7 => ?_)
    · refine z_iload_n (pc := 14) (i := 0) (j := 0) rfl rfl rfl ?_
      refine z_iconst (pc := 15) (v := 5) rfl (by decide) ?_
      refine z_icmp_lt (pc := 16) (tgt := 23) rfl (by decide) (fun h16 => ?_) (fun h16 => ?_)
      · refine z_iconst (pc := 23) (v := 0) rfl (by decide) ?_
        exact z_iret (pc := 24) rfl rfl ⟨by rw [if_neg h2, if_pos h7, if_pos h16], rfl⟩
      · refine z_iconst (pc := 19) (v := (-1)) rfl (by decide) ?_
        refine z_goto (pc := 20) (tgt := 24) rfl (by decide) ?_
        exact z_iret (pc := 24) rfl rfl ⟨by rw [if_neg h2, if_pos h7, if_neg h16], rfl⟩
    · refine z_iconst (pc := 10) (v := 1) rfl (by decide) ?_
      refine z_goto (pc := 11) (tgt := 24) rfl (by decide) ?_
      exact z_iret (pc := 24) rfl rfl ⟨by rw [if_neg h2, if_neg h7], rfl⟩
set_option maxRecDepth 100000 in
set_option maxHeartbeats 4000000 in
theorem c_Mod_south (x : Int32) (d : Nat) (w : zW) : zS 0 0 d m_Mod_south (fun rv w1 => rv = some (.int (if x < 3 then (if x = 2 then 0 else (if x = 6 then 0 else (-1))) else (if 5 < x then (if x = 2 then 0 else (if x = 6 then 0 else (-1))) else 1))) ∧ w1 = w) 0 [(0, .int x)] [] w := by
  refine z_iload_n (pc := 0) (i := 0) (j := 0) rfl rfl rfl ?_
  refine z_iconst (pc := 1) (v := 3) rfl (by decide) ?_
  refine z_icmp_lt (pc := 2) (tgt := 14) rfl (by decide) (fun h2 => ?_) (fun h2 => ?_)
  · refine z_iload_n (pc := 14) (i := 0) (j := 0) rfl rfl rfl ?_
    refine z_iconst (pc := 15) (v := 2) rfl (by decide) ?_
    refine z_icmp_eq (pc := 16) (tgt := 25) rfl (by decide) (fun h16 => ?_) (fun h16 => ?_)
    · refine z_iconst (pc := 25) (v := 0) rfl (by decide) ?_
      refine z_goto (pc := 26) (tgt := 30) rfl (by decide) ?_
      exact z_iret (pc := 30) rfl rfl ⟨by rw [if_pos h2, if_pos h16], rfl⟩
    · refine z_iload_n (pc := 19) (i := 0) (j := 0) rfl rfl rfl ?_
      refine z_bipush (pc := 20) (v := 6) rfl (by decide) ?_
      refine z_icmp_ne (pc := 22) (tgt := 29) rfl (by decide) (fun h22 => ?_) (fun h22 => ?_)
      · refine z_iconst (pc := 29) (v := (-1)) rfl (by decide) ?_
        exact z_iret (pc := 30) rfl rfl ⟨by rw [if_pos h2, if_neg h16, if_neg h22], rfl⟩
      · refine z_iconst (pc := 25) (v := 0) rfl (by decide) ?_
        refine z_goto (pc := 26) (tgt := 30) rfl (by decide) ?_
        exact z_iret (pc := 30) rfl rfl ⟨by rw [if_pos h2, if_neg h16, if_pos h22], rfl⟩
  · refine z_iload_n (pc := 5) (i := 0) (j := 0) rfl rfl rfl ?_
    refine z_iconst (pc := 6) (v := 5) rfl (by decide) ?_
    refine z_icmp_gt (pc := 7) (tgt := 14) rfl (by decide) (fun h7 => ?_) (fun h7 => ?_)
    · refine z_iload_n (pc := 14) (i := 0) (j := 0) rfl rfl rfl ?_
      refine z_iconst (pc := 15) (v := 2) rfl (by decide) ?_
      refine z_icmp_eq (pc := 16) (tgt := 25) rfl (by decide) (fun h16 => ?_) (fun h16 => ?_)
      · refine z_iconst (pc := 25) (v := 0) rfl (by decide) ?_
        refine z_goto (pc := 26) (tgt := 30) rfl (by decide) ?_
        exact z_iret (pc := 30) rfl rfl ⟨by rw [if_neg h2, if_pos h7, if_pos h16], rfl⟩
      · refine z_iload_n (pc := 19) (i := 0) (j := 0) rfl rfl rfl ?_
        refine z_bipush (pc := 20) (v := 6) rfl (by decide) ?_
        refine z_icmp_ne (pc := 22) (tgt := 29) rfl (by decide) (fun h22 => ?_) (fun h22 => ?_)
        · refine z_iconst (pc := 29) (v := (-1)) rfl (by decide) ?_
          exact z_iret (pc := 30) rfl rfl ⟨by rw [if_neg h2, if_pos h7, if_neg h16, if_neg h22], rfl⟩
        · refine z_iconst (pc := 25) (v := 0) rfl (by decide) ?_
          refine z_goto (pc := 26) (tgt := 30) rfl (by decide) ?_
          exact z_iret (pc := 30) rfl rfl ⟨by rw [if_neg h2, if_pos h7, if_neg h16, if_pos h22], rfl⟩
    · refine z_iconst (pc := 10) (v := 1) rfl (by decide) ?_
      refine z_goto (pc := 11) (tgt := 30) rfl (by decide) ?_
      exact z_iret (pc := 30) rfl rfl ⟨by rw [if_neg h2, if_neg h7], rfl⟩
set_option maxRecDepth 100000 in
set_option maxHeartbeats 4000000 in
theorem c_Mod_placeOf (x : Int32) (d : Nat) (w : zW) : zS 0 0 d m_Mod_placeOf (fun rv w1 => rv = some (.int ((12 * (x / 16)) + (x - x / 16 * 16))) ∧ w1 = w) 0 [(0, .int x)] [] w := by
  refine z_bipush (pc := 0) (v := 12) rfl (by decide) ?_
  refine z_iload_n (pc := 2) (i := 0) (j := 0) rfl rfl rfl ?_
  refine z_bipush (pc := 3) (v := 16) rfl (by decide) ?_
  refine z_idiv (pc := 5) rfl (by decide) ?_
  refine z_imul (pc := 6) rfl ?_
  refine z_iload_n (pc := 7) (i := 0) (j := 0) rfl rfl rfl ?_
  refine z_bipush (pc := 8) (v := 16) rfl (by decide) ?_
  refine z_irem (pc := 10) rfl (by decide) ?_
  refine z_iadd (pc := 11) rfl ?_
  exact z_iret (pc := 12) rfl rfl ⟨rfl, rfl⟩
set_option maxRecDepth 100000 in
set_option maxHeartbeats 4000000 in
theorem c_Math_floorMod (x : Int32) (y : Int32) (d : Nat) (hy : ¬ y = 0) (w : zW) : zS 0 0 d m_Math_floorMod (fun rv w1 => rv = some (.int (if 0 ≤ x ^^^ y then (x - x / y * y) else (if x - x / y * y = 0 then (x - x / y * y) else ((x - x / y * y) + y)))) ∧ w1 = w) 0 [(0, .int x), (1, .int y)] [] w := by
  refine z_iload_n (pc := 0) (i := 0) (j := 0) rfl rfl rfl ?_
  refine z_iload_n (pc := 1) (i := 1) (j := 1) rfl rfl rfl ?_
  refine z_irem (pc := 2) rfl hy ?_
  refine z_istore_n (pc := 3) (i := 2) (ls' := [(0, .int x), (1, .int y), (2, .int (x - x / y * y))]) rfl rfl (by decide) rfl ?_
  refine z_iload_n (pc := 4) (i := 0) (j := 0) rfl rfl rfl ?_
  refine z_iload_n (pc := 5) (i := 1) (j := 1) rfl rfl rfl ?_
  refine z_ixor (pc := 6) rfl ?_
  refine z_if_ge (pc := 7) (tgt := 18) rfl (by decide) (fun h7 => ?_) (fun h7 => ?_)
  · refine z_iload_n (pc := 18) (i := 2) (j := 2) rfl rfl rfl ?_
    exact z_iret (pc := 19) rfl rfl ⟨by rw [if_pos h7], rfl⟩
  · refine z_iload_n (pc := 10) (i := 2) (j := 2) rfl rfl rfl ?_
    refine z_if_eq (pc := 11) (tgt := 18) rfl (by decide) (fun h11 => ?_) (fun h11 => ?_)
    · refine z_iload_n (pc := 18) (i := 2) (j := 2) rfl rfl rfl ?_
      exact z_iret (pc := 19) rfl rfl ⟨by rw [if_neg h7, if_pos h11], rfl⟩
    · refine z_iload_n (pc := 14) (i := 2) (j := 2) rfl rfl rfl ?_
      refine z_iload_n (pc := 15) (i := 1) (j := 1) rfl rfl rfl ?_
      refine z_iadd (pc := 16) rfl ?_
      exact z_iret (pc := 17) rfl rfl ⟨by rw [if_neg h7, if_neg h11], rfl⟩
