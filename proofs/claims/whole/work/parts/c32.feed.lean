/-! the law: feed -/
set_option maxRecDepth 100000 in
set_option maxHeartbeats 4000000 in
theorem lc_feed {X : Nat × (Nat → Int32)} {w : zW} {s N i mc ms : Nat} (hX : X.1 < 5000) (hi : 7 * i + 7 ≤ X.1) (h : Iv w s N) (hN : N ≤ 511000) (kk : ∀ w2 s2, Iv w2 s2 (N + 1000) → zS mc ms 140 (m_law X) lP 1115 (lLS i) [] w2) : zS (mc + 22) (ms + 3463) 140 (m_law X) lP 144 (lLS i) [] w := by
  refine z_aload_n (pc := 144) (i := 1) (j := 1) rfl rfl rfl ?_
  refine z_aload_n (pc := 145) (i := 0) (j := 0) rfl rfl rfl ?_
  refine z_iload (pc := 146) (i := 4) (j := 4) rfl rfl ?_
  refine z_iconst (pc := 148) (v := 1) rfl (by decide) ?_
  refine z_iadd (pc := 149) rfl ?_
  refine z_tX (pc := 150) rfl rfl hX (lwb (j := 1) hX hi (by decide)) ?_
  refine z_i2l (pc := 151) rfl ?_
  refine z_bipush (pc := 152) (v := 32) rfl (by decide) ?_
  refine z_lshl (pc := 154) rfl ?_
  refine z_aload_n (pc := 155) (i := 0) (j := 0) rfl rfl rfl ?_
  refine z_iload (pc := 156) (i := 4) (j := 4) rfl rfl ?_
  refine z_iconst (pc := 158) (v := 2) rfl (by decide) ?_
  refine z_iadd (pc := 159) rfl ?_
  refine z_tX (pc := 160) rfl rfl hX (lwb (j := 2) hX hi (by decide)) ?_
  refine z_i2l (pc := 161) rfl ?_
  refine z_ldc2 (pc := 162) (v := 4294967295) rfl kl_Lw_19 ?_
  refine z_land (pc := 165) rfl ?_
  refine z_lor (pc := 166) rfl ?_
  refine z_aload_n (pc := 167) (i := 0) (j := 0) rfl rfl rfl ?_
  refine z_iload (pc := 168) (i := 4) (j := 4) rfl rfl ?_
  refine z_iconst (pc := 170) (v := 3) rfl (by decide) ?_
  refine z_iadd (pc := 171) rfl ?_
  refine z_tX (pc := 172) rfl rfl hX (lwb (j := 3) hX hi (by decide)) ?_
  refine z_i2l (pc := 173) rfl ?_
  refine z_bipush (pc := 174) (v := 32) rfl (by decide) ?_
  refine z_lshl (pc := 176) rfl ?_
  refine z_aload_n (pc := 177) (i := 0) (j := 0) rfl rfl rfl ?_
  refine z_iload (pc := 178) (i := 4) (j := 4) rfl rfl ?_
  refine z_iconst (pc := 180) (v := 4) rfl (by decide) ?_
  refine z_iadd (pc := 181) rfl ?_
  refine z_tX (pc := 182) rfl rfl hX (lwb (j := 4) hX hi (by decide)) ?_
  refine z_i2l (pc := 183) rfl ?_
  refine z_ldc2 (pc := 184) (v := 4294967295) rfl kl_Lw_19 ?_
  refine z_land (pc := 187) rfl ?_
  refine z_lor (pc := 188) rfl ?_
  refine z_aload_n (pc := 189) (i := 0) (j := 0) rfl rfl rfl ?_
  refine z_iload (pc := 190) (i := 4) (j := 4) rfl rfl ?_
  refine z_iconst (pc := 192) (v := 5) rfl (by decide) ?_
  refine z_iadd (pc := 193) rfl ?_
  refine z_tX (pc := 194) rfl rfl hX (lwb (j := 5) hX hi (by decide)) ?_
  refine z_i2l (pc := 195) rfl ?_
  refine z_bipush (pc := 196) (v := 32) rfl (by decide) ?_
  refine z_lshl (pc := 198) rfl ?_
  refine z_aload_n (pc := 199) (i := 0) (j := 0) rfl rfl rfl ?_
  refine z_iload (pc := 200) (i := 4) (j := 4) rfl rfl ?_
  refine z_bipush (pc := 202) (v := 6) rfl (by decide) ?_
  refine z_iadd (pc := 204) rfl ?_
  refine z_tX (pc := 205) rfl rfl hX (lwb (j := 6) hX hi (by decide)) ?_
  refine z_i2l (pc := 206) rfl ?_
  refine z_ldc2 (pc := 207) (v := 4294967295) rfl kl_Lw_19 ?_
  refine z_land (pc := 210) rfl ?_
  refine z_lor (pc := 211) rfl ?_
  refine z_cV (pc := 212) (mc1 := 22) (ms1 := 3463) (mc2 := mc) (ms2 := ms) (as := [.long ((((lwv X i 1).toInt64) <<< ((32 : Int32).toInt64 &&& 63)) ||| (((lwv X i 2).toInt64) &&& 4294967295)), .long ((((lwv X i 3).toInt64) <<< ((32 : Int32).toInt64 &&& 63)) ||| (((lwv X i 4).toInt64) &&& 4294967295)), .long ((((lwv X i 5).toInt64) <<< ((32 : Int32).toInt64 &&& 63)) ||| (((lwv X i 6).toInt64) &&& 4294967295))]) (rest := []) (o := 0) rfl rfl h.1.1.1 ok_SW_feed rfl rfl cl_Lw_21 (by decide) (Nat.le_of_ble_eq_true rfl) (Nat.le_of_ble_eq_true rfl) (by omega) (by omega) (op_feed h hN ((((lwv X i 1).toInt64) <<< ((32 : Int32).toInt64 &&& 63)) ||| (((lwv X i 2).toInt64) &&& 4294967295)) ((((lwv X i 3).toInt64) <<< ((32 : Int32).toInt64 &&& 63)) ||| (((lwv X i 4).toInt64) &&& 4294967295)) ((((lwv X i 5).toInt64) <<< ((32 : Int32).toInt64 &&& 63)) ||| (((lwv X i 6).toInt64) &&& 4294967295))) (fun r1 w1 hp => ?_) rfl rfl
  obtain ⟨v, rfl, ⟨l1, l2, l3⟩, hz⟩ := hp
  refine ⟨⟨l1, lw_vl h l2⟩, ?_⟩
  refine z_aload_n (pc := 215) (i := 2) (j := 2) rfl rfl rfl ?_
  refine z_aload_n (pc := 216) (i := 0) (j := 0) rfl rfl rfl ?_
  refine z_iload (pc := 217) (i := 4) (j := 4) rfl rfl ?_
  refine z_iconst (pc := 219) (v := 1) rfl (by decide) ?_
  refine z_iadd (pc := 220) rfl ?_
  refine z_tX (pc := 221) rfl rfl hX (lwb (j := 1) hX hi (by decide)) ?_
  refine z_i2l (pc := 222) rfl ?_
  refine z_bipush (pc := 223) (v := 32) rfl (by decide) ?_
  refine z_lshl (pc := 225) rfl ?_
  refine z_aload_n (pc := 226) (i := 0) (j := 0) rfl rfl rfl ?_
  refine z_iload (pc := 227) (i := 4) (j := 4) rfl rfl ?_
  refine z_iconst (pc := 229) (v := 2) rfl (by decide) ?_
  refine z_iadd (pc := 230) rfl ?_
  refine z_tX (pc := 231) rfl rfl hX (lwb (j := 2) hX hi (by decide)) ?_
  refine z_i2l (pc := 232) rfl ?_
  refine z_ldc2 (pc := 233) (v := 4294967295) rfl kl_Lw_19 ?_
  refine z_land (pc := 236) rfl ?_
  refine z_lor (pc := 237) rfl ?_
  refine z_aload_n (pc := 238) (i := 0) (j := 0) rfl rfl rfl ?_
  refine z_iload (pc := 239) (i := 4) (j := 4) rfl rfl ?_
  refine z_iconst (pc := 241) (v := 3) rfl (by decide) ?_
  refine z_iadd (pc := 242) rfl ?_
  refine z_tX (pc := 243) rfl rfl hX (lwb (j := 3) hX hi (by decide)) ?_
  refine z_i2l (pc := 244) rfl ?_
  refine z_bipush (pc := 245) (v := 32) rfl (by decide) ?_
  refine z_lshl (pc := 247) rfl ?_
  refine z_aload_n (pc := 248) (i := 0) (j := 0) rfl rfl rfl ?_
  refine z_iload (pc := 249) (i := 4) (j := 4) rfl rfl ?_
  refine z_iconst (pc := 251) (v := 4) rfl (by decide) ?_
  refine z_iadd (pc := 252) rfl ?_
  refine z_tX (pc := 253) rfl rfl hX (lwb (j := 4) hX hi (by decide)) ?_
  refine z_i2l (pc := 254) rfl ?_
  refine z_ldc2 (pc := 255) (v := 4294967295) rfl kl_Lw_19 ?_
  refine z_land (pc := 258) rfl ?_
  refine z_lor (pc := 259) rfl ?_
  refine z_aload_n (pc := 260) (i := 0) (j := 0) rfl rfl rfl ?_
  refine z_iload (pc := 261) (i := 4) (j := 4) rfl rfl ?_
  refine z_iconst (pc := 263) (v := 5) rfl (by decide) ?_
  refine z_iadd (pc := 264) rfl ?_
  refine z_tX (pc := 265) rfl rfl hX (lwb (j := 5) hX hi (by decide)) ?_
  refine z_i2l (pc := 266) rfl ?_
  refine z_bipush (pc := 267) (v := 32) rfl (by decide) ?_
  refine z_lshl (pc := 269) rfl ?_
  refine z_aload_n (pc := 270) (i := 0) (j := 0) rfl rfl rfl ?_
  refine z_iload (pc := 271) (i := 4) (j := 4) rfl rfl ?_
  refine z_bipush (pc := 273) (v := 6) rfl (by decide) ?_
  refine z_iadd (pc := 275) rfl ?_
  refine z_tX (pc := 276) rfl rfl hX (lwb (j := 6) hX hi (by decide)) ?_
  refine z_i2l (pc := 277) rfl ?_
  refine z_ldc2 (pc := 278) (v := 4294967295) rfl kl_Lw_19 ?_
  refine z_land (pc := 281) rfl ?_
  refine z_lor (pc := 282) rfl ?_
  refine z_cV (pc := 283) (mc1 := 0) (ms1 := 0) (mc2 := mc) (ms2 := ms) (as := [.long ((((lwv X i 1).toInt64) <<< ((32 : Int32).toInt64 &&& 63)) ||| (((lwv X i 2).toInt64) &&& 4294967295)), .long ((((lwv X i 3).toInt64) <<< ((32 : Int32).toInt64 &&& 63)) ||| (((lwv X i 4).toInt64) &&& 4294967295)), .long ((((lwv X i 5).toInt64) <<< ((32 : Int32).toInt64 &&& 63)) ||| (((lwv X i 6).toInt64) &&& 4294967295))]) (rest := [.int v]) (o := 44) rfl rfl l3 ok_Mod_feed rfl rfl cl_Lw_25 (by decide) (Nat.le_of_ble_eq_true rfl) (Nat.le_of_ble_eq_true rfl) (by omega) (by omega) hz (fun r2 w2 hq => ?_) rfl rfl
  obtain ⟨rfl, ew, s2, h2⟩ := hq
  refine ⟨⟨by rw [ew]; exact Nat.le_refl _, Or.inl (by rw [ew])⟩, ?_⟩
  refine z_icmp_eq (pc := 286) (tgt := 1115) rfl (by decide) (fun h286 => ?_) (fun h286 => ?_)
  · exact kk w2 s2 h2
  · exact absurd rfl h286
