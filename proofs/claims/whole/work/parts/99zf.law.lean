/-! The law's 36 cases: from the first instruction of each to the end of the loop's body. -/
section Lw
abbrev P_L_law : Nat → Option am_E := am_fy tb_L_law
abbrev LOl (i : Int) : am_L := [some (am_r (some 0)), some (am_r (some 32)), some (am_r (some 70)), some (am_i (wz i))]
variable {st s1 s2 : am_S} {L : Nat} {xs : Int → Int} {i v : Int}
theorem sc_arg {k : Int} (hs : st.1[0]? = some (.inr (.inl (0, L, fun j => wz (xs j))))) (h0 : 0 ≤ i) (hL : i + 7 ≤ L) (hM : L ≤ 3584) (hk : 0 ≤ k ∧ k ≤ 6) : am_ial st.1 (some 0) 0 (wz (wr (i + k))) = some (wz (xs (i + k))) := by
  rw [wr_id (by omega) (by omega), ial_of hs (by omega) (by omega) (by omega), Int.toNat_of_nonneg (by omega)]
theorem lc_0 (hs : st.1[0]? = some (.inr (.inl (0, L, fun j => wz (xs j))))) (hs1 : s1.1[0]? = some (.inr (.inl (0, L, fun j => wz (xs j))))) (h0 : 0 ≤ i) (hL : i + 7 ≤ L) (hM : L ≤ 3584) (h32 : am_is st.1 (some 32) 12 = true) (h70 : am_is s1.1 (some 70) 13 = true) (hv : rg v) (hX : dn 200 71 [am_r (some 32), am_i (wz (xs (i + 1)))] st = some (some (am_i (wz v)), s1)) (hM2 : dn 200 130 [am_r (some 70), am_i (wz (xs (i + 1)))] s1 = some (some (am_i (wz v)), s2)) : mr 200 P_L_law 192 (LOl i) [] st = mr 200 P_L_law 1518 (LOl i) [] s2 := by
  refine (m_aload_n (q := 193) rfl rfl rfl rfl).trans ?_
  refine (m_aload_n (q := 194) rfl rfl rfl rfl).trans ?_
  refine (m_iload_n (q := 195) rfl rfl rfl rfl).trans ?_
  refine (m_iconst (q := 196) rfl rfl rfl).trans ?_
  refine (m_iadd (q := 197) rfl rfl rfl).trans ?_
  refine (x_ial (q := 198) rfl rfl rfl (sc_arg (k := 1) hs h0 hL hM ⟨by decide, by decide⟩)).trans ?_
  refine (x_cv (rk := 1) (r := some 32) (as := [am_i (wz (xs (i + 1)))]) (rest := []) (q := 201) rfl rfl rfl rfl rfl rfl rfl rfl rfl rfl h32).trans ?_
  rw [hX]
  refine (m_aload_n (q := 202) rfl rfl rfl rfl).trans ?_
  refine (m_aload_n (q := 203) rfl rfl rfl rfl).trans ?_
  refine (m_iload_n (q := 204) rfl rfl rfl rfl).trans ?_
  refine (m_iconst (q := 205) rfl rfl rfl).trans ?_
  refine (m_iadd (q := 206) rfl rfl rfl).trans ?_
  refine (x_ial (q := 207) rfl rfl rfl (sc_arg (k := 1) hs1 h0 hL hM ⟨by decide, by decide⟩)).trans ?_
  refine (x_cv (rk := 1) (r := some 70) (as := [am_i (wz (xs (i + 1)))]) (rest := [am_i (wz v)]) (q := 210) rfl rfl rfl rfl rfl rfl rfl rfl rfl rfl h70).trans ?_
  rw [hM2]
  exact (m_cmpeq (P := P_L_law) (qt := 1518) (qf := 213) rfl rfl hv hv rfl rfl).trans (if_pos rfl)
theorem lc_1 (hs : st.1[0]? = some (.inr (.inl (0, L, fun j => wz (xs j))))) (hs1 : s1.1[0]? = some (.inr (.inl (0, L, fun j => wz (xs j))))) (h0 : 0 ≤ i) (hL : i + 7 ≤ L) (hM : L ≤ 3584) (h32 : am_is st.1 (some 32) 12 = true) (h70 : am_is s1.1 (some 70) 13 = true) (hv : rg v) (hX : dn 200 72 [am_r (some 32), am_i (wz (xs (i + 1))), am_i (wz (xs (i + 2))), am_i (wz (xs (i + 3))), am_i (wz (xs (i + 4)))] st = some (some (am_i (wz v)), s1)) (hM2 : dn 200 131 [am_r (some 70), am_i (wz (xs (i + 1))), am_i (wz (xs (i + 2))), am_i (wz (xs (i + 3))), am_i (wz (xs (i + 4)))] s1 = some (some (am_i (wz v)), s2)) : mr 200 P_L_law 215 (LOl i) [] st = mr 200 P_L_law 1518 (LOl i) [] s2 := by
  refine (m_aload_n (q := 216) rfl rfl rfl rfl).trans ?_
  refine (m_aload_n (q := 217) rfl rfl rfl rfl).trans ?_
  refine (m_iload_n (q := 218) rfl rfl rfl rfl).trans ?_
  refine (m_iconst (q := 219) rfl rfl rfl).trans ?_
  refine (m_iadd (q := 220) rfl rfl rfl).trans ?_
  refine (x_ial (q := 221) rfl rfl rfl (sc_arg (k := 1) hs h0 hL hM ⟨by decide, by decide⟩)).trans ?_
  refine (m_aload_n (q := 222) rfl rfl rfl rfl).trans ?_
  refine (m_iload_n (q := 223) rfl rfl rfl rfl).trans ?_
  refine (m_iconst (q := 224) rfl rfl rfl).trans ?_
  refine (m_iadd (q := 225) rfl rfl rfl).trans ?_
  refine (x_ial (q := 226) rfl rfl rfl (sc_arg (k := 2) hs h0 hL hM ⟨by decide, by decide⟩)).trans ?_
  refine (m_aload_n (q := 227) rfl rfl rfl rfl).trans ?_
  refine (m_iload_n (q := 228) rfl rfl rfl rfl).trans ?_
  refine (m_iconst (q := 229) rfl rfl rfl).trans ?_
  refine (m_iadd (q := 230) rfl rfl rfl).trans ?_
  refine (x_ial (q := 231) rfl rfl rfl (sc_arg (k := 3) hs h0 hL hM ⟨by decide, by decide⟩)).trans ?_
  refine (m_aload_n (q := 232) rfl rfl rfl rfl).trans ?_
  refine (m_iload_n (q := 233) rfl rfl rfl rfl).trans ?_
  refine (m_iconst (q := 234) rfl rfl rfl).trans ?_
  refine (m_iadd (q := 235) rfl rfl rfl).trans ?_
  refine (x_ial (q := 236) rfl rfl rfl (sc_arg (k := 4) hs h0 hL hM ⟨by decide, by decide⟩)).trans ?_
  refine (x_cv (rk := 1) (r := some 32) (as := [am_i (wz (xs (i + 1))), am_i (wz (xs (i + 2))), am_i (wz (xs (i + 3))), am_i (wz (xs (i + 4)))]) (rest := []) (q := 239) rfl rfl rfl rfl rfl rfl rfl rfl rfl rfl h32).trans ?_
  rw [hX]
  refine (m_aload_n (q := 240) rfl rfl rfl rfl).trans ?_
  refine (m_aload_n (q := 241) rfl rfl rfl rfl).trans ?_
  refine (m_iload_n (q := 242) rfl rfl rfl rfl).trans ?_
  refine (m_iconst (q := 243) rfl rfl rfl).trans ?_
  refine (m_iadd (q := 244) rfl rfl rfl).trans ?_
  refine (x_ial (q := 245) rfl rfl rfl (sc_arg (k := 1) hs1 h0 hL hM ⟨by decide, by decide⟩)).trans ?_
  refine (m_aload_n (q := 246) rfl rfl rfl rfl).trans ?_
  refine (m_iload_n (q := 247) rfl rfl rfl rfl).trans ?_
  refine (m_iconst (q := 248) rfl rfl rfl).trans ?_
  refine (m_iadd (q := 249) rfl rfl rfl).trans ?_
  refine (x_ial (q := 250) rfl rfl rfl (sc_arg (k := 2) hs1 h0 hL hM ⟨by decide, by decide⟩)).trans ?_
  refine (m_aload_n (q := 251) rfl rfl rfl rfl).trans ?_
  refine (m_iload_n (q := 252) rfl rfl rfl rfl).trans ?_
  refine (m_iconst (q := 253) rfl rfl rfl).trans ?_
  refine (m_iadd (q := 254) rfl rfl rfl).trans ?_
  refine (x_ial (q := 255) rfl rfl rfl (sc_arg (k := 3) hs1 h0 hL hM ⟨by decide, by decide⟩)).trans ?_
  refine (m_aload_n (q := 256) rfl rfl rfl rfl).trans ?_
  refine (m_iload_n (q := 257) rfl rfl rfl rfl).trans ?_
  refine (m_iconst (q := 258) rfl rfl rfl).trans ?_
  refine (m_iadd (q := 259) rfl rfl rfl).trans ?_
  refine (x_ial (q := 260) rfl rfl rfl (sc_arg (k := 4) hs1 h0 hL hM ⟨by decide, by decide⟩)).trans ?_
  refine (x_cv (rk := 1) (r := some 70) (as := [am_i (wz (xs (i + 1))), am_i (wz (xs (i + 2))), am_i (wz (xs (i + 3))), am_i (wz (xs (i + 4)))]) (rest := [am_i (wz v)]) (q := 263) rfl rfl rfl rfl rfl rfl rfl rfl rfl rfl h70).trans ?_
  rw [hM2]
  exact (m_cmpeq (P := P_L_law) (qt := 1518) (qf := 266) rfl rfl hv hv rfl rfl).trans (if_pos rfl)
theorem lc_2 (hs : st.1[0]? = some (.inr (.inl (0, L, fun j => wz (xs j))))) (hs1 : s1.1[0]? = some (.inr (.inl (0, L, fun j => wz (xs j))))) (h0 : 0 ≤ i) (hL : i + 7 ≤ L) (hM : L ≤ 3584) (h32 : am_is st.1 (some 32) 12 = true) (h70 : am_is s1.1 (some 70) 13 = true) (hv : rg v) (hX : dn 200 73 [am_r (some 32), am_i (wz (xs (i + 1)))] st = some (some (am_i (wz v)), s1)) (hM2 : dn 200 132 [am_r (some 70), am_i (wz (xs (i + 1)))] s1 = some (some (am_i (wz v)), s2)) : mr 200 P_L_law 268 (LOl i) [] st = mr 200 P_L_law 1518 (LOl i) [] s2 := by
  refine (m_aload_n (q := 269) rfl rfl rfl rfl).trans ?_
  refine (m_aload_n (q := 270) rfl rfl rfl rfl).trans ?_
  refine (m_iload_n (q := 271) rfl rfl rfl rfl).trans ?_
  refine (m_iconst (q := 272) rfl rfl rfl).trans ?_
  refine (m_iadd (q := 273) rfl rfl rfl).trans ?_
  refine (x_ial (q := 274) rfl rfl rfl (sc_arg (k := 1) hs h0 hL hM ⟨by decide, by decide⟩)).trans ?_
  refine (x_cv (rk := 1) (r := some 32) (as := [am_i (wz (xs (i + 1)))]) (rest := []) (q := 277) rfl rfl rfl rfl rfl rfl rfl rfl rfl rfl h32).trans ?_
  rw [hX]
  refine (m_aload_n (q := 278) rfl rfl rfl rfl).trans ?_
  refine (m_aload_n (q := 279) rfl rfl rfl rfl).trans ?_
  refine (m_iload_n (q := 280) rfl rfl rfl rfl).trans ?_
  refine (m_iconst (q := 281) rfl rfl rfl).trans ?_
  refine (m_iadd (q := 282) rfl rfl rfl).trans ?_
  refine (x_ial (q := 283) rfl rfl rfl (sc_arg (k := 1) hs1 h0 hL hM ⟨by decide, by decide⟩)).trans ?_
  refine (x_cv (rk := 1) (r := some 70) (as := [am_i (wz (xs (i + 1)))]) (rest := [am_i (wz v)]) (q := 286) rfl rfl rfl rfl rfl rfl rfl rfl rfl rfl h70).trans ?_
  rw [hM2]
  exact (m_cmpeq (P := P_L_law) (qt := 1518) (qf := 289) rfl rfl hv hv rfl rfl).trans (if_pos rfl)
theorem lc_3 (hs : st.1[0]? = some (.inr (.inl (0, L, fun j => wz (xs j))))) (hs1 : s1.1[0]? = some (.inr (.inl (0, L, fun j => wz (xs j))))) (h0 : 0 ≤ i) (hL : i + 7 ≤ L) (hM : L ≤ 3584) (h32 : am_is st.1 (some 32) 12 = true) (h70 : am_is s1.1 (some 70) 13 = true) (hv : rg v) (hX : dn 200 74 [am_r (some 32), am_i (wz (xs (i + 1))), am_i (wz (xs (i + 2)))] st = some (some (am_i (wz v)), s1)) (hM2 : dn 200 133 [am_r (some 70), am_i (wz (xs (i + 1))), am_i (wz (xs (i + 2)))] s1 = some (some (am_i (wz v)), s2)) : mr 200 P_L_law 291 (LOl i) [] st = mr 200 P_L_law 1518 (LOl i) [] s2 := by
  refine (m_aload_n (q := 292) rfl rfl rfl rfl).trans ?_
  refine (m_aload_n (q := 293) rfl rfl rfl rfl).trans ?_
  refine (m_iload_n (q := 294) rfl rfl rfl rfl).trans ?_
  refine (m_iconst (q := 295) rfl rfl rfl).trans ?_
  refine (m_iadd (q := 296) rfl rfl rfl).trans ?_
  refine (x_ial (q := 297) rfl rfl rfl (sc_arg (k := 1) hs h0 hL hM ⟨by decide, by decide⟩)).trans ?_
  refine (m_aload_n (q := 298) rfl rfl rfl rfl).trans ?_
  refine (m_iload_n (q := 299) rfl rfl rfl rfl).trans ?_
  refine (m_iconst (q := 300) rfl rfl rfl).trans ?_
  refine (m_iadd (q := 301) rfl rfl rfl).trans ?_
  refine (x_ial (q := 302) rfl rfl rfl (sc_arg (k := 2) hs h0 hL hM ⟨by decide, by decide⟩)).trans ?_
  refine (x_cv (rk := 1) (r := some 32) (as := [am_i (wz (xs (i + 1))), am_i (wz (xs (i + 2)))]) (rest := []) (q := 305) rfl rfl rfl rfl rfl rfl rfl rfl rfl rfl h32).trans ?_
  rw [hX]
  refine (m_aload_n (q := 306) rfl rfl rfl rfl).trans ?_
  refine (m_aload_n (q := 307) rfl rfl rfl rfl).trans ?_
  refine (m_iload_n (q := 308) rfl rfl rfl rfl).trans ?_
  refine (m_iconst (q := 309) rfl rfl rfl).trans ?_
  refine (m_iadd (q := 310) rfl rfl rfl).trans ?_
  refine (x_ial (q := 311) rfl rfl rfl (sc_arg (k := 1) hs1 h0 hL hM ⟨by decide, by decide⟩)).trans ?_
  refine (m_aload_n (q := 312) rfl rfl rfl rfl).trans ?_
  refine (m_iload_n (q := 313) rfl rfl rfl rfl).trans ?_
  refine (m_iconst (q := 314) rfl rfl rfl).trans ?_
  refine (m_iadd (q := 315) rfl rfl rfl).trans ?_
  refine (x_ial (q := 316) rfl rfl rfl (sc_arg (k := 2) hs1 h0 hL hM ⟨by decide, by decide⟩)).trans ?_
  refine (x_cv (rk := 1) (r := some 70) (as := [am_i (wz (xs (i + 1))), am_i (wz (xs (i + 2)))]) (rest := [am_i (wz v)]) (q := 319) rfl rfl rfl rfl rfl rfl rfl rfl rfl rfl h70).trans ?_
  rw [hM2]
  exact (m_cmpeq (P := P_L_law) (qt := 1518) (qf := 322) rfl rfl hv hv rfl rfl).trans (if_pos rfl)
theorem lc_4 (hs : st.1[0]? = some (.inr (.inl (0, L, fun j => wz (xs j))))) (hs1 : s1.1[0]? = some (.inr (.inl (0, L, fun j => wz (xs j))))) (h0 : 0 ≤ i) (hL : i + 7 ≤ L) (hM : L ≤ 3584) (h32 : am_is st.1 (some 32) 12 = true) (h70 : am_is s1.1 (some 70) 13 = true) (hv : rg v) (hX : dn 200 75 [am_r (some 32), am_i (wz (xs (i + 1))), am_i (wz (xs (i + 2))), am_i (wz (xs (i + 3))), am_i (wz (xs (i + 4))), am_i (wz (xs (i + 5))), am_i (wz (xs (i + 6)))] st = some (some (am_i (wz v)), s1)) (hM2 : dn 200 134 [am_r (some 70), am_i (wz (xs (i + 1))), am_i (wz (xs (i + 2))), am_i (wz (xs (i + 3))), am_i (wz (xs (i + 4))), am_i (wz (xs (i + 5))), am_i (wz (xs (i + 6)))] s1 = some (some (am_i (wz v)), s2)) : mr 200 P_L_law 324 (LOl i) [] st = mr 200 P_L_law 1518 (LOl i) [] s2 := by
  refine (m_aload_n (q := 325) rfl rfl rfl rfl).trans ?_
  refine (m_aload_n (q := 326) rfl rfl rfl rfl).trans ?_
  refine (m_iload_n (q := 327) rfl rfl rfl rfl).trans ?_
  refine (m_iconst (q := 328) rfl rfl rfl).trans ?_
  refine (m_iadd (q := 329) rfl rfl rfl).trans ?_
  refine (x_ial (q := 330) rfl rfl rfl (sc_arg (k := 1) hs h0 hL hM ⟨by decide, by decide⟩)).trans ?_
  refine (m_aload_n (q := 331) rfl rfl rfl rfl).trans ?_
  refine (m_iload_n (q := 332) rfl rfl rfl rfl).trans ?_
  refine (m_iconst (q := 333) rfl rfl rfl).trans ?_
  refine (m_iadd (q := 334) rfl rfl rfl).trans ?_
  refine (x_ial (q := 335) rfl rfl rfl (sc_arg (k := 2) hs h0 hL hM ⟨by decide, by decide⟩)).trans ?_
  refine (m_aload_n (q := 336) rfl rfl rfl rfl).trans ?_
  refine (m_iload_n (q := 337) rfl rfl rfl rfl).trans ?_
  refine (m_iconst (q := 338) rfl rfl rfl).trans ?_
  refine (m_iadd (q := 339) rfl rfl rfl).trans ?_
  refine (x_ial (q := 340) rfl rfl rfl (sc_arg (k := 3) hs h0 hL hM ⟨by decide, by decide⟩)).trans ?_
  refine (m_aload_n (q := 341) rfl rfl rfl rfl).trans ?_
  refine (m_iload_n (q := 342) rfl rfl rfl rfl).trans ?_
  refine (m_iconst (q := 343) rfl rfl rfl).trans ?_
  refine (m_iadd (q := 344) rfl rfl rfl).trans ?_
  refine (x_ial (q := 345) rfl rfl rfl (sc_arg (k := 4) hs h0 hL hM ⟨by decide, by decide⟩)).trans ?_
  refine (m_aload_n (q := 346) rfl rfl rfl rfl).trans ?_
  refine (m_iload_n (q := 347) rfl rfl rfl rfl).trans ?_
  refine (m_iconst (q := 348) rfl rfl rfl).trans ?_
  refine (m_iadd (q := 349) rfl rfl rfl).trans ?_
  refine (x_ial (q := 350) rfl rfl rfl (sc_arg (k := 5) hs h0 hL hM ⟨by decide, by decide⟩)).trans ?_
  refine (m_aload_n (q := 351) rfl rfl rfl rfl).trans ?_
  refine (m_iload_n (q := 352) rfl rfl rfl rfl).trans ?_
  refine (m_bipush (q := 354) rfl rfl rfl).trans ?_
  refine (m_iadd (q := 355) rfl rfl rfl).trans ?_
  refine (x_ial (q := 356) rfl rfl rfl (sc_arg (k := 6) hs h0 hL hM ⟨by decide, by decide⟩)).trans ?_
  refine (x_cv (rk := 1) (r := some 32) (as := [am_i (wz (xs (i + 1))), am_i (wz (xs (i + 2))), am_i (wz (xs (i + 3))), am_i (wz (xs (i + 4))), am_i (wz (xs (i + 5))), am_i (wz (xs (i + 6)))]) (rest := []) (q := 359) rfl rfl rfl rfl rfl rfl rfl rfl rfl rfl h32).trans ?_
  rw [hX]
  refine (m_aload_n (q := 360) rfl rfl rfl rfl).trans ?_
  refine (m_aload_n (q := 361) rfl rfl rfl rfl).trans ?_
  refine (m_iload_n (q := 362) rfl rfl rfl rfl).trans ?_
  refine (m_iconst (q := 363) rfl rfl rfl).trans ?_
  refine (m_iadd (q := 364) rfl rfl rfl).trans ?_
  refine (x_ial (q := 365) rfl rfl rfl (sc_arg (k := 1) hs1 h0 hL hM ⟨by decide, by decide⟩)).trans ?_
  refine (m_aload_n (q := 366) rfl rfl rfl rfl).trans ?_
  refine (m_iload_n (q := 367) rfl rfl rfl rfl).trans ?_
  refine (m_iconst (q := 368) rfl rfl rfl).trans ?_
  refine (m_iadd (q := 369) rfl rfl rfl).trans ?_
  refine (x_ial (q := 370) rfl rfl rfl (sc_arg (k := 2) hs1 h0 hL hM ⟨by decide, by decide⟩)).trans ?_
  refine (m_aload_n (q := 371) rfl rfl rfl rfl).trans ?_
  refine (m_iload_n (q := 372) rfl rfl rfl rfl).trans ?_
  refine (m_iconst (q := 373) rfl rfl rfl).trans ?_
  refine (m_iadd (q := 374) rfl rfl rfl).trans ?_
  refine (x_ial (q := 375) rfl rfl rfl (sc_arg (k := 3) hs1 h0 hL hM ⟨by decide, by decide⟩)).trans ?_
  refine (m_aload_n (q := 376) rfl rfl rfl rfl).trans ?_
  refine (m_iload_n (q := 377) rfl rfl rfl rfl).trans ?_
  refine (m_iconst (q := 378) rfl rfl rfl).trans ?_
  refine (m_iadd (q := 379) rfl rfl rfl).trans ?_
  refine (x_ial (q := 380) rfl rfl rfl (sc_arg (k := 4) hs1 h0 hL hM ⟨by decide, by decide⟩)).trans ?_
  refine (m_aload_n (q := 381) rfl rfl rfl rfl).trans ?_
  refine (m_iload_n (q := 382) rfl rfl rfl rfl).trans ?_
  refine (m_iconst (q := 383) rfl rfl rfl).trans ?_
  refine (m_iadd (q := 384) rfl rfl rfl).trans ?_
  refine (x_ial (q := 385) rfl rfl rfl (sc_arg (k := 5) hs1 h0 hL hM ⟨by decide, by decide⟩)).trans ?_
  refine (m_aload_n (q := 386) rfl rfl rfl rfl).trans ?_
  refine (m_iload_n (q := 387) rfl rfl rfl rfl).trans ?_
  refine (m_bipush (q := 389) rfl rfl rfl).trans ?_
  refine (m_iadd (q := 390) rfl rfl rfl).trans ?_
  refine (x_ial (q := 391) rfl rfl rfl (sc_arg (k := 6) hs1 h0 hL hM ⟨by decide, by decide⟩)).trans ?_
  refine (x_cv (rk := 1) (r := some 70) (as := [am_i (wz (xs (i + 1))), am_i (wz (xs (i + 2))), am_i (wz (xs (i + 3))), am_i (wz (xs (i + 4))), am_i (wz (xs (i + 5))), am_i (wz (xs (i + 6)))]) (rest := [am_i (wz v)]) (q := 394) rfl rfl rfl rfl rfl rfl rfl rfl rfl rfl h70).trans ?_
  rw [hM2]
  exact (m_cmpeq (P := P_L_law) (qt := 1518) (qf := 397) rfl rfl hv hv rfl rfl).trans (if_pos rfl)
theorem lc_5 (hs : st.1[0]? = some (.inr (.inl (0, L, fun j => wz (xs j))))) (hs1 : s1.1[0]? = some (.inr (.inl (0, L, fun j => wz (xs j))))) (h0 : 0 ≤ i) (hL : i + 7 ≤ L) (hM : L ≤ 3584) (h32 : am_is st.1 (some 32) 12 = true) (h70 : am_is s1.1 (some 70) 13 = true) (hv : rg v) (hX : dn 200 76 [am_r (some 32), am_i (wz (xs (i + 1))), am_i (wz (xs (i + 2))), am_i (wz (xs (i + 3)))] st = some (some (am_i (wz v)), s1)) (hM2 : dn 200 136 [am_r (some 70), am_i (wz (xs (i + 1))), am_i (wz (xs (i + 2))), am_i (wz (xs (i + 3)))] s1 = some (some (am_i (wz v)), s2)) : mr 200 P_L_law 399 (LOl i) [] st = mr 200 P_L_law 1518 (LOl i) [] s2 := by
  refine (m_aload_n (q := 400) rfl rfl rfl rfl).trans ?_
  refine (m_aload_n (q := 401) rfl rfl rfl rfl).trans ?_
  refine (m_iload_n (q := 402) rfl rfl rfl rfl).trans ?_
  refine (m_iconst (q := 403) rfl rfl rfl).trans ?_
  refine (m_iadd (q := 404) rfl rfl rfl).trans ?_
  refine (x_ial (q := 405) rfl rfl rfl (sc_arg (k := 1) hs h0 hL hM ⟨by decide, by decide⟩)).trans ?_
  refine (m_aload_n (q := 406) rfl rfl rfl rfl).trans ?_
  refine (m_iload_n (q := 407) rfl rfl rfl rfl).trans ?_
  refine (m_iconst (q := 408) rfl rfl rfl).trans ?_
  refine (m_iadd (q := 409) rfl rfl rfl).trans ?_
  refine (x_ial (q := 410) rfl rfl rfl (sc_arg (k := 2) hs h0 hL hM ⟨by decide, by decide⟩)).trans ?_
  refine (m_aload_n (q := 411) rfl rfl rfl rfl).trans ?_
  refine (m_iload_n (q := 412) rfl rfl rfl rfl).trans ?_
  refine (m_iconst (q := 413) rfl rfl rfl).trans ?_
  refine (m_iadd (q := 414) rfl rfl rfl).trans ?_
  refine (x_ial (q := 415) rfl rfl rfl (sc_arg (k := 3) hs h0 hL hM ⟨by decide, by decide⟩)).trans ?_
  refine (x_cv (rk := 1) (r := some 32) (as := [am_i (wz (xs (i + 1))), am_i (wz (xs (i + 2))), am_i (wz (xs (i + 3)))]) (rest := []) (q := 418) rfl rfl rfl rfl rfl rfl rfl rfl rfl rfl h32).trans ?_
  rw [hX]
  refine (m_aload_n (q := 419) rfl rfl rfl rfl).trans ?_
  refine (m_aload_n (q := 420) rfl rfl rfl rfl).trans ?_
  refine (m_iload_n (q := 421) rfl rfl rfl rfl).trans ?_
  refine (m_iconst (q := 422) rfl rfl rfl).trans ?_
  refine (m_iadd (q := 423) rfl rfl rfl).trans ?_
  refine (x_ial (q := 424) rfl rfl rfl (sc_arg (k := 1) hs1 h0 hL hM ⟨by decide, by decide⟩)).trans ?_
  refine (m_aload_n (q := 425) rfl rfl rfl rfl).trans ?_
  refine (m_iload_n (q := 426) rfl rfl rfl rfl).trans ?_
  refine (m_iconst (q := 427) rfl rfl rfl).trans ?_
  refine (m_iadd (q := 428) rfl rfl rfl).trans ?_
  refine (x_ial (q := 429) rfl rfl rfl (sc_arg (k := 2) hs1 h0 hL hM ⟨by decide, by decide⟩)).trans ?_
  refine (m_aload_n (q := 430) rfl rfl rfl rfl).trans ?_
  refine (m_iload_n (q := 431) rfl rfl rfl rfl).trans ?_
  refine (m_iconst (q := 432) rfl rfl rfl).trans ?_
  refine (m_iadd (q := 433) rfl rfl rfl).trans ?_
  refine (x_ial (q := 434) rfl rfl rfl (sc_arg (k := 3) hs1 h0 hL hM ⟨by decide, by decide⟩)).trans ?_
  refine (x_cv (rk := 1) (r := some 70) (as := [am_i (wz (xs (i + 1))), am_i (wz (xs (i + 2))), am_i (wz (xs (i + 3)))]) (rest := [am_i (wz v)]) (q := 437) rfl rfl rfl rfl rfl rfl rfl rfl rfl rfl h70).trans ?_
  rw [hM2]
  exact (m_cmpeq (P := P_L_law) (qt := 1518) (qf := 440) rfl rfl hv hv rfl rfl).trans (if_pos rfl)
theorem lc_6 (hs : st.1[0]? = some (.inr (.inl (0, L, fun j => wz (xs j))))) (hs1 : s1.1[0]? = some (.inr (.inl (0, L, fun j => wz (xs j))))) (h0 : 0 ≤ i) (hL : i + 7 ≤ L) (hM : L ≤ 3584) (h32 : am_is st.1 (some 32) 12 = true) (h70 : am_is s1.1 (some 70) 13 = true) (hv : rg v) (hX : dn 200 77 [am_r (some 32), am_i (wz (xs (i + 1))), am_i (wz (xs (i + 2))), am_i (wz (xs (i + 3))), am_i (wz (xs (i + 4)))] st = some (some (am_i (wz v)), s1)) (hM2 : dn 200 137 [am_r (some 70), am_i (wz (xs (i + 1))), am_i (wz (xs (i + 2))), am_i (wz (xs (i + 3))), am_i (wz (xs (i + 4)))] s1 = some (some (am_i (wz v)), s2)) : mr 200 P_L_law 442 (LOl i) [] st = mr 200 P_L_law 1518 (LOl i) [] s2 := by
  refine (m_aload_n (q := 443) rfl rfl rfl rfl).trans ?_
  refine (m_aload_n (q := 444) rfl rfl rfl rfl).trans ?_
  refine (m_iload_n (q := 445) rfl rfl rfl rfl).trans ?_
  refine (m_iconst (q := 446) rfl rfl rfl).trans ?_
  refine (m_iadd (q := 447) rfl rfl rfl).trans ?_
  refine (x_ial (q := 448) rfl rfl rfl (sc_arg (k := 1) hs h0 hL hM ⟨by decide, by decide⟩)).trans ?_
  refine (m_aload_n (q := 449) rfl rfl rfl rfl).trans ?_
  refine (m_iload_n (q := 450) rfl rfl rfl rfl).trans ?_
  refine (m_iconst (q := 451) rfl rfl rfl).trans ?_
  refine (m_iadd (q := 452) rfl rfl rfl).trans ?_
  refine (x_ial (q := 453) rfl rfl rfl (sc_arg (k := 2) hs h0 hL hM ⟨by decide, by decide⟩)).trans ?_
  refine (m_aload_n (q := 454) rfl rfl rfl rfl).trans ?_
  refine (m_iload_n (q := 455) rfl rfl rfl rfl).trans ?_
  refine (m_iconst (q := 456) rfl rfl rfl).trans ?_
  refine (m_iadd (q := 457) rfl rfl rfl).trans ?_
  refine (x_ial (q := 458) rfl rfl rfl (sc_arg (k := 3) hs h0 hL hM ⟨by decide, by decide⟩)).trans ?_
  refine (m_aload_n (q := 459) rfl rfl rfl rfl).trans ?_
  refine (m_iload_n (q := 460) rfl rfl rfl rfl).trans ?_
  refine (m_iconst (q := 461) rfl rfl rfl).trans ?_
  refine (m_iadd (q := 462) rfl rfl rfl).trans ?_
  refine (x_ial (q := 463) rfl rfl rfl (sc_arg (k := 4) hs h0 hL hM ⟨by decide, by decide⟩)).trans ?_
  refine (x_cv (rk := 1) (r := some 32) (as := [am_i (wz (xs (i + 1))), am_i (wz (xs (i + 2))), am_i (wz (xs (i + 3))), am_i (wz (xs (i + 4)))]) (rest := []) (q := 466) rfl rfl rfl rfl rfl rfl rfl rfl rfl rfl h32).trans ?_
  rw [hX]
  refine (m_aload_n (q := 467) rfl rfl rfl rfl).trans ?_
  refine (m_aload_n (q := 468) rfl rfl rfl rfl).trans ?_
  refine (m_iload_n (q := 469) rfl rfl rfl rfl).trans ?_
  refine (m_iconst (q := 470) rfl rfl rfl).trans ?_
  refine (m_iadd (q := 471) rfl rfl rfl).trans ?_
  refine (x_ial (q := 472) rfl rfl rfl (sc_arg (k := 1) hs1 h0 hL hM ⟨by decide, by decide⟩)).trans ?_
  refine (m_aload_n (q := 473) rfl rfl rfl rfl).trans ?_
  refine (m_iload_n (q := 474) rfl rfl rfl rfl).trans ?_
  refine (m_iconst (q := 475) rfl rfl rfl).trans ?_
  refine (m_iadd (q := 476) rfl rfl rfl).trans ?_
  refine (x_ial (q := 477) rfl rfl rfl (sc_arg (k := 2) hs1 h0 hL hM ⟨by decide, by decide⟩)).trans ?_
  refine (m_aload_n (q := 478) rfl rfl rfl rfl).trans ?_
  refine (m_iload_n (q := 479) rfl rfl rfl rfl).trans ?_
  refine (m_iconst (q := 480) rfl rfl rfl).trans ?_
  refine (m_iadd (q := 481) rfl rfl rfl).trans ?_
  refine (x_ial (q := 482) rfl rfl rfl (sc_arg (k := 3) hs1 h0 hL hM ⟨by decide, by decide⟩)).trans ?_
  refine (m_aload_n (q := 483) rfl rfl rfl rfl).trans ?_
  refine (m_iload_n (q := 484) rfl rfl rfl rfl).trans ?_
  refine (m_iconst (q := 485) rfl rfl rfl).trans ?_
  refine (m_iadd (q := 486) rfl rfl rfl).trans ?_
  refine (x_ial (q := 487) rfl rfl rfl (sc_arg (k := 4) hs1 h0 hL hM ⟨by decide, by decide⟩)).trans ?_
  refine (x_cv (rk := 1) (r := some 70) (as := [am_i (wz (xs (i + 1))), am_i (wz (xs (i + 2))), am_i (wz (xs (i + 3))), am_i (wz (xs (i + 4)))]) (rest := [am_i (wz v)]) (q := 490) rfl rfl rfl rfl rfl rfl rfl rfl rfl rfl h70).trans ?_
  rw [hM2]
  exact (m_cmpeq (P := P_L_law) (qt := 1518) (qf := 493) rfl rfl hv hv rfl rfl).trans (if_pos rfl)
theorem lc_7 (hs : st.1[0]? = some (.inr (.inl (0, L, fun j => wz (xs j))))) (hs1 : s1.1[0]? = some (.inr (.inl (0, L, fun j => wz (xs j))))) (h0 : 0 ≤ i) (hL : i + 7 ≤ L) (hM : L ≤ 3584) (h32 : am_is st.1 (some 32) 12 = true) (h70 : am_is s1.1 (some 70) 13 = true) (hv : rg v) (hX : dn 200 78 [am_r (some 32), am_i (wz (xs (i + 1)))] st = some (some (am_i (wz v)), s1)) (hM2 : dn 200 138 [am_r (some 70), am_i (wz (xs (i + 1)))] s1 = some (some (am_i (wz v)), s2)) : mr 200 P_L_law 495 (LOl i) [] st = mr 200 P_L_law 1518 (LOl i) [] s2 := by
  refine (m_aload_n (q := 496) rfl rfl rfl rfl).trans ?_
  refine (m_aload_n (q := 497) rfl rfl rfl rfl).trans ?_
  refine (m_iload_n (q := 498) rfl rfl rfl rfl).trans ?_
  refine (m_iconst (q := 499) rfl rfl rfl).trans ?_
  refine (m_iadd (q := 500) rfl rfl rfl).trans ?_
  refine (x_ial (q := 501) rfl rfl rfl (sc_arg (k := 1) hs h0 hL hM ⟨by decide, by decide⟩)).trans ?_
  refine (x_cv (rk := 1) (r := some 32) (as := [am_i (wz (xs (i + 1)))]) (rest := []) (q := 504) rfl rfl rfl rfl rfl rfl rfl rfl rfl rfl h32).trans ?_
  rw [hX]
  refine (m_aload_n (q := 505) rfl rfl rfl rfl).trans ?_
  refine (m_aload_n (q := 506) rfl rfl rfl rfl).trans ?_
  refine (m_iload_n (q := 507) rfl rfl rfl rfl).trans ?_
  refine (m_iconst (q := 508) rfl rfl rfl).trans ?_
  refine (m_iadd (q := 509) rfl rfl rfl).trans ?_
  refine (x_ial (q := 510) rfl rfl rfl (sc_arg (k := 1) hs1 h0 hL hM ⟨by decide, by decide⟩)).trans ?_
  refine (x_cv (rk := 1) (r := some 70) (as := [am_i (wz (xs (i + 1)))]) (rest := [am_i (wz v)]) (q := 513) rfl rfl rfl rfl rfl rfl rfl rfl rfl rfl h70).trans ?_
  rw [hM2]
  exact (m_cmpeq (P := P_L_law) (qt := 1518) (qf := 516) rfl rfl hv hv rfl rfl).trans (if_pos rfl)
theorem lc_8 (hs : st.1[0]? = some (.inr (.inl (0, L, fun j => wz (xs j))))) (hs1 : s1.1[0]? = some (.inr (.inl (0, L, fun j => wz (xs j))))) (h0 : 0 ≤ i) (hL : i + 7 ≤ L) (hM : L ≤ 3584) (h32 : am_is st.1 (some 32) 12 = true) (h70 : am_is s1.1 (some 70) 13 = true) (hv : rg v) (hX : dn 200 79 [am_r (some 32), am_i (wz (xs (i + 1))), am_i (wz (xs (i + 2))), am_i (wz (xs (i + 3)))] st = some (some (am_i (wz v)), s1)) (hM2 : dn 200 142 [am_r (some 70), am_i (wz (xs (i + 1))), am_i (wz (xs (i + 2))), am_i (wz (xs (i + 3)))] s1 = some (some (am_i (wz v)), s2)) : mr 200 P_L_law 518 (LOl i) [] st = mr 200 P_L_law 1518 (LOl i) [] s2 := by
  refine (m_aload_n (q := 519) rfl rfl rfl rfl).trans ?_
  refine (m_aload_n (q := 520) rfl rfl rfl rfl).trans ?_
  refine (m_iload_n (q := 521) rfl rfl rfl rfl).trans ?_
  refine (m_iconst (q := 522) rfl rfl rfl).trans ?_
  refine (m_iadd (q := 523) rfl rfl rfl).trans ?_
  refine (x_ial (q := 524) rfl rfl rfl (sc_arg (k := 1) hs h0 hL hM ⟨by decide, by decide⟩)).trans ?_
  refine (m_aload_n (q := 525) rfl rfl rfl rfl).trans ?_
  refine (m_iload_n (q := 526) rfl rfl rfl rfl).trans ?_
  refine (m_iconst (q := 527) rfl rfl rfl).trans ?_
  refine (m_iadd (q := 528) rfl rfl rfl).trans ?_
  refine (x_ial (q := 529) rfl rfl rfl (sc_arg (k := 2) hs h0 hL hM ⟨by decide, by decide⟩)).trans ?_
  refine (m_aload_n (q := 530) rfl rfl rfl rfl).trans ?_
  refine (m_iload_n (q := 531) rfl rfl rfl rfl).trans ?_
  refine (m_iconst (q := 532) rfl rfl rfl).trans ?_
  refine (m_iadd (q := 533) rfl rfl rfl).trans ?_
  refine (x_ial (q := 534) rfl rfl rfl (sc_arg (k := 3) hs h0 hL hM ⟨by decide, by decide⟩)).trans ?_
  refine (x_cv (rk := 1) (r := some 32) (as := [am_i (wz (xs (i + 1))), am_i (wz (xs (i + 2))), am_i (wz (xs (i + 3)))]) (rest := []) (q := 537) rfl rfl rfl rfl rfl rfl rfl rfl rfl rfl h32).trans ?_
  rw [hX]
  refine (m_aload_n (q := 538) rfl rfl rfl rfl).trans ?_
  refine (m_aload_n (q := 539) rfl rfl rfl rfl).trans ?_
  refine (m_iload_n (q := 540) rfl rfl rfl rfl).trans ?_
  refine (m_iconst (q := 541) rfl rfl rfl).trans ?_
  refine (m_iadd (q := 542) rfl rfl rfl).trans ?_
  refine (x_ial (q := 543) rfl rfl rfl (sc_arg (k := 1) hs1 h0 hL hM ⟨by decide, by decide⟩)).trans ?_
  refine (m_aload_n (q := 544) rfl rfl rfl rfl).trans ?_
  refine (m_iload_n (q := 545) rfl rfl rfl rfl).trans ?_
  refine (m_iconst (q := 546) rfl rfl rfl).trans ?_
  refine (m_iadd (q := 547) rfl rfl rfl).trans ?_
  refine (x_ial (q := 548) rfl rfl rfl (sc_arg (k := 2) hs1 h0 hL hM ⟨by decide, by decide⟩)).trans ?_
  refine (m_aload_n (q := 549) rfl rfl rfl rfl).trans ?_
  refine (m_iload_n (q := 550) rfl rfl rfl rfl).trans ?_
  refine (m_iconst (q := 551) rfl rfl rfl).trans ?_
  refine (m_iadd (q := 552) rfl rfl rfl).trans ?_
  refine (x_ial (q := 553) rfl rfl rfl (sc_arg (k := 3) hs1 h0 hL hM ⟨by decide, by decide⟩)).trans ?_
  refine (x_cv (rk := 1) (r := some 70) (as := [am_i (wz (xs (i + 1))), am_i (wz (xs (i + 2))), am_i (wz (xs (i + 3)))]) (rest := [am_i (wz v)]) (q := 556) rfl rfl rfl rfl rfl rfl rfl rfl rfl rfl h70).trans ?_
  rw [hM2]
  exact (m_cmpeq (P := P_L_law) (qt := 1518) (qf := 559) rfl rfl hv hv rfl rfl).trans (if_pos rfl)
theorem lc_9 (hs : st.1[0]? = some (.inr (.inl (0, L, fun j => wz (xs j))))) (hs1 : s1.1[0]? = some (.inr (.inl (0, L, fun j => wz (xs j))))) (h0 : 0 ≤ i) (hL : i + 7 ≤ L) (hM : L ≤ 3584) (h32 : am_is st.1 (some 32) 12 = true) (h70 : am_is s1.1 (some 70) 13 = true) (hv : rg v) (hX : dn 200 80 [am_r (some 32), am_i (wz (xs (i + 1))), am_i (wz (xs (i + 2))), am_i (wz (xs (i + 3)))] st = some (some (am_i (wz v)), s1)) (hM2 : dn 200 144 [am_r (some 70), am_i (wz (xs (i + 1))), am_i (wz (xs (i + 2))), am_i (wz (xs (i + 3)))] s1 = some (some (am_i (wz v)), s2)) : mr 200 P_L_law 561 (LOl i) [] st = mr 200 P_L_law 1518 (LOl i) [] s2 := by
  refine (m_aload_n (q := 562) rfl rfl rfl rfl).trans ?_
  refine (m_aload_n (q := 563) rfl rfl rfl rfl).trans ?_
  refine (m_iload_n (q := 564) rfl rfl rfl rfl).trans ?_
  refine (m_iconst (q := 565) rfl rfl rfl).trans ?_
  refine (m_iadd (q := 566) rfl rfl rfl).trans ?_
  refine (x_ial (q := 567) rfl rfl rfl (sc_arg (k := 1) hs h0 hL hM ⟨by decide, by decide⟩)).trans ?_
  refine (m_aload_n (q := 568) rfl rfl rfl rfl).trans ?_
  refine (m_iload_n (q := 569) rfl rfl rfl rfl).trans ?_
  refine (m_iconst (q := 570) rfl rfl rfl).trans ?_
  refine (m_iadd (q := 571) rfl rfl rfl).trans ?_
  refine (x_ial (q := 572) rfl rfl rfl (sc_arg (k := 2) hs h0 hL hM ⟨by decide, by decide⟩)).trans ?_
  refine (m_aload_n (q := 573) rfl rfl rfl rfl).trans ?_
  refine (m_iload_n (q := 574) rfl rfl rfl rfl).trans ?_
  refine (m_iconst (q := 575) rfl rfl rfl).trans ?_
  refine (m_iadd (q := 576) rfl rfl rfl).trans ?_
  refine (x_ial (q := 577) rfl rfl rfl (sc_arg (k := 3) hs h0 hL hM ⟨by decide, by decide⟩)).trans ?_
  refine (x_cv (rk := 1) (r := some 32) (as := [am_i (wz (xs (i + 1))), am_i (wz (xs (i + 2))), am_i (wz (xs (i + 3)))]) (rest := []) (q := 580) rfl rfl rfl rfl rfl rfl rfl rfl rfl rfl h32).trans ?_
  rw [hX]
  refine (m_aload_n (q := 581) rfl rfl rfl rfl).trans ?_
  refine (m_aload_n (q := 582) rfl rfl rfl rfl).trans ?_
  refine (m_iload_n (q := 583) rfl rfl rfl rfl).trans ?_
  refine (m_iconst (q := 584) rfl rfl rfl).trans ?_
  refine (m_iadd (q := 585) rfl rfl rfl).trans ?_
  refine (x_ial (q := 586) rfl rfl rfl (sc_arg (k := 1) hs1 h0 hL hM ⟨by decide, by decide⟩)).trans ?_
  refine (m_aload_n (q := 587) rfl rfl rfl rfl).trans ?_
  refine (m_iload_n (q := 588) rfl rfl rfl rfl).trans ?_
  refine (m_iconst (q := 589) rfl rfl rfl).trans ?_
  refine (m_iadd (q := 590) rfl rfl rfl).trans ?_
  refine (x_ial (q := 591) rfl rfl rfl (sc_arg (k := 2) hs1 h0 hL hM ⟨by decide, by decide⟩)).trans ?_
  refine (m_aload_n (q := 592) rfl rfl rfl rfl).trans ?_
  refine (m_iload_n (q := 593) rfl rfl rfl rfl).trans ?_
  refine (m_iconst (q := 594) rfl rfl rfl).trans ?_
  refine (m_iadd (q := 595) rfl rfl rfl).trans ?_
  refine (x_ial (q := 596) rfl rfl rfl (sc_arg (k := 3) hs1 h0 hL hM ⟨by decide, by decide⟩)).trans ?_
  refine (x_cv (rk := 1) (r := some 70) (as := [am_i (wz (xs (i + 1))), am_i (wz (xs (i + 2))), am_i (wz (xs (i + 3)))]) (rest := [am_i (wz v)]) (q := 599) rfl rfl rfl rfl rfl rfl rfl rfl rfl rfl h70).trans ?_
  rw [hM2]
  exact (m_cmpeq (P := P_L_law) (qt := 1518) (qf := 602) rfl rfl hv hv rfl rfl).trans (if_pos rfl)
theorem lc_10 (hs : st.1[0]? = some (.inr (.inl (0, L, fun j => wz (xs j))))) (hs1 : s1.1[0]? = some (.inr (.inl (0, L, fun j => wz (xs j))))) (h0 : 0 ≤ i) (hL : i + 7 ≤ L) (hM : L ≤ 3584) (h32 : am_is st.1 (some 32) 12 = true) (h70 : am_is s1.1 (some 70) 13 = true) (hv : rg v) (hX : dn 200 81 [am_r (some 32), am_i (wz (xs (i + 1))), am_i (wz (xs (i + 2))), am_i (wz (xs (i + 3)))] st = some (some (am_i (wz v)), s1)) (hM2 : dn 200 145 [am_r (some 70), am_i (wz (xs (i + 1))), am_i (wz (xs (i + 2))), am_i (wz (xs (i + 3)))] s1 = some (some (am_i (wz v)), s2)) : mr 200 P_L_law 604 (LOl i) [] st = mr 200 P_L_law 1518 (LOl i) [] s2 := by
  refine (m_aload_n (q := 605) rfl rfl rfl rfl).trans ?_
  refine (m_aload_n (q := 606) rfl rfl rfl rfl).trans ?_
  refine (m_iload_n (q := 607) rfl rfl rfl rfl).trans ?_
  refine (m_iconst (q := 608) rfl rfl rfl).trans ?_
  refine (m_iadd (q := 609) rfl rfl rfl).trans ?_
  refine (x_ial (q := 610) rfl rfl rfl (sc_arg (k := 1) hs h0 hL hM ⟨by decide, by decide⟩)).trans ?_
  refine (m_aload_n (q := 611) rfl rfl rfl rfl).trans ?_
  refine (m_iload_n (q := 612) rfl rfl rfl rfl).trans ?_
  refine (m_iconst (q := 613) rfl rfl rfl).trans ?_
  refine (m_iadd (q := 614) rfl rfl rfl).trans ?_
  refine (x_ial (q := 615) rfl rfl rfl (sc_arg (k := 2) hs h0 hL hM ⟨by decide, by decide⟩)).trans ?_
  refine (m_aload_n (q := 616) rfl rfl rfl rfl).trans ?_
  refine (m_iload_n (q := 617) rfl rfl rfl rfl).trans ?_
  refine (m_iconst (q := 618) rfl rfl rfl).trans ?_
  refine (m_iadd (q := 619) rfl rfl rfl).trans ?_
  refine (x_ial (q := 620) rfl rfl rfl (sc_arg (k := 3) hs h0 hL hM ⟨by decide, by decide⟩)).trans ?_
  refine (x_cv (rk := 1) (r := some 32) (as := [am_i (wz (xs (i + 1))), am_i (wz (xs (i + 2))), am_i (wz (xs (i + 3)))]) (rest := []) (q := 623) rfl rfl rfl rfl rfl rfl rfl rfl rfl rfl h32).trans ?_
  rw [hX]
  refine (m_aload_n (q := 624) rfl rfl rfl rfl).trans ?_
  refine (m_aload_n (q := 625) rfl rfl rfl rfl).trans ?_
  refine (m_iload_n (q := 626) rfl rfl rfl rfl).trans ?_
  refine (m_iconst (q := 627) rfl rfl rfl).trans ?_
  refine (m_iadd (q := 628) rfl rfl rfl).trans ?_
  refine (x_ial (q := 629) rfl rfl rfl (sc_arg (k := 1) hs1 h0 hL hM ⟨by decide, by decide⟩)).trans ?_
  refine (m_aload_n (q := 630) rfl rfl rfl rfl).trans ?_
  refine (m_iload_n (q := 631) rfl rfl rfl rfl).trans ?_
  refine (m_iconst (q := 632) rfl rfl rfl).trans ?_
  refine (m_iadd (q := 633) rfl rfl rfl).trans ?_
  refine (x_ial (q := 634) rfl rfl rfl (sc_arg (k := 2) hs1 h0 hL hM ⟨by decide, by decide⟩)).trans ?_
  refine (m_aload_n (q := 635) rfl rfl rfl rfl).trans ?_
  refine (m_iload_n (q := 636) rfl rfl rfl rfl).trans ?_
  refine (m_iconst (q := 637) rfl rfl rfl).trans ?_
  refine (m_iadd (q := 638) rfl rfl rfl).trans ?_
  refine (x_ial (q := 639) rfl rfl rfl (sc_arg (k := 3) hs1 h0 hL hM ⟨by decide, by decide⟩)).trans ?_
  refine (x_cv (rk := 1) (r := some 70) (as := [am_i (wz (xs (i + 1))), am_i (wz (xs (i + 2))), am_i (wz (xs (i + 3)))]) (rest := [am_i (wz v)]) (q := 642) rfl rfl rfl rfl rfl rfl rfl rfl rfl rfl h70).trans ?_
  rw [hM2]
  exact (m_cmpeq (P := P_L_law) (qt := 1518) (qf := 645) rfl rfl hv hv rfl rfl).trans (if_pos rfl)
theorem lc_11 (hs : st.1[0]? = some (.inr (.inl (0, L, fun j => wz (xs j))))) (hs1 : s1.1[0]? = some (.inr (.inl (0, L, fun j => wz (xs j))))) (h0 : 0 ≤ i) (hL : i + 7 ≤ L) (hM : L ≤ 3584) (h32 : am_is st.1 (some 32) 12 = true) (h70 : am_is s1.1 (some 70) 13 = true) (hv : rg v) (hX : dn 200 82 [am_r (some 32), am_i (wz (xs (i + 1))), am_i (wz (xs (i + 2)))] st = some (some (am_i (wz v)), s1)) (hM2 : dn 200 149 [am_r (some 70), am_i (wz (xs (i + 1))), am_i (wz (xs (i + 2)))] s1 = some (some (am_i (wz v)), s2)) : mr 200 P_L_law 647 (LOl i) [] st = mr 200 P_L_law 1518 (LOl i) [] s2 := by
  refine (m_aload_n (q := 648) rfl rfl rfl rfl).trans ?_
  refine (m_aload_n (q := 649) rfl rfl rfl rfl).trans ?_
  refine (m_iload_n (q := 650) rfl rfl rfl rfl).trans ?_
  refine (m_iconst (q := 651) rfl rfl rfl).trans ?_
  refine (m_iadd (q := 652) rfl rfl rfl).trans ?_
  refine (x_ial (q := 653) rfl rfl rfl (sc_arg (k := 1) hs h0 hL hM ⟨by decide, by decide⟩)).trans ?_
  refine (m_aload_n (q := 654) rfl rfl rfl rfl).trans ?_
  refine (m_iload_n (q := 655) rfl rfl rfl rfl).trans ?_
  refine (m_iconst (q := 656) rfl rfl rfl).trans ?_
  refine (m_iadd (q := 657) rfl rfl rfl).trans ?_
  refine (x_ial (q := 658) rfl rfl rfl (sc_arg (k := 2) hs h0 hL hM ⟨by decide, by decide⟩)).trans ?_
  refine (x_cv (rk := 1) (r := some 32) (as := [am_i (wz (xs (i + 1))), am_i (wz (xs (i + 2)))]) (rest := []) (q := 661) rfl rfl rfl rfl rfl rfl rfl rfl rfl rfl h32).trans ?_
  rw [hX]
  refine (m_aload_n (q := 662) rfl rfl rfl rfl).trans ?_
  refine (m_aload_n (q := 663) rfl rfl rfl rfl).trans ?_
  refine (m_iload_n (q := 664) rfl rfl rfl rfl).trans ?_
  refine (m_iconst (q := 665) rfl rfl rfl).trans ?_
  refine (m_iadd (q := 666) rfl rfl rfl).trans ?_
  refine (x_ial (q := 667) rfl rfl rfl (sc_arg (k := 1) hs1 h0 hL hM ⟨by decide, by decide⟩)).trans ?_
  refine (m_aload_n (q := 668) rfl rfl rfl rfl).trans ?_
  refine (m_iload_n (q := 669) rfl rfl rfl rfl).trans ?_
  refine (m_iconst (q := 670) rfl rfl rfl).trans ?_
  refine (m_iadd (q := 671) rfl rfl rfl).trans ?_
  refine (x_ial (q := 672) rfl rfl rfl (sc_arg (k := 2) hs1 h0 hL hM ⟨by decide, by decide⟩)).trans ?_
  refine (x_cv (rk := 1) (r := some 70) (as := [am_i (wz (xs (i + 1))), am_i (wz (xs (i + 2)))]) (rest := [am_i (wz v)]) (q := 675) rfl rfl rfl rfl rfl rfl rfl rfl rfl rfl h70).trans ?_
  rw [hM2]
  exact (m_cmpeq (P := P_L_law) (qt := 1518) (qf := 678) rfl rfl hv hv rfl rfl).trans (if_pos rfl)
theorem lc_12 (hs : st.1[0]? = some (.inr (.inl (0, L, fun j => wz (xs j))))) (hs1 : s1.1[0]? = some (.inr (.inl (0, L, fun j => wz (xs j))))) (h0 : 0 ≤ i) (hL : i + 7 ≤ L) (hM : L ≤ 3584) (h32 : am_is st.1 (some 32) 12 = true) (h70 : am_is s1.1 (some 70) 13 = true) (hv : rg v) (hX : dn 200 83 [am_r (some 32), am_i (wz (xs (i + 1))), am_i (wz (xs (i + 2))), am_i (wz (xs (i + 3)))] st = some (some (am_i (wz v)), s1)) (hM2 : dn 200 150 [am_r (some 70), am_i (wz (xs (i + 1))), am_i (wz (xs (i + 2))), am_i (wz (xs (i + 3)))] s1 = some (some (am_i (wz v)), s2)) : mr 200 P_L_law 680 (LOl i) [] st = mr 200 P_L_law 1518 (LOl i) [] s2 := by
  refine (m_aload_n (q := 681) rfl rfl rfl rfl).trans ?_
  refine (m_aload_n (q := 682) rfl rfl rfl rfl).trans ?_
  refine (m_iload_n (q := 683) rfl rfl rfl rfl).trans ?_
  refine (m_iconst (q := 684) rfl rfl rfl).trans ?_
  refine (m_iadd (q := 685) rfl rfl rfl).trans ?_
  refine (x_ial (q := 686) rfl rfl rfl (sc_arg (k := 1) hs h0 hL hM ⟨by decide, by decide⟩)).trans ?_
  refine (m_aload_n (q := 687) rfl rfl rfl rfl).trans ?_
  refine (m_iload_n (q := 688) rfl rfl rfl rfl).trans ?_
  refine (m_iconst (q := 689) rfl rfl rfl).trans ?_
  refine (m_iadd (q := 690) rfl rfl rfl).trans ?_
  refine (x_ial (q := 691) rfl rfl rfl (sc_arg (k := 2) hs h0 hL hM ⟨by decide, by decide⟩)).trans ?_
  refine (m_aload_n (q := 692) rfl rfl rfl rfl).trans ?_
  refine (m_iload_n (q := 693) rfl rfl rfl rfl).trans ?_
  refine (m_iconst (q := 694) rfl rfl rfl).trans ?_
  refine (m_iadd (q := 695) rfl rfl rfl).trans ?_
  refine (x_ial (q := 696) rfl rfl rfl (sc_arg (k := 3) hs h0 hL hM ⟨by decide, by decide⟩)).trans ?_
  refine (x_cv (rk := 1) (r := some 32) (as := [am_i (wz (xs (i + 1))), am_i (wz (xs (i + 2))), am_i (wz (xs (i + 3)))]) (rest := []) (q := 699) rfl rfl rfl rfl rfl rfl rfl rfl rfl rfl h32).trans ?_
  rw [hX]
  refine (m_aload_n (q := 700) rfl rfl rfl rfl).trans ?_
  refine (m_aload_n (q := 701) rfl rfl rfl rfl).trans ?_
  refine (m_iload_n (q := 702) rfl rfl rfl rfl).trans ?_
  refine (m_iconst (q := 703) rfl rfl rfl).trans ?_
  refine (m_iadd (q := 704) rfl rfl rfl).trans ?_
  refine (x_ial (q := 705) rfl rfl rfl (sc_arg (k := 1) hs1 h0 hL hM ⟨by decide, by decide⟩)).trans ?_
  refine (m_aload_n (q := 706) rfl rfl rfl rfl).trans ?_
  refine (m_iload_n (q := 707) rfl rfl rfl rfl).trans ?_
  refine (m_iconst (q := 708) rfl rfl rfl).trans ?_
  refine (m_iadd (q := 709) rfl rfl rfl).trans ?_
  refine (x_ial (q := 710) rfl rfl rfl (sc_arg (k := 2) hs1 h0 hL hM ⟨by decide, by decide⟩)).trans ?_
  refine (m_aload_n (q := 711) rfl rfl rfl rfl).trans ?_
  refine (m_iload_n (q := 712) rfl rfl rfl rfl).trans ?_
  refine (m_iconst (q := 713) rfl rfl rfl).trans ?_
  refine (m_iadd (q := 714) rfl rfl rfl).trans ?_
  refine (x_ial (q := 715) rfl rfl rfl (sc_arg (k := 3) hs1 h0 hL hM ⟨by decide, by decide⟩)).trans ?_
  refine (x_cv (rk := 1) (r := some 70) (as := [am_i (wz (xs (i + 1))), am_i (wz (xs (i + 2))), am_i (wz (xs (i + 3)))]) (rest := [am_i (wz v)]) (q := 718) rfl rfl rfl rfl rfl rfl rfl rfl rfl rfl h70).trans ?_
  rw [hM2]
  exact (m_cmpeq (P := P_L_law) (qt := 1518) (qf := 721) rfl rfl hv hv rfl rfl).trans (if_pos rfl)
theorem lc_13 (hs : st.1[0]? = some (.inr (.inl (0, L, fun j => wz (xs j))))) (hs1 : s1.1[0]? = some (.inr (.inl (0, L, fun j => wz (xs j))))) (h0 : 0 ≤ i) (hL : i + 7 ≤ L) (hM : L ≤ 3584) (h32 : am_is st.1 (some 32) 12 = true) (h70 : am_is s1.1 (some 70) 13 = true) (hv : rg v) (hX : dn 200 84 [am_r (some 32), am_i (wz (xs (i + 1))), am_i (wz (xs (i + 2))), am_i (wz (xs (i + 3))), am_i (wz (xs (i + 4))), am_i (wz (xs (i + 5)))] st = some (some (am_i (wz v)), s1)) (hM2 : dn 200 151 [am_r (some 70), am_i (wz (xs (i + 1))), am_i (wz (xs (i + 2))), am_i (wz (xs (i + 3))), am_i (wz (xs (i + 4))), am_i (wz (xs (i + 5)))] s1 = some (some (am_i (wz v)), s2)) : mr 200 P_L_law 723 (LOl i) [] st = mr 200 P_L_law 1518 (LOl i) [] s2 := by
  refine (m_aload_n (q := 724) rfl rfl rfl rfl).trans ?_
  refine (m_aload_n (q := 725) rfl rfl rfl rfl).trans ?_
  refine (m_iload_n (q := 726) rfl rfl rfl rfl).trans ?_
  refine (m_iconst (q := 727) rfl rfl rfl).trans ?_
  refine (m_iadd (q := 728) rfl rfl rfl).trans ?_
  refine (x_ial (q := 729) rfl rfl rfl (sc_arg (k := 1) hs h0 hL hM ⟨by decide, by decide⟩)).trans ?_
  refine (m_aload_n (q := 730) rfl rfl rfl rfl).trans ?_
  refine (m_iload_n (q := 731) rfl rfl rfl rfl).trans ?_
  refine (m_iconst (q := 732) rfl rfl rfl).trans ?_
  refine (m_iadd (q := 733) rfl rfl rfl).trans ?_
  refine (x_ial (q := 734) rfl rfl rfl (sc_arg (k := 2) hs h0 hL hM ⟨by decide, by decide⟩)).trans ?_
  refine (m_aload_n (q := 735) rfl rfl rfl rfl).trans ?_
  refine (m_iload_n (q := 736) rfl rfl rfl rfl).trans ?_
  refine (m_iconst (q := 737) rfl rfl rfl).trans ?_
  refine (m_iadd (q := 738) rfl rfl rfl).trans ?_
  refine (x_ial (q := 739) rfl rfl rfl (sc_arg (k := 3) hs h0 hL hM ⟨by decide, by decide⟩)).trans ?_
  refine (m_aload_n (q := 740) rfl rfl rfl rfl).trans ?_
  refine (m_iload_n (q := 741) rfl rfl rfl rfl).trans ?_
  refine (m_iconst (q := 742) rfl rfl rfl).trans ?_
  refine (m_iadd (q := 743) rfl rfl rfl).trans ?_
  refine (x_ial (q := 744) rfl rfl rfl (sc_arg (k := 4) hs h0 hL hM ⟨by decide, by decide⟩)).trans ?_
  refine (m_aload_n (q := 745) rfl rfl rfl rfl).trans ?_
  refine (m_iload_n (q := 746) rfl rfl rfl rfl).trans ?_
  refine (m_iconst (q := 747) rfl rfl rfl).trans ?_
  refine (m_iadd (q := 748) rfl rfl rfl).trans ?_
  refine (x_ial (q := 749) rfl rfl rfl (sc_arg (k := 5) hs h0 hL hM ⟨by decide, by decide⟩)).trans ?_
  refine (x_cv (rk := 1) (r := some 32) (as := [am_i (wz (xs (i + 1))), am_i (wz (xs (i + 2))), am_i (wz (xs (i + 3))), am_i (wz (xs (i + 4))), am_i (wz (xs (i + 5)))]) (rest := []) (q := 752) rfl rfl rfl rfl rfl rfl rfl rfl rfl rfl h32).trans ?_
  rw [hX]
  refine (m_aload_n (q := 753) rfl rfl rfl rfl).trans ?_
  refine (m_aload_n (q := 754) rfl rfl rfl rfl).trans ?_
  refine (m_iload_n (q := 755) rfl rfl rfl rfl).trans ?_
  refine (m_iconst (q := 756) rfl rfl rfl).trans ?_
  refine (m_iadd (q := 757) rfl rfl rfl).trans ?_
  refine (x_ial (q := 758) rfl rfl rfl (sc_arg (k := 1) hs1 h0 hL hM ⟨by decide, by decide⟩)).trans ?_
  refine (m_aload_n (q := 759) rfl rfl rfl rfl).trans ?_
  refine (m_iload_n (q := 760) rfl rfl rfl rfl).trans ?_
  refine (m_iconst (q := 761) rfl rfl rfl).trans ?_
  refine (m_iadd (q := 762) rfl rfl rfl).trans ?_
  refine (x_ial (q := 763) rfl rfl rfl (sc_arg (k := 2) hs1 h0 hL hM ⟨by decide, by decide⟩)).trans ?_
  refine (m_aload_n (q := 764) rfl rfl rfl rfl).trans ?_
  refine (m_iload_n (q := 765) rfl rfl rfl rfl).trans ?_
  refine (m_iconst (q := 766) rfl rfl rfl).trans ?_
  refine (m_iadd (q := 767) rfl rfl rfl).trans ?_
  refine (x_ial (q := 768) rfl rfl rfl (sc_arg (k := 3) hs1 h0 hL hM ⟨by decide, by decide⟩)).trans ?_
  refine (m_aload_n (q := 769) rfl rfl rfl rfl).trans ?_
  refine (m_iload_n (q := 770) rfl rfl rfl rfl).trans ?_
  refine (m_iconst (q := 771) rfl rfl rfl).trans ?_
  refine (m_iadd (q := 772) rfl rfl rfl).trans ?_
  refine (x_ial (q := 773) rfl rfl rfl (sc_arg (k := 4) hs1 h0 hL hM ⟨by decide, by decide⟩)).trans ?_
  refine (m_aload_n (q := 774) rfl rfl rfl rfl).trans ?_
  refine (m_iload_n (q := 775) rfl rfl rfl rfl).trans ?_
  refine (m_iconst (q := 776) rfl rfl rfl).trans ?_
  refine (m_iadd (q := 777) rfl rfl rfl).trans ?_
  refine (x_ial (q := 778) rfl rfl rfl (sc_arg (k := 5) hs1 h0 hL hM ⟨by decide, by decide⟩)).trans ?_
  refine (x_cv (rk := 1) (r := some 70) (as := [am_i (wz (xs (i + 1))), am_i (wz (xs (i + 2))), am_i (wz (xs (i + 3))), am_i (wz (xs (i + 4))), am_i (wz (xs (i + 5)))]) (rest := [am_i (wz v)]) (q := 781) rfl rfl rfl rfl rfl rfl rfl rfl rfl rfl h70).trans ?_
  rw [hM2]
  exact (m_cmpeq (P := P_L_law) (qt := 1518) (qf := 784) rfl rfl hv hv rfl rfl).trans (if_pos rfl)
theorem lc_14 (hs : st.1[0]? = some (.inr (.inl (0, L, fun j => wz (xs j))))) (hs1 : s1.1[0]? = some (.inr (.inl (0, L, fun j => wz (xs j))))) (h0 : 0 ≤ i) (hL : i + 7 ≤ L) (hM : L ≤ 3584) (h32 : am_is st.1 (some 32) 12 = true) (h70 : am_is s1.1 (some 70) 13 = true) (hv : rg v) (hX : dn 200 85 [am_r (some 32), am_i (wz (xs (i + 1)))] st = some (some (am_i (wz v)), s1)) (hM2 : dn 200 170 [am_r (some 70), am_i (wz (xs (i + 1)))] s1 = some (some (am_i (wz v)), s2)) : mr 200 P_L_law 786 (LOl i) [] st = mr 200 P_L_law 1518 (LOl i) [] s2 := by
  refine (m_aload_n (q := 787) rfl rfl rfl rfl).trans ?_
  refine (m_aload_n (q := 788) rfl rfl rfl rfl).trans ?_
  refine (m_iload_n (q := 789) rfl rfl rfl rfl).trans ?_
  refine (m_iconst (q := 790) rfl rfl rfl).trans ?_
  refine (m_iadd (q := 791) rfl rfl rfl).trans ?_
  refine (x_ial (q := 792) rfl rfl rfl (sc_arg (k := 1) hs h0 hL hM ⟨by decide, by decide⟩)).trans ?_
  refine (x_cv (rk := 1) (r := some 32) (as := [am_i (wz (xs (i + 1)))]) (rest := []) (q := 795) rfl rfl rfl rfl rfl rfl rfl rfl rfl rfl h32).trans ?_
  rw [hX]
  refine (m_aload_n (q := 796) rfl rfl rfl rfl).trans ?_
  refine (m_aload_n (q := 797) rfl rfl rfl rfl).trans ?_
  refine (m_iload_n (q := 798) rfl rfl rfl rfl).trans ?_
  refine (m_iconst (q := 799) rfl rfl rfl).trans ?_
  refine (m_iadd (q := 800) rfl rfl rfl).trans ?_
  refine (x_ial (q := 801) rfl rfl rfl (sc_arg (k := 1) hs1 h0 hL hM ⟨by decide, by decide⟩)).trans ?_
  refine (x_cv (rk := 1) (r := some 70) (as := [am_i (wz (xs (i + 1)))]) (rest := [am_i (wz v)]) (q := 804) rfl rfl rfl rfl rfl rfl rfl rfl rfl rfl h70).trans ?_
  rw [hM2]
  exact (m_cmpeq (P := P_L_law) (qt := 1518) (qf := 807) rfl rfl hv hv rfl rfl).trans (if_pos rfl)
theorem lc_15 (hs : st.1[0]? = some (.inr (.inl (0, L, fun j => wz (xs j))))) (hs1 : s1.1[0]? = some (.inr (.inl (0, L, fun j => wz (xs j))))) (h0 : 0 ≤ i) (hL : i + 7 ≤ L) (hM : L ≤ 3584) (h32 : am_is st.1 (some 32) 12 = true) (h70 : am_is s1.1 (some 70) 13 = true) (hv : rg v) (hX : dn 200 86 [am_r (some 32)] st = some (some (am_i (wz v)), s1)) (hM2 : dn 200 171 [am_r (some 70)] s1 = some (some (am_i (wz v)), s2)) : mr 200 P_L_law 809 (LOl i) [] st = mr 200 P_L_law 1518 (LOl i) [] s2 := by
  refine (m_aload_n (q := 810) rfl rfl rfl rfl).trans ?_
  refine (x_cv (rk := 1) (r := some 32) (as := []) (rest := []) (q := 813) rfl rfl rfl rfl rfl rfl rfl rfl rfl rfl h32).trans ?_
  rw [hX]
  refine (m_aload_n (q := 814) rfl rfl rfl rfl).trans ?_
  refine (x_cv (rk := 1) (r := some 70) (as := []) (rest := [am_i (wz v)]) (q := 817) rfl rfl rfl rfl rfl rfl rfl rfl rfl rfl h70).trans ?_
  rw [hM2]
  exact (m_cmpeq (P := P_L_law) (qt := 1518) (qf := 820) rfl rfl hv hv rfl rfl).trans (if_pos rfl)
theorem lc_16 (hs : st.1[0]? = some (.inr (.inl (0, L, fun j => wz (xs j))))) (hs1 : s1.1[0]? = some (.inr (.inl (0, L, fun j => wz (xs j))))) (h0 : 0 ≤ i) (hL : i + 7 ≤ L) (hM : L ≤ 3584) (h32 : am_is st.1 (some 32) 12 = true) (h70 : am_is s1.1 (some 70) 13 = true) (hv : rg v) (hX : dn 200 87 [am_r (some 32), am_i (wz (xs (i + 1))), am_i (wz (xs (i + 2)))] st = some (some (am_i (wz v)), s1)) (hM2 : dn 200 177 [am_r (some 70), am_i (wz (xs (i + 1))), am_i (wz (xs (i + 2)))] s1 = some (some (am_i (wz v)), s2)) : mr 200 P_L_law 822 (LOl i) [] st = mr 200 P_L_law 1518 (LOl i) [] s2 := by
  refine (m_aload_n (q := 823) rfl rfl rfl rfl).trans ?_
  refine (m_aload_n (q := 824) rfl rfl rfl rfl).trans ?_
  refine (m_iload_n (q := 825) rfl rfl rfl rfl).trans ?_
  refine (m_iconst (q := 826) rfl rfl rfl).trans ?_
  refine (m_iadd (q := 827) rfl rfl rfl).trans ?_
  refine (x_ial (q := 828) rfl rfl rfl (sc_arg (k := 1) hs h0 hL hM ⟨by decide, by decide⟩)).trans ?_
  refine (m_aload_n (q := 829) rfl rfl rfl rfl).trans ?_
  refine (m_iload_n (q := 830) rfl rfl rfl rfl).trans ?_
  refine (m_iconst (q := 831) rfl rfl rfl).trans ?_
  refine (m_iadd (q := 832) rfl rfl rfl).trans ?_
  refine (x_ial (q := 833) rfl rfl rfl (sc_arg (k := 2) hs h0 hL hM ⟨by decide, by decide⟩)).trans ?_
  refine (x_cv (rk := 1) (r := some 32) (as := [am_i (wz (xs (i + 1))), am_i (wz (xs (i + 2)))]) (rest := []) (q := 836) rfl rfl rfl rfl rfl rfl rfl rfl rfl rfl h32).trans ?_
  rw [hX]
  refine (m_aload_n (q := 837) rfl rfl rfl rfl).trans ?_
  refine (m_aload_n (q := 838) rfl rfl rfl rfl).trans ?_
  refine (m_iload_n (q := 839) rfl rfl rfl rfl).trans ?_
  refine (m_iconst (q := 840) rfl rfl rfl).trans ?_
  refine (m_iadd (q := 841) rfl rfl rfl).trans ?_
  refine (x_ial (q := 842) rfl rfl rfl (sc_arg (k := 1) hs1 h0 hL hM ⟨by decide, by decide⟩)).trans ?_
  refine (m_aload_n (q := 843) rfl rfl rfl rfl).trans ?_
  refine (m_iload_n (q := 844) rfl rfl rfl rfl).trans ?_
  refine (m_iconst (q := 845) rfl rfl rfl).trans ?_
  refine (m_iadd (q := 846) rfl rfl rfl).trans ?_
  refine (x_ial (q := 847) rfl rfl rfl (sc_arg (k := 2) hs1 h0 hL hM ⟨by decide, by decide⟩)).trans ?_
  refine (x_cv (rk := 1) (r := some 70) (as := [am_i (wz (xs (i + 1))), am_i (wz (xs (i + 2)))]) (rest := [am_i (wz v)]) (q := 850) rfl rfl rfl rfl rfl rfl rfl rfl rfl rfl h70).trans ?_
  rw [hM2]
  exact (m_cmpeq (P := P_L_law) (qt := 1518) (qf := 853) rfl rfl hv hv rfl rfl).trans (if_pos rfl)
theorem lc_17 (hs : st.1[0]? = some (.inr (.inl (0, L, fun j => wz (xs j))))) (hs1 : s1.1[0]? = some (.inr (.inl (0, L, fun j => wz (xs j))))) (h0 : 0 ≤ i) (hL : i + 7 ≤ L) (hM : L ≤ 3584) (h32 : am_is st.1 (some 32) 12 = true) (h70 : am_is s1.1 (some 70) 13 = true) (hv : rg v) (hX : dn 200 88 [am_r (some 32), am_i (wz (xs (i + 1))), am_i (wz (xs (i + 2))), am_i (wz (xs (i + 3)))] st = some (some (am_i (wz v)), s1)) (hM2 : dn 200 179 [am_r (some 70), am_i (wz (xs (i + 1))), am_i (wz (xs (i + 2))), am_i (wz (xs (i + 3)))] s1 = some (some (am_i (wz v)), s2)) : mr 200 P_L_law 855 (LOl i) [] st = mr 200 P_L_law 1518 (LOl i) [] s2 := by
  refine (m_aload_n (q := 856) rfl rfl rfl rfl).trans ?_
  refine (m_aload_n (q := 857) rfl rfl rfl rfl).trans ?_
  refine (m_iload_n (q := 858) rfl rfl rfl rfl).trans ?_
  refine (m_iconst (q := 859) rfl rfl rfl).trans ?_
  refine (m_iadd (q := 860) rfl rfl rfl).trans ?_
  refine (x_ial (q := 861) rfl rfl rfl (sc_arg (k := 1) hs h0 hL hM ⟨by decide, by decide⟩)).trans ?_
  refine (m_aload_n (q := 862) rfl rfl rfl rfl).trans ?_
  refine (m_iload_n (q := 863) rfl rfl rfl rfl).trans ?_
  refine (m_iconst (q := 864) rfl rfl rfl).trans ?_
  refine (m_iadd (q := 865) rfl rfl rfl).trans ?_
  refine (x_ial (q := 866) rfl rfl rfl (sc_arg (k := 2) hs h0 hL hM ⟨by decide, by decide⟩)).trans ?_
  refine (m_aload_n (q := 867) rfl rfl rfl rfl).trans ?_
  refine (m_iload_n (q := 868) rfl rfl rfl rfl).trans ?_
  refine (m_iconst (q := 869) rfl rfl rfl).trans ?_
  refine (m_iadd (q := 870) rfl rfl rfl).trans ?_
  refine (x_ial (q := 871) rfl rfl rfl (sc_arg (k := 3) hs h0 hL hM ⟨by decide, by decide⟩)).trans ?_
  refine (x_cv (rk := 1) (r := some 32) (as := [am_i (wz (xs (i + 1))), am_i (wz (xs (i + 2))), am_i (wz (xs (i + 3)))]) (rest := []) (q := 874) rfl rfl rfl rfl rfl rfl rfl rfl rfl rfl h32).trans ?_
  rw [hX]
  refine (m_aload_n (q := 875) rfl rfl rfl rfl).trans ?_
  refine (m_aload_n (q := 876) rfl rfl rfl rfl).trans ?_
  refine (m_iload_n (q := 877) rfl rfl rfl rfl).trans ?_
  refine (m_iconst (q := 878) rfl rfl rfl).trans ?_
  refine (m_iadd (q := 879) rfl rfl rfl).trans ?_
  refine (x_ial (q := 880) rfl rfl rfl (sc_arg (k := 1) hs1 h0 hL hM ⟨by decide, by decide⟩)).trans ?_
  refine (m_aload_n (q := 881) rfl rfl rfl rfl).trans ?_
  refine (m_iload_n (q := 882) rfl rfl rfl rfl).trans ?_
  refine (m_iconst (q := 883) rfl rfl rfl).trans ?_
  refine (m_iadd (q := 884) rfl rfl rfl).trans ?_
  refine (x_ial (q := 885) rfl rfl rfl (sc_arg (k := 2) hs1 h0 hL hM ⟨by decide, by decide⟩)).trans ?_
  refine (m_aload_n (q := 886) rfl rfl rfl rfl).trans ?_
  refine (m_iload_n (q := 887) rfl rfl rfl rfl).trans ?_
  refine (m_iconst (q := 888) rfl rfl rfl).trans ?_
  refine (m_iadd (q := 889) rfl rfl rfl).trans ?_
  refine (x_ial (q := 890) rfl rfl rfl (sc_arg (k := 3) hs1 h0 hL hM ⟨by decide, by decide⟩)).trans ?_
  refine (x_cv (rk := 1) (r := some 70) (as := [am_i (wz (xs (i + 1))), am_i (wz (xs (i + 2))), am_i (wz (xs (i + 3)))]) (rest := [am_i (wz v)]) (q := 893) rfl rfl rfl rfl rfl rfl rfl rfl rfl rfl h70).trans ?_
  rw [hM2]
  exact (m_cmpeq (P := P_L_law) (qt := 1518) (qf := 896) rfl rfl hv hv rfl rfl).trans (if_pos rfl)
theorem lc_18 (hs : st.1[0]? = some (.inr (.inl (0, L, fun j => wz (xs j))))) (hs1 : s1.1[0]? = some (.inr (.inl (0, L, fun j => wz (xs j))))) (h0 : 0 ≤ i) (hL : i + 7 ≤ L) (hM : L ≤ 3584) (h32 : am_is st.1 (some 32) 12 = true) (h70 : am_is s1.1 (some 70) 13 = true) (hv : rg v) (hX : dn 200 89 [am_r (some 32), am_i (wz (xs (i + 1))), am_i (wz (xs (i + 2))), am_i (wz (xs (i + 3))), am_i (wz (xs (i + 4))), am_i (wz (xs (i + 5)))] st = some (some (am_i (wz v)), s1)) (hM2 : dn 200 180 [am_r (some 70), am_i (wz (xs (i + 1))), am_i (wz (xs (i + 2))), am_i (wz (xs (i + 3))), am_i (wz (xs (i + 4))), am_i (wz (xs (i + 5)))] s1 = some (some (am_i (wz v)), s2)) : mr 200 P_L_law 898 (LOl i) [] st = mr 200 P_L_law 1518 (LOl i) [] s2 := by
  refine (m_aload_n (q := 899) rfl rfl rfl rfl).trans ?_
  refine (m_aload_n (q := 900) rfl rfl rfl rfl).trans ?_
  refine (m_iload_n (q := 901) rfl rfl rfl rfl).trans ?_
  refine (m_iconst (q := 902) rfl rfl rfl).trans ?_
  refine (m_iadd (q := 903) rfl rfl rfl).trans ?_
  refine (x_ial (q := 904) rfl rfl rfl (sc_arg (k := 1) hs h0 hL hM ⟨by decide, by decide⟩)).trans ?_
  refine (m_aload_n (q := 905) rfl rfl rfl rfl).trans ?_
  refine (m_iload_n (q := 906) rfl rfl rfl rfl).trans ?_
  refine (m_iconst (q := 907) rfl rfl rfl).trans ?_
  refine (m_iadd (q := 908) rfl rfl rfl).trans ?_
  refine (x_ial (q := 909) rfl rfl rfl (sc_arg (k := 2) hs h0 hL hM ⟨by decide, by decide⟩)).trans ?_
  refine (m_aload_n (q := 910) rfl rfl rfl rfl).trans ?_
  refine (m_iload_n (q := 911) rfl rfl rfl rfl).trans ?_
  refine (m_iconst (q := 912) rfl rfl rfl).trans ?_
  refine (m_iadd (q := 913) rfl rfl rfl).trans ?_
  refine (x_ial (q := 914) rfl rfl rfl (sc_arg (k := 3) hs h0 hL hM ⟨by decide, by decide⟩)).trans ?_
  refine (m_aload_n (q := 915) rfl rfl rfl rfl).trans ?_
  refine (m_iload_n (q := 916) rfl rfl rfl rfl).trans ?_
  refine (m_iconst (q := 917) rfl rfl rfl).trans ?_
  refine (m_iadd (q := 918) rfl rfl rfl).trans ?_
  refine (x_ial (q := 919) rfl rfl rfl (sc_arg (k := 4) hs h0 hL hM ⟨by decide, by decide⟩)).trans ?_
  refine (m_aload_n (q := 920) rfl rfl rfl rfl).trans ?_
  refine (m_iload_n (q := 921) rfl rfl rfl rfl).trans ?_
  refine (m_iconst (q := 922) rfl rfl rfl).trans ?_
  refine (m_iadd (q := 923) rfl rfl rfl).trans ?_
  refine (x_ial (q := 924) rfl rfl rfl (sc_arg (k := 5) hs h0 hL hM ⟨by decide, by decide⟩)).trans ?_
  refine (x_cv (rk := 1) (r := some 32) (as := [am_i (wz (xs (i + 1))), am_i (wz (xs (i + 2))), am_i (wz (xs (i + 3))), am_i (wz (xs (i + 4))), am_i (wz (xs (i + 5)))]) (rest := []) (q := 927) rfl rfl rfl rfl rfl rfl rfl rfl rfl rfl h32).trans ?_
  rw [hX]
  refine (m_aload_n (q := 928) rfl rfl rfl rfl).trans ?_
  refine (m_aload_n (q := 929) rfl rfl rfl rfl).trans ?_
  refine (m_iload_n (q := 930) rfl rfl rfl rfl).trans ?_
  refine (m_iconst (q := 931) rfl rfl rfl).trans ?_
  refine (m_iadd (q := 932) rfl rfl rfl).trans ?_
  refine (x_ial (q := 933) rfl rfl rfl (sc_arg (k := 1) hs1 h0 hL hM ⟨by decide, by decide⟩)).trans ?_
  refine (m_aload_n (q := 934) rfl rfl rfl rfl).trans ?_
  refine (m_iload_n (q := 935) rfl rfl rfl rfl).trans ?_
  refine (m_iconst (q := 936) rfl rfl rfl).trans ?_
  refine (m_iadd (q := 937) rfl rfl rfl).trans ?_
  refine (x_ial (q := 938) rfl rfl rfl (sc_arg (k := 2) hs1 h0 hL hM ⟨by decide, by decide⟩)).trans ?_
  refine (m_aload_n (q := 939) rfl rfl rfl rfl).trans ?_
  refine (m_iload_n (q := 940) rfl rfl rfl rfl).trans ?_
  refine (m_iconst (q := 941) rfl rfl rfl).trans ?_
  refine (m_iadd (q := 942) rfl rfl rfl).trans ?_
  refine (x_ial (q := 943) rfl rfl rfl (sc_arg (k := 3) hs1 h0 hL hM ⟨by decide, by decide⟩)).trans ?_
  refine (m_aload_n (q := 944) rfl rfl rfl rfl).trans ?_
  refine (m_iload_n (q := 945) rfl rfl rfl rfl).trans ?_
  refine (m_iconst (q := 946) rfl rfl rfl).trans ?_
  refine (m_iadd (q := 947) rfl rfl rfl).trans ?_
  refine (x_ial (q := 948) rfl rfl rfl (sc_arg (k := 4) hs1 h0 hL hM ⟨by decide, by decide⟩)).trans ?_
  refine (m_aload_n (q := 949) rfl rfl rfl rfl).trans ?_
  refine (m_iload_n (q := 950) rfl rfl rfl rfl).trans ?_
  refine (m_iconst (q := 951) rfl rfl rfl).trans ?_
  refine (m_iadd (q := 952) rfl rfl rfl).trans ?_
  refine (x_ial (q := 953) rfl rfl rfl (sc_arg (k := 5) hs1 h0 hL hM ⟨by decide, by decide⟩)).trans ?_
  refine (x_cv (rk := 1) (r := some 70) (as := [am_i (wz (xs (i + 1))), am_i (wz (xs (i + 2))), am_i (wz (xs (i + 3))), am_i (wz (xs (i + 4))), am_i (wz (xs (i + 5)))]) (rest := [am_i (wz v)]) (q := 956) rfl rfl rfl rfl rfl rfl rfl rfl rfl rfl h70).trans ?_
  rw [hM2]
  exact (m_cmpeq (P := P_L_law) (qt := 1518) (qf := 959) rfl rfl hv hv rfl rfl).trans (if_pos rfl)
theorem lc_19 (hs : st.1[0]? = some (.inr (.inl (0, L, fun j => wz (xs j))))) (hs1 : s1.1[0]? = some (.inr (.inl (0, L, fun j => wz (xs j))))) (h0 : 0 ≤ i) (hL : i + 7 ≤ L) (hM : L ≤ 3584) (h32 : am_is st.1 (some 32) 12 = true) (h70 : am_is s1.1 (some 70) 13 = true) (hv : rg v) (hX : dn 200 90 [am_r (some 32), am_i (wz (xs (i + 1))), am_i (wz (xs (i + 2)))] st = some (some (am_i (wz v)), s1)) (hM2 : dn 200 181 [am_r (some 70), am_i (wz (xs (i + 1))), am_i (wz (xs (i + 2)))] s1 = some (some (am_i (wz v)), s2)) : mr 200 P_L_law 961 (LOl i) [] st = mr 200 P_L_law 1518 (LOl i) [] s2 := by
  refine (m_aload_n (q := 962) rfl rfl rfl rfl).trans ?_
  refine (m_aload_n (q := 963) rfl rfl rfl rfl).trans ?_
  refine (m_iload_n (q := 964) rfl rfl rfl rfl).trans ?_
  refine (m_iconst (q := 965) rfl rfl rfl).trans ?_
  refine (m_iadd (q := 966) rfl rfl rfl).trans ?_
  refine (x_ial (q := 967) rfl rfl rfl (sc_arg (k := 1) hs h0 hL hM ⟨by decide, by decide⟩)).trans ?_
  refine (m_aload_n (q := 968) rfl rfl rfl rfl).trans ?_
  refine (m_iload_n (q := 969) rfl rfl rfl rfl).trans ?_
  refine (m_iconst (q := 970) rfl rfl rfl).trans ?_
  refine (m_iadd (q := 971) rfl rfl rfl).trans ?_
  refine (x_ial (q := 972) rfl rfl rfl (sc_arg (k := 2) hs h0 hL hM ⟨by decide, by decide⟩)).trans ?_
  refine (x_cv (rk := 1) (r := some 32) (as := [am_i (wz (xs (i + 1))), am_i (wz (xs (i + 2)))]) (rest := []) (q := 975) rfl rfl rfl rfl rfl rfl rfl rfl rfl rfl h32).trans ?_
  rw [hX]
  refine (m_aload_n (q := 976) rfl rfl rfl rfl).trans ?_
  refine (m_aload_n (q := 977) rfl rfl rfl rfl).trans ?_
  refine (m_iload_n (q := 978) rfl rfl rfl rfl).trans ?_
  refine (m_iconst (q := 979) rfl rfl rfl).trans ?_
  refine (m_iadd (q := 980) rfl rfl rfl).trans ?_
  refine (x_ial (q := 981) rfl rfl rfl (sc_arg (k := 1) hs1 h0 hL hM ⟨by decide, by decide⟩)).trans ?_
  refine (m_aload_n (q := 982) rfl rfl rfl rfl).trans ?_
  refine (m_iload_n (q := 983) rfl rfl rfl rfl).trans ?_
  refine (m_iconst (q := 984) rfl rfl rfl).trans ?_
  refine (m_iadd (q := 985) rfl rfl rfl).trans ?_
  refine (x_ial (q := 986) rfl rfl rfl (sc_arg (k := 2) hs1 h0 hL hM ⟨by decide, by decide⟩)).trans ?_
  refine (x_cv (rk := 1) (r := some 70) (as := [am_i (wz (xs (i + 1))), am_i (wz (xs (i + 2)))]) (rest := [am_i (wz v)]) (q := 989) rfl rfl rfl rfl rfl rfl rfl rfl rfl rfl h70).trans ?_
  rw [hM2]
  exact (m_cmpeq (P := P_L_law) (qt := 1518) (qf := 992) rfl rfl hv hv rfl rfl).trans (if_pos rfl)
theorem lc_20 (hs : st.1[0]? = some (.inr (.inl (0, L, fun j => wz (xs j))))) (hs1 : s1.1[0]? = some (.inr (.inl (0, L, fun j => wz (xs j))))) (h0 : 0 ≤ i) (hL : i + 7 ≤ L) (hM : L ≤ 3584) (h32 : am_is st.1 (some 32) 12 = true) (h70 : am_is s1.1 (some 70) 13 = true) (hv : rg v) (hX : dn 200 91 [am_r (some 32), am_i (wz (xs (i + 1))), am_i (wz (xs (i + 2)))] st = some (some (am_i (wz v)), s1)) (hM2 : dn 200 183 [am_r (some 70), am_i (wz (xs (i + 1))), am_i (wz (xs (i + 2)))] s1 = some (some (am_i (wz v)), s2)) : mr 200 P_L_law 994 (LOl i) [] st = mr 200 P_L_law 1518 (LOl i) [] s2 := by
  refine (m_aload_n (q := 995) rfl rfl rfl rfl).trans ?_
  refine (m_aload_n (q := 996) rfl rfl rfl rfl).trans ?_
  refine (m_iload_n (q := 997) rfl rfl rfl rfl).trans ?_
  refine (m_iconst (q := 998) rfl rfl rfl).trans ?_
  refine (m_iadd (q := 999) rfl rfl rfl).trans ?_
  refine (x_ial (q := 1000) rfl rfl rfl (sc_arg (k := 1) hs h0 hL hM ⟨by decide, by decide⟩)).trans ?_
  refine (m_aload_n (q := 1001) rfl rfl rfl rfl).trans ?_
  refine (m_iload_n (q := 1002) rfl rfl rfl rfl).trans ?_
  refine (m_iconst (q := 1003) rfl rfl rfl).trans ?_
  refine (m_iadd (q := 1004) rfl rfl rfl).trans ?_
  refine (x_ial (q := 1005) rfl rfl rfl (sc_arg (k := 2) hs h0 hL hM ⟨by decide, by decide⟩)).trans ?_
  refine (x_cv (rk := 1) (r := some 32) (as := [am_i (wz (xs (i + 1))), am_i (wz (xs (i + 2)))]) (rest := []) (q := 1008) rfl rfl rfl rfl rfl rfl rfl rfl rfl rfl h32).trans ?_
  rw [hX]
  refine (m_aload_n (q := 1009) rfl rfl rfl rfl).trans ?_
  refine (m_aload_n (q := 1010) rfl rfl rfl rfl).trans ?_
  refine (m_iload_n (q := 1011) rfl rfl rfl rfl).trans ?_
  refine (m_iconst (q := 1012) rfl rfl rfl).trans ?_
  refine (m_iadd (q := 1013) rfl rfl rfl).trans ?_
  refine (x_ial (q := 1014) rfl rfl rfl (sc_arg (k := 1) hs1 h0 hL hM ⟨by decide, by decide⟩)).trans ?_
  refine (m_aload_n (q := 1015) rfl rfl rfl rfl).trans ?_
  refine (m_iload_n (q := 1016) rfl rfl rfl rfl).trans ?_
  refine (m_iconst (q := 1017) rfl rfl rfl).trans ?_
  refine (m_iadd (q := 1018) rfl rfl rfl).trans ?_
  refine (x_ial (q := 1019) rfl rfl rfl (sc_arg (k := 2) hs1 h0 hL hM ⟨by decide, by decide⟩)).trans ?_
  refine (x_cv (rk := 1) (r := some 70) (as := [am_i (wz (xs (i + 1))), am_i (wz (xs (i + 2)))]) (rest := [am_i (wz v)]) (q := 1022) rfl rfl rfl rfl rfl rfl rfl rfl rfl rfl h70).trans ?_
  rw [hM2]
  exact (m_cmpeq (P := P_L_law) (qt := 1518) (qf := 1025) rfl rfl hv hv rfl rfl).trans (if_pos rfl)
theorem lc_21 (hs : st.1[0]? = some (.inr (.inl (0, L, fun j => wz (xs j))))) (hs1 : s1.1[0]? = some (.inr (.inl (0, L, fun j => wz (xs j))))) (h0 : 0 ≤ i) (hL : i + 7 ≤ L) (hM : L ≤ 3584) (h32 : am_is st.1 (some 32) 12 = true) (h70 : am_is s1.1 (some 70) 13 = true) (hv : rg v) (hX : dn 200 92 [am_r (some 32), am_i (wz (xs (i + 1))), am_i (wz (xs (i + 2)))] st = some (some (am_i (wz v)), s1)) (hM2 : dn 200 185 [am_r (some 70), am_i (wz (xs (i + 1))), am_i (wz (xs (i + 2)))] s1 = some (some (am_i (wz v)), s2)) : mr 200 P_L_law 1027 (LOl i) [] st = mr 200 P_L_law 1518 (LOl i) [] s2 := by
  refine (m_aload_n (q := 1028) rfl rfl rfl rfl).trans ?_
  refine (m_aload_n (q := 1029) rfl rfl rfl rfl).trans ?_
  refine (m_iload_n (q := 1030) rfl rfl rfl rfl).trans ?_
  refine (m_iconst (q := 1031) rfl rfl rfl).trans ?_
  refine (m_iadd (q := 1032) rfl rfl rfl).trans ?_
  refine (x_ial (q := 1033) rfl rfl rfl (sc_arg (k := 1) hs h0 hL hM ⟨by decide, by decide⟩)).trans ?_
  refine (m_aload_n (q := 1034) rfl rfl rfl rfl).trans ?_
  refine (m_iload_n (q := 1035) rfl rfl rfl rfl).trans ?_
  refine (m_iconst (q := 1036) rfl rfl rfl).trans ?_
  refine (m_iadd (q := 1037) rfl rfl rfl).trans ?_
  refine (x_ial (q := 1038) rfl rfl rfl (sc_arg (k := 2) hs h0 hL hM ⟨by decide, by decide⟩)).trans ?_
  refine (x_cv (rk := 1) (r := some 32) (as := [am_i (wz (xs (i + 1))), am_i (wz (xs (i + 2)))]) (rest := []) (q := 1041) rfl rfl rfl rfl rfl rfl rfl rfl rfl rfl h32).trans ?_
  rw [hX]
  refine (m_aload_n (q := 1042) rfl rfl rfl rfl).trans ?_
  refine (m_aload_n (q := 1043) rfl rfl rfl rfl).trans ?_
  refine (m_iload_n (q := 1044) rfl rfl rfl rfl).trans ?_
  refine (m_iconst (q := 1045) rfl rfl rfl).trans ?_
  refine (m_iadd (q := 1046) rfl rfl rfl).trans ?_
  refine (x_ial (q := 1047) rfl rfl rfl (sc_arg (k := 1) hs1 h0 hL hM ⟨by decide, by decide⟩)).trans ?_
  refine (m_aload_n (q := 1048) rfl rfl rfl rfl).trans ?_
  refine (m_iload_n (q := 1049) rfl rfl rfl rfl).trans ?_
  refine (m_iconst (q := 1050) rfl rfl rfl).trans ?_
  refine (m_iadd (q := 1051) rfl rfl rfl).trans ?_
  refine (x_ial (q := 1052) rfl rfl rfl (sc_arg (k := 2) hs1 h0 hL hM ⟨by decide, by decide⟩)).trans ?_
  refine (x_cv (rk := 1) (r := some 70) (as := [am_i (wz (xs (i + 1))), am_i (wz (xs (i + 2)))]) (rest := [am_i (wz v)]) (q := 1055) rfl rfl rfl rfl rfl rfl rfl rfl rfl rfl h70).trans ?_
  rw [hM2]
  exact (m_cmpeq (P := P_L_law) (qt := 1518) (qf := 1058) rfl rfl hv hv rfl rfl).trans (if_pos rfl)
theorem lc_22 (hs : st.1[0]? = some (.inr (.inl (0, L, fun j => wz (xs j))))) (hs1 : s1.1[0]? = some (.inr (.inl (0, L, fun j => wz (xs j))))) (h0 : 0 ≤ i) (hL : i + 7 ≤ L) (hM : L ≤ 3584) (h32 : am_is st.1 (some 32) 12 = true) (h70 : am_is s1.1 (some 70) 13 = true) (hv : rg v) (hX : dn 200 93 [am_r (some 32), am_i (wz (xs (i + 1))), am_i (wz (xs (i + 2))), am_l (((wz (xs (i + 3))).toInt64 <<< ((wz 32).toInt64 &&& 63)) ||| ((wz (xs (i + 4))).toInt64 &&& (am_kl 4294967295)))] st = some (some (am_i (wz v)), s1)) (hM2 : dn 200 186 [am_r (some 70), am_i (wz (xs (i + 1))), am_i (wz (xs (i + 2))), am_l (((wz (xs (i + 3))).toInt64 <<< ((wz 32).toInt64 &&& 63)) ||| ((wz (xs (i + 4))).toInt64 &&& (am_kl 4294967295)))] s1 = some (some (am_i (wz v)), s2)) : mr 200 P_L_law 1060 (LOl i) [] st = mr 200 P_L_law 1518 (LOl i) [] s2 := by
  refine (m_aload_n (q := 1061) rfl rfl rfl rfl).trans ?_
  refine (m_aload_n (q := 1062) rfl rfl rfl rfl).trans ?_
  refine (m_iload_n (q := 1063) rfl rfl rfl rfl).trans ?_
  refine (m_iconst (q := 1064) rfl rfl rfl).trans ?_
  refine (m_iadd (q := 1065) rfl rfl rfl).trans ?_
  refine (x_ial (q := 1066) rfl rfl rfl (sc_arg (k := 1) hs h0 hL hM ⟨by decide, by decide⟩)).trans ?_
  refine (m_aload_n (q := 1067) rfl rfl rfl rfl).trans ?_
  refine (m_iload_n (q := 1068) rfl rfl rfl rfl).trans ?_
  refine (m_iconst (q := 1069) rfl rfl rfl).trans ?_
  refine (m_iadd (q := 1070) rfl rfl rfl).trans ?_
  refine (x_ial (q := 1071) rfl rfl rfl (sc_arg (k := 2) hs h0 hL hM ⟨by decide, by decide⟩)).trans ?_
  refine (m_aload_n (q := 1072) rfl rfl rfl rfl).trans ?_
  refine (m_iload_n (q := 1073) rfl rfl rfl rfl).trans ?_
  refine (m_iconst (q := 1074) rfl rfl rfl).trans ?_
  refine (m_iadd (q := 1075) rfl rfl rfl).trans ?_
  refine (x_ial (q := 1076) rfl rfl rfl (sc_arg (k := 3) hs h0 hL hM ⟨by decide, by decide⟩)).trans ?_
  refine (m_i2l (q := 1077) rfl rfl rfl).trans ?_
  refine (m_bipush (q := 1079) rfl rfl rfl).trans ?_
  refine (m_lshl (q := 1080) rfl rfl rfl).trans ?_
  refine (m_aload_n (q := 1081) rfl rfl rfl rfl).trans ?_
  refine (m_iload_n (q := 1082) rfl rfl rfl rfl).trans ?_
  refine (m_iconst (q := 1083) rfl rfl rfl).trans ?_
  refine (m_iadd (q := 1084) rfl rfl rfl).trans ?_
  refine (x_ial (q := 1085) rfl rfl rfl (sc_arg (k := 4) hs h0 hL hM ⟨by decide, by decide⟩)).trans ?_
  refine (m_i2l (q := 1086) rfl rfl rfl).trans ?_
  refine (m_ldc2_w (q := 1089) rfl rfl rfl).trans ?_
  refine (m_land (q := 1090) rfl rfl rfl).trans ?_
  refine (m_lor (q := 1091) rfl rfl rfl).trans ?_
  refine (x_cv (rk := 1) (r := some 32) (as := [am_i (wz (xs (i + 1))), am_i (wz (xs (i + 2))), am_l (((wz (xs (i + 3))).toInt64 <<< ((wz 32).toInt64 &&& 63)) ||| ((wz (xs (i + 4))).toInt64 &&& (am_kl 4294967295)))]) (rest := []) (q := 1094) rfl rfl rfl rfl rfl rfl rfl rfl rfl rfl h32).trans ?_
  rw [hX]
  refine (m_aload_n (q := 1095) rfl rfl rfl rfl).trans ?_
  refine (m_aload_n (q := 1096) rfl rfl rfl rfl).trans ?_
  refine (m_iload_n (q := 1097) rfl rfl rfl rfl).trans ?_
  refine (m_iconst (q := 1098) rfl rfl rfl).trans ?_
  refine (m_iadd (q := 1099) rfl rfl rfl).trans ?_
  refine (x_ial (q := 1100) rfl rfl rfl (sc_arg (k := 1) hs1 h0 hL hM ⟨by decide, by decide⟩)).trans ?_
  refine (m_aload_n (q := 1101) rfl rfl rfl rfl).trans ?_
  refine (m_iload_n (q := 1102) rfl rfl rfl rfl).trans ?_
  refine (m_iconst (q := 1103) rfl rfl rfl).trans ?_
  refine (m_iadd (q := 1104) rfl rfl rfl).trans ?_
  refine (x_ial (q := 1105) rfl rfl rfl (sc_arg (k := 2) hs1 h0 hL hM ⟨by decide, by decide⟩)).trans ?_
  refine (m_aload_n (q := 1106) rfl rfl rfl rfl).trans ?_
  refine (m_iload_n (q := 1107) rfl rfl rfl rfl).trans ?_
  refine (m_iconst (q := 1108) rfl rfl rfl).trans ?_
  refine (m_iadd (q := 1109) rfl rfl rfl).trans ?_
  refine (x_ial (q := 1110) rfl rfl rfl (sc_arg (k := 3) hs1 h0 hL hM ⟨by decide, by decide⟩)).trans ?_
  refine (m_i2l (q := 1111) rfl rfl rfl).trans ?_
  refine (m_bipush (q := 1113) rfl rfl rfl).trans ?_
  refine (m_lshl (q := 1114) rfl rfl rfl).trans ?_
  refine (m_aload_n (q := 1115) rfl rfl rfl rfl).trans ?_
  refine (m_iload_n (q := 1116) rfl rfl rfl rfl).trans ?_
  refine (m_iconst (q := 1117) rfl rfl rfl).trans ?_
  refine (m_iadd (q := 1118) rfl rfl rfl).trans ?_
  refine (x_ial (q := 1119) rfl rfl rfl (sc_arg (k := 4) hs1 h0 hL hM ⟨by decide, by decide⟩)).trans ?_
  refine (m_i2l (q := 1120) rfl rfl rfl).trans ?_
  refine (m_ldc2_w (q := 1123) rfl rfl rfl).trans ?_
  refine (m_land (q := 1124) rfl rfl rfl).trans ?_
  refine (m_lor (q := 1125) rfl rfl rfl).trans ?_
  refine (x_cv (rk := 1) (r := some 70) (as := [am_i (wz (xs (i + 1))), am_i (wz (xs (i + 2))), am_l (((wz (xs (i + 3))).toInt64 <<< ((wz 32).toInt64 &&& 63)) ||| ((wz (xs (i + 4))).toInt64 &&& (am_kl 4294967295)))]) (rest := [am_i (wz v)]) (q := 1128) rfl rfl rfl rfl rfl rfl rfl rfl rfl rfl h70).trans ?_
  rw [hM2]
  exact (m_cmpeq (P := P_L_law) (qt := 1518) (qf := 1131) rfl rfl hv hv rfl rfl).trans (if_pos rfl)
theorem lc_23 (hs : st.1[0]? = some (.inr (.inl (0, L, fun j => wz (xs j))))) (hs1 : s1.1[0]? = some (.inr (.inl (0, L, fun j => wz (xs j))))) (h0 : 0 ≤ i) (hL : i + 7 ≤ L) (hM : L ≤ 3584) (h32 : am_is st.1 (some 32) 12 = true) (h70 : am_is s1.1 (some 70) 13 = true) (hv : rg v) (hX : dn 200 94 [am_r (some 32), am_i (wz (xs (i + 1)))] st = some (some (am_i (wz v)), s1)) (hM2 : dn 200 193 [am_r (some 70), am_i (wz (xs (i + 1)))] s1 = some (some (am_i (wz v)), s2)) : mr 200 P_L_law 1133 (LOl i) [] st = mr 200 P_L_law 1518 (LOl i) [] s2 := by
  refine (m_aload_n (q := 1134) rfl rfl rfl rfl).trans ?_
  refine (m_aload_n (q := 1135) rfl rfl rfl rfl).trans ?_
  refine (m_iload_n (q := 1136) rfl rfl rfl rfl).trans ?_
  refine (m_iconst (q := 1137) rfl rfl rfl).trans ?_
  refine (m_iadd (q := 1138) rfl rfl rfl).trans ?_
  refine (x_ial (q := 1139) rfl rfl rfl (sc_arg (k := 1) hs h0 hL hM ⟨by decide, by decide⟩)).trans ?_
  refine (x_cv (rk := 1) (r := some 32) (as := [am_i (wz (xs (i + 1)))]) (rest := []) (q := 1142) rfl rfl rfl rfl rfl rfl rfl rfl rfl rfl h32).trans ?_
  rw [hX]
  refine (m_aload_n (q := 1143) rfl rfl rfl rfl).trans ?_
  refine (m_aload_n (q := 1144) rfl rfl rfl rfl).trans ?_
  refine (m_iload_n (q := 1145) rfl rfl rfl rfl).trans ?_
  refine (m_iconst (q := 1146) rfl rfl rfl).trans ?_
  refine (m_iadd (q := 1147) rfl rfl rfl).trans ?_
  refine (x_ial (q := 1148) rfl rfl rfl (sc_arg (k := 1) hs1 h0 hL hM ⟨by decide, by decide⟩)).trans ?_
  refine (x_cv (rk := 1) (r := some 70) (as := [am_i (wz (xs (i + 1)))]) (rest := [am_i (wz v)]) (q := 1151) rfl rfl rfl rfl rfl rfl rfl rfl rfl rfl h70).trans ?_
  rw [hM2]
  exact (m_cmpeq (P := P_L_law) (qt := 1518) (qf := 1154) rfl rfl hv hv rfl rfl).trans (if_pos rfl)
theorem lc_24 (hs : st.1[0]? = some (.inr (.inl (0, L, fun j => wz (xs j))))) (hs1 : s1.1[0]? = some (.inr (.inl (0, L, fun j => wz (xs j))))) (h0 : 0 ≤ i) (hL : i + 7 ≤ L) (hM : L ≤ 3584) (h32 : am_is st.1 (some 32) 12 = true) (h70 : am_is s1.1 (some 70) 13 = true) (hv : rg v) (hX : dn 200 95 [am_r (some 32), am_i (wz (xs (i + 1))), am_i (wz (xs (i + 2)))] st = some (some (am_i (wz v)), s1)) (hM2 : dn 200 194 [am_r (some 70), am_i (wz (xs (i + 1))), am_i (wz (xs (i + 2)))] s1 = some (some (am_i (wz v)), s2)) : mr 200 P_L_law 1156 (LOl i) [] st = mr 200 P_L_law 1518 (LOl i) [] s2 := by
  refine (m_aload_n (q := 1157) rfl rfl rfl rfl).trans ?_
  refine (m_aload_n (q := 1158) rfl rfl rfl rfl).trans ?_
  refine (m_iload_n (q := 1159) rfl rfl rfl rfl).trans ?_
  refine (m_iconst (q := 1160) rfl rfl rfl).trans ?_
  refine (m_iadd (q := 1161) rfl rfl rfl).trans ?_
  refine (x_ial (q := 1162) rfl rfl rfl (sc_arg (k := 1) hs h0 hL hM ⟨by decide, by decide⟩)).trans ?_
  refine (m_aload_n (q := 1163) rfl rfl rfl rfl).trans ?_
  refine (m_iload_n (q := 1164) rfl rfl rfl rfl).trans ?_
  refine (m_iconst (q := 1165) rfl rfl rfl).trans ?_
  refine (m_iadd (q := 1166) rfl rfl rfl).trans ?_
  refine (x_ial (q := 1167) rfl rfl rfl (sc_arg (k := 2) hs h0 hL hM ⟨by decide, by decide⟩)).trans ?_
  refine (x_cv (rk := 1) (r := some 32) (as := [am_i (wz (xs (i + 1))), am_i (wz (xs (i + 2)))]) (rest := []) (q := 1170) rfl rfl rfl rfl rfl rfl rfl rfl rfl rfl h32).trans ?_
  rw [hX]
  refine (m_aload_n (q := 1171) rfl rfl rfl rfl).trans ?_
  refine (m_aload_n (q := 1172) rfl rfl rfl rfl).trans ?_
  refine (m_iload_n (q := 1173) rfl rfl rfl rfl).trans ?_
  refine (m_iconst (q := 1174) rfl rfl rfl).trans ?_
  refine (m_iadd (q := 1175) rfl rfl rfl).trans ?_
  refine (x_ial (q := 1176) rfl rfl rfl (sc_arg (k := 1) hs1 h0 hL hM ⟨by decide, by decide⟩)).trans ?_
  refine (m_aload_n (q := 1177) rfl rfl rfl rfl).trans ?_
  refine (m_iload_n (q := 1178) rfl rfl rfl rfl).trans ?_
  refine (m_iconst (q := 1179) rfl rfl rfl).trans ?_
  refine (m_iadd (q := 1180) rfl rfl rfl).trans ?_
  refine (x_ial (q := 1181) rfl rfl rfl (sc_arg (k := 2) hs1 h0 hL hM ⟨by decide, by decide⟩)).trans ?_
  refine (x_cv (rk := 1) (r := some 70) (as := [am_i (wz (xs (i + 1))), am_i (wz (xs (i + 2)))]) (rest := [am_i (wz v)]) (q := 1184) rfl rfl rfl rfl rfl rfl rfl rfl rfl rfl h70).trans ?_
  rw [hM2]
  exact (m_cmpeq (P := P_L_law) (qt := 1518) (qf := 1187) rfl rfl hv hv rfl rfl).trans (if_pos rfl)
theorem lc_25 (hs : st.1[0]? = some (.inr (.inl (0, L, fun j => wz (xs j))))) (hs1 : s1.1[0]? = some (.inr (.inl (0, L, fun j => wz (xs j))))) (h0 : 0 ≤ i) (hL : i + 7 ≤ L) (hM : L ≤ 3584) (h32 : am_is st.1 (some 32) 12 = true) (h70 : am_is s1.1 (some 70) 13 = true) (hv : rg v) (hX : dn 200 96 [am_r (some 32)] st = some (some (am_i (wz v)), s1)) (hM2 : dn 200 196 [am_r (some 70)] s1 = some (some (am_i (wz v)), s2)) : mr 200 P_L_law 1189 (LOl i) [] st = mr 200 P_L_law 1518 (LOl i) [] s2 := by
  refine (m_aload_n (q := 1190) rfl rfl rfl rfl).trans ?_
  refine (x_cv (rk := 1) (r := some 32) (as := []) (rest := []) (q := 1193) rfl rfl rfl rfl rfl rfl rfl rfl rfl rfl h32).trans ?_
  rw [hX]
  refine (m_aload_n (q := 1194) rfl rfl rfl rfl).trans ?_
  refine (x_cv (rk := 1) (r := some 70) (as := []) (rest := [am_i (wz v)]) (q := 1197) rfl rfl rfl rfl rfl rfl rfl rfl rfl rfl h70).trans ?_
  rw [hM2]
  exact (m_cmpeq (P := P_L_law) (qt := 1518) (qf := 1200) rfl rfl hv hv rfl rfl).trans (if_pos rfl)
theorem lc_26 (hs : st.1[0]? = some (.inr (.inl (0, L, fun j => wz (xs j))))) (hs1 : s1.1[0]? = some (.inr (.inl (0, L, fun j => wz (xs j))))) (h0 : 0 ≤ i) (hL : i + 7 ≤ L) (hM : L ≤ 3584) (h32 : am_is st.1 (some 32) 12 = true) (h70 : am_is s1.1 (some 70) 13 = true) (hv : rg v) (hX : dn 200 97 [am_r (some 32), am_i (wz (xs (i + 1))), am_i (wz (xs (i + 2))), am_i (wz (xs (i + 3)))] st = some (some (am_i (wz v)), s1)) (hM2 : dn 200 198 [am_r (some 70), am_i (wz (xs (i + 1))), am_i (wz (xs (i + 2))), am_i (wz (xs (i + 3)))] s1 = some (some (am_i (wz v)), s2)) : mr 200 P_L_law 1202 (LOl i) [] st = mr 200 P_L_law 1518 (LOl i) [] s2 := by
  refine (m_aload_n (q := 1203) rfl rfl rfl rfl).trans ?_
  refine (m_aload_n (q := 1204) rfl rfl rfl rfl).trans ?_
  refine (m_iload_n (q := 1205) rfl rfl rfl rfl).trans ?_
  refine (m_iconst (q := 1206) rfl rfl rfl).trans ?_
  refine (m_iadd (q := 1207) rfl rfl rfl).trans ?_
  refine (x_ial (q := 1208) rfl rfl rfl (sc_arg (k := 1) hs h0 hL hM ⟨by decide, by decide⟩)).trans ?_
  refine (m_aload_n (q := 1209) rfl rfl rfl rfl).trans ?_
  refine (m_iload_n (q := 1210) rfl rfl rfl rfl).trans ?_
  refine (m_iconst (q := 1211) rfl rfl rfl).trans ?_
  refine (m_iadd (q := 1212) rfl rfl rfl).trans ?_
  refine (x_ial (q := 1213) rfl rfl rfl (sc_arg (k := 2) hs h0 hL hM ⟨by decide, by decide⟩)).trans ?_
  refine (m_aload_n (q := 1214) rfl rfl rfl rfl).trans ?_
  refine (m_iload_n (q := 1215) rfl rfl rfl rfl).trans ?_
  refine (m_iconst (q := 1216) rfl rfl rfl).trans ?_
  refine (m_iadd (q := 1217) rfl rfl rfl).trans ?_
  refine (x_ial (q := 1218) rfl rfl rfl (sc_arg (k := 3) hs h0 hL hM ⟨by decide, by decide⟩)).trans ?_
  refine (x_cv (rk := 1) (r := some 32) (as := [am_i (wz (xs (i + 1))), am_i (wz (xs (i + 2))), am_i (wz (xs (i + 3)))]) (rest := []) (q := 1221) rfl rfl rfl rfl rfl rfl rfl rfl rfl rfl h32).trans ?_
  rw [hX]
  refine (m_aload_n (q := 1222) rfl rfl rfl rfl).trans ?_
  refine (m_aload_n (q := 1223) rfl rfl rfl rfl).trans ?_
  refine (m_iload_n (q := 1224) rfl rfl rfl rfl).trans ?_
  refine (m_iconst (q := 1225) rfl rfl rfl).trans ?_
  refine (m_iadd (q := 1226) rfl rfl rfl).trans ?_
  refine (x_ial (q := 1227) rfl rfl rfl (sc_arg (k := 1) hs1 h0 hL hM ⟨by decide, by decide⟩)).trans ?_
  refine (m_aload_n (q := 1228) rfl rfl rfl rfl).trans ?_
  refine (m_iload_n (q := 1229) rfl rfl rfl rfl).trans ?_
  refine (m_iconst (q := 1230) rfl rfl rfl).trans ?_
  refine (m_iadd (q := 1231) rfl rfl rfl).trans ?_
  refine (x_ial (q := 1232) rfl rfl rfl (sc_arg (k := 2) hs1 h0 hL hM ⟨by decide, by decide⟩)).trans ?_
  refine (m_aload_n (q := 1233) rfl rfl rfl rfl).trans ?_
  refine (m_iload_n (q := 1234) rfl rfl rfl rfl).trans ?_
  refine (m_iconst (q := 1235) rfl rfl rfl).trans ?_
  refine (m_iadd (q := 1236) rfl rfl rfl).trans ?_
  refine (x_ial (q := 1237) rfl rfl rfl (sc_arg (k := 3) hs1 h0 hL hM ⟨by decide, by decide⟩)).trans ?_
  refine (x_cv (rk := 1) (r := some 70) (as := [am_i (wz (xs (i + 1))), am_i (wz (xs (i + 2))), am_i (wz (xs (i + 3)))]) (rest := [am_i (wz v)]) (q := 1240) rfl rfl rfl rfl rfl rfl rfl rfl rfl rfl h70).trans ?_
  rw [hM2]
  exact (m_cmpeq (P := P_L_law) (qt := 1518) (qf := 1243) rfl rfl hv hv rfl rfl).trans (if_pos rfl)
theorem lc_27 (hs : st.1[0]? = some (.inr (.inl (0, L, fun j => wz (xs j))))) (hs1 : s1.1[0]? = some (.inr (.inl (0, L, fun j => wz (xs j))))) (h0 : 0 ≤ i) (hL : i + 7 ≤ L) (hM : L ≤ 3584) (h32 : am_is st.1 (some 32) 12 = true) (h70 : am_is s1.1 (some 70) 13 = true) (hv : rg v) (hX : dn 200 98 [am_r (some 32)] st = some (some (am_i (wz v)), s1)) (hM2 : dn 200 199 [am_r (some 70)] s1 = some (some (am_i (wz v)), s2)) : mr 200 P_L_law 1245 (LOl i) [] st = mr 200 P_L_law 1518 (LOl i) [] s2 := by
  refine (m_aload_n (q := 1246) rfl rfl rfl rfl).trans ?_
  refine (x_cv (rk := 1) (r := some 32) (as := []) (rest := []) (q := 1249) rfl rfl rfl rfl rfl rfl rfl rfl rfl rfl h32).trans ?_
  rw [hX]
  refine (m_aload_n (q := 1250) rfl rfl rfl rfl).trans ?_
  refine (x_cv (rk := 1) (r := some 70) (as := []) (rest := [am_i (wz v)]) (q := 1253) rfl rfl rfl rfl rfl rfl rfl rfl rfl rfl h70).trans ?_
  rw [hM2]
  exact (m_cmpeq (P := P_L_law) (qt := 1518) (qf := 1256) rfl rfl hv hv rfl rfl).trans (if_pos rfl)
theorem lc_28 (hs : st.1[0]? = some (.inr (.inl (0, L, fun j => wz (xs j))))) (hs1 : s1.1[0]? = some (.inr (.inl (0, L, fun j => wz (xs j))))) (h0 : 0 ≤ i) (hL : i + 7 ≤ L) (hM : L ≤ 3584) (h32 : am_is st.1 (some 32) 12 = true) (h70 : am_is s1.1 (some 70) 13 = true) (hv : rg v) (hX : dn 200 99 [am_r (some 32), am_i (wz (xs (i + 1))), am_i (wz (xs (i + 2)))] st = some (some (am_i (wz v)), s1)) (hM2 : dn 200 200 [am_r (some 70), am_i (wz (xs (i + 1))), am_i (wz (xs (i + 2)))] s1 = some (some (am_i (wz v)), s2)) : mr 200 P_L_law 1258 (LOl i) [] st = mr 200 P_L_law 1518 (LOl i) [] s2 := by
  refine (m_aload_n (q := 1259) rfl rfl rfl rfl).trans ?_
  refine (m_aload_n (q := 1260) rfl rfl rfl rfl).trans ?_
  refine (m_iload_n (q := 1261) rfl rfl rfl rfl).trans ?_
  refine (m_iconst (q := 1262) rfl rfl rfl).trans ?_
  refine (m_iadd (q := 1263) rfl rfl rfl).trans ?_
  refine (x_ial (q := 1264) rfl rfl rfl (sc_arg (k := 1) hs h0 hL hM ⟨by decide, by decide⟩)).trans ?_
  refine (m_aload_n (q := 1265) rfl rfl rfl rfl).trans ?_
  refine (m_iload_n (q := 1266) rfl rfl rfl rfl).trans ?_
  refine (m_iconst (q := 1267) rfl rfl rfl).trans ?_
  refine (m_iadd (q := 1268) rfl rfl rfl).trans ?_
  refine (x_ial (q := 1269) rfl rfl rfl (sc_arg (k := 2) hs h0 hL hM ⟨by decide, by decide⟩)).trans ?_
  refine (x_cv (rk := 1) (r := some 32) (as := [am_i (wz (xs (i + 1))), am_i (wz (xs (i + 2)))]) (rest := []) (q := 1272) rfl rfl rfl rfl rfl rfl rfl rfl rfl rfl h32).trans ?_
  rw [hX]
  refine (m_aload_n (q := 1273) rfl rfl rfl rfl).trans ?_
  refine (m_aload_n (q := 1274) rfl rfl rfl rfl).trans ?_
  refine (m_iload_n (q := 1275) rfl rfl rfl rfl).trans ?_
  refine (m_iconst (q := 1276) rfl rfl rfl).trans ?_
  refine (m_iadd (q := 1277) rfl rfl rfl).trans ?_
  refine (x_ial (q := 1278) rfl rfl rfl (sc_arg (k := 1) hs1 h0 hL hM ⟨by decide, by decide⟩)).trans ?_
  refine (m_aload_n (q := 1279) rfl rfl rfl rfl).trans ?_
  refine (m_iload_n (q := 1280) rfl rfl rfl rfl).trans ?_
  refine (m_iconst (q := 1281) rfl rfl rfl).trans ?_
  refine (m_iadd (q := 1282) rfl rfl rfl).trans ?_
  refine (x_ial (q := 1283) rfl rfl rfl (sc_arg (k := 2) hs1 h0 hL hM ⟨by decide, by decide⟩)).trans ?_
  refine (x_cv (rk := 1) (r := some 70) (as := [am_i (wz (xs (i + 1))), am_i (wz (xs (i + 2)))]) (rest := [am_i (wz v)]) (q := 1286) rfl rfl rfl rfl rfl rfl rfl rfl rfl rfl h70).trans ?_
  rw [hM2]
  exact (m_cmpeq (P := P_L_law) (qt := 1518) (qf := 1289) rfl rfl hv hv rfl rfl).trans (if_pos rfl)
theorem lc_29 (hs : st.1[0]? = some (.inr (.inl (0, L, fun j => wz (xs j))))) (hs1 : s1.1[0]? = some (.inr (.inl (0, L, fun j => wz (xs j))))) (h0 : 0 ≤ i) (hL : i + 7 ≤ L) (hM : L ≤ 3584) (h32 : am_is st.1 (some 32) 12 = true) (h70 : am_is s1.1 (some 70) 13 = true) (hv : rg v) (hX : dn 200 100 [am_r (some 32), am_i (wz (xs (i + 1))), am_i (wz (xs (i + 2)))] st = some (some (am_i (wz v)), s1)) (hM2 : dn 200 201 [am_r (some 70), am_i (wz (xs (i + 1))), am_i (wz (xs (i + 2)))] s1 = some (some (am_i (wz v)), s2)) : mr 200 P_L_law 1291 (LOl i) [] st = mr 200 P_L_law 1518 (LOl i) [] s2 := by
  refine (m_aload_n (q := 1292) rfl rfl rfl rfl).trans ?_
  refine (m_aload_n (q := 1293) rfl rfl rfl rfl).trans ?_
  refine (m_iload_n (q := 1294) rfl rfl rfl rfl).trans ?_
  refine (m_iconst (q := 1295) rfl rfl rfl).trans ?_
  refine (m_iadd (q := 1296) rfl rfl rfl).trans ?_
  refine (x_ial (q := 1297) rfl rfl rfl (sc_arg (k := 1) hs h0 hL hM ⟨by decide, by decide⟩)).trans ?_
  refine (m_aload_n (q := 1298) rfl rfl rfl rfl).trans ?_
  refine (m_iload_n (q := 1299) rfl rfl rfl rfl).trans ?_
  refine (m_iconst (q := 1300) rfl rfl rfl).trans ?_
  refine (m_iadd (q := 1301) rfl rfl rfl).trans ?_
  refine (x_ial (q := 1302) rfl rfl rfl (sc_arg (k := 2) hs h0 hL hM ⟨by decide, by decide⟩)).trans ?_
  refine (x_cv (rk := 1) (r := some 32) (as := [am_i (wz (xs (i + 1))), am_i (wz (xs (i + 2)))]) (rest := []) (q := 1305) rfl rfl rfl rfl rfl rfl rfl rfl rfl rfl h32).trans ?_
  rw [hX]
  refine (m_aload_n (q := 1306) rfl rfl rfl rfl).trans ?_
  refine (m_aload_n (q := 1307) rfl rfl rfl rfl).trans ?_
  refine (m_iload_n (q := 1308) rfl rfl rfl rfl).trans ?_
  refine (m_iconst (q := 1309) rfl rfl rfl).trans ?_
  refine (m_iadd (q := 1310) rfl rfl rfl).trans ?_
  refine (x_ial (q := 1311) rfl rfl rfl (sc_arg (k := 1) hs1 h0 hL hM ⟨by decide, by decide⟩)).trans ?_
  refine (m_aload_n (q := 1312) rfl rfl rfl rfl).trans ?_
  refine (m_iload_n (q := 1313) rfl rfl rfl rfl).trans ?_
  refine (m_iconst (q := 1314) rfl rfl rfl).trans ?_
  refine (m_iadd (q := 1315) rfl rfl rfl).trans ?_
  refine (x_ial (q := 1316) rfl rfl rfl (sc_arg (k := 2) hs1 h0 hL hM ⟨by decide, by decide⟩)).trans ?_
  refine (x_cv (rk := 1) (r := some 70) (as := [am_i (wz (xs (i + 1))), am_i (wz (xs (i + 2)))]) (rest := [am_i (wz v)]) (q := 1319) rfl rfl rfl rfl rfl rfl rfl rfl rfl rfl h70).trans ?_
  rw [hM2]
  exact (m_cmpeq (P := P_L_law) (qt := 1518) (qf := 1322) rfl rfl hv hv rfl rfl).trans (if_pos rfl)
theorem lc_30 (hs : st.1[0]? = some (.inr (.inl (0, L, fun j => wz (xs j))))) (hs1 : s1.1[0]? = some (.inr (.inl (0, L, fun j => wz (xs j))))) (h0 : 0 ≤ i) (hL : i + 7 ≤ L) (hM : L ≤ 3584) (h32 : am_is st.1 (some 32) 12 = true) (h70 : am_is s1.1 (some 70) 13 = true) (hv : rg v) (hX : dn 200 101 [am_r (some 32), am_i (wz (xs (i + 1)))] st = some (some (am_i (wz v)), s1)) (hM2 : dn 200 204 [am_r (some 70), am_i (wz (xs (i + 1)))] s1 = some (some (am_i (wz v)), s2)) : mr 200 P_L_law 1324 (LOl i) [] st = mr 200 P_L_law 1518 (LOl i) [] s2 := by
  refine (m_aload_n (q := 1325) rfl rfl rfl rfl).trans ?_
  refine (m_aload_n (q := 1326) rfl rfl rfl rfl).trans ?_
  refine (m_iload_n (q := 1327) rfl rfl rfl rfl).trans ?_
  refine (m_iconst (q := 1328) rfl rfl rfl).trans ?_
  refine (m_iadd (q := 1329) rfl rfl rfl).trans ?_
  refine (x_ial (q := 1330) rfl rfl rfl (sc_arg (k := 1) hs h0 hL hM ⟨by decide, by decide⟩)).trans ?_
  refine (x_cv (rk := 1) (r := some 32) (as := [am_i (wz (xs (i + 1)))]) (rest := []) (q := 1333) rfl rfl rfl rfl rfl rfl rfl rfl rfl rfl h32).trans ?_
  rw [hX]
  refine (m_aload_n (q := 1334) rfl rfl rfl rfl).trans ?_
  refine (m_aload_n (q := 1335) rfl rfl rfl rfl).trans ?_
  refine (m_iload_n (q := 1336) rfl rfl rfl rfl).trans ?_
  refine (m_iconst (q := 1337) rfl rfl rfl).trans ?_
  refine (m_iadd (q := 1338) rfl rfl rfl).trans ?_
  refine (x_ial (q := 1339) rfl rfl rfl (sc_arg (k := 1) hs1 h0 hL hM ⟨by decide, by decide⟩)).trans ?_
  refine (x_cv (rk := 1) (r := some 70) (as := [am_i (wz (xs (i + 1)))]) (rest := [am_i (wz v)]) (q := 1342) rfl rfl rfl rfl rfl rfl rfl rfl rfl rfl h70).trans ?_
  rw [hM2]
  exact (m_cmpeq (P := P_L_law) (qt := 1518) (qf := 1345) rfl rfl hv hv rfl rfl).trans (if_pos rfl)
theorem lc_31z (hs : st.1[0]? = some (.inr (.inl (0, L, fun j => wz (xs j))))) (hs1 : s1.1[0]? = some (.inr (.inl (0, L, fun j => wz (xs j))))) (h0 : 0 ≤ i) (hL : i + 7 ≤ L) (hM : L ≤ 3584) (h32 : am_is st.1 (some 32) 12 = true) (h70 : am_is s1.1 (some 70) 13 = true) (hv : rg v) (hx3 : rg (xs (i + 3))) (hz : xs (i + 3) = 0) (hX : dn 200 102 [am_r (some 32), am_i (wz (xs (i + 1))), am_i (wz (xs (i + 2))), am_i (wz 0)] st = some (some (am_i (wz v)), s1)) (hM2 : dn 200 205 [am_r (some 70), am_i (wz (xs (i + 1))), am_i (wz (xs (i + 2))), am_i (wz 0)] s1 = some (some (am_i (wz v)), s2)) : mr 200 P_L_law 1347 (LOl i) [] st = mr 200 P_L_law 1518 (LOl i) [] s2 := by
  refine (m_aload_n (q := 1348) rfl rfl rfl rfl).trans ?_
  refine (m_aload_n (q := 1349) rfl rfl rfl rfl).trans ?_
  refine (m_iload_n (q := 1350) rfl rfl rfl rfl).trans ?_
  refine (m_iconst (q := 1351) rfl rfl rfl).trans ?_
  refine (m_iadd (q := 1352) rfl rfl rfl).trans ?_
  refine (x_ial (q := 1353) rfl rfl rfl (sc_arg (k := 1) hs h0 hL hM ⟨by decide, by decide⟩)).trans ?_
  refine (m_aload_n (q := 1354) rfl rfl rfl rfl).trans ?_
  refine (m_iload_n (q := 1355) rfl rfl rfl rfl).trans ?_
  refine (m_iconst (q := 1356) rfl rfl rfl).trans ?_
  refine (m_iadd (q := 1357) rfl rfl rfl).trans ?_
  refine (x_ial (q := 1358) rfl rfl rfl (sc_arg (k := 2) hs h0 hL hM ⟨by decide, by decide⟩)).trans ?_
  refine (m_aload_n (q := 1359) rfl rfl rfl rfl).trans ?_
  refine (m_iload_n (q := 1360) rfl rfl rfl rfl).trans ?_
  refine (m_iconst (q := 1361) rfl rfl rfl).trans ?_
  refine (m_iadd (q := 1362) rfl rfl rfl).trans ?_
  refine (x_ial (q := 1363) rfl rfl rfl (sc_arg (k := 3) hs h0 hL hM ⟨by decide, by decide⟩)).trans ?_
  refine ((m_ifeq (qt := 1370) (qf := 1366) rfl rfl hx3 rfl rfl).trans (if_pos hz)).trans ?_
  refine (m_iconst (q := 1371) rfl rfl rfl).trans ?_
  refine (x_cv (rk := 1) (r := some 32) (as := [am_i (wz (xs (i + 1))), am_i (wz (xs (i + 2))), am_i (wz 0)]) (rest := []) (q := 1374) rfl rfl rfl rfl rfl rfl rfl rfl rfl rfl h32).trans ?_
  rw [hX]
  refine (m_aload_n (q := 1375) rfl rfl rfl rfl).trans ?_
  refine (m_aload_n (q := 1376) rfl rfl rfl rfl).trans ?_
  refine (m_iload_n (q := 1377) rfl rfl rfl rfl).trans ?_
  refine (m_iconst (q := 1378) rfl rfl rfl).trans ?_
  refine (m_iadd (q := 1379) rfl rfl rfl).trans ?_
  refine (x_ial (q := 1380) rfl rfl rfl (sc_arg (k := 1) hs1 h0 hL hM ⟨by decide, by decide⟩)).trans ?_
  refine (m_aload_n (q := 1381) rfl rfl rfl rfl).trans ?_
  refine (m_iload_n (q := 1382) rfl rfl rfl rfl).trans ?_
  refine (m_iconst (q := 1383) rfl rfl rfl).trans ?_
  refine (m_iadd (q := 1384) rfl rfl rfl).trans ?_
  refine (x_ial (q := 1385) rfl rfl rfl (sc_arg (k := 2) hs1 h0 hL hM ⟨by decide, by decide⟩)).trans ?_
  refine (m_aload_n (q := 1386) rfl rfl rfl rfl).trans ?_
  refine (m_iload_n (q := 1387) rfl rfl rfl rfl).trans ?_
  refine (m_iconst (q := 1388) rfl rfl rfl).trans ?_
  refine (m_iadd (q := 1389) rfl rfl rfl).trans ?_
  refine (x_ial (q := 1390) rfl rfl rfl (sc_arg (k := 3) hs1 h0 hL hM ⟨by decide, by decide⟩)).trans ?_
  refine ((m_ifeq (qt := 1397) (qf := 1393) rfl rfl hx3 rfl rfl).trans (if_pos hz)).trans ?_
  refine (m_iconst (q := 1398) rfl rfl rfl).trans ?_
  refine (x_cv (rk := 1) (r := some 70) (as := [am_i (wz (xs (i + 1))), am_i (wz (xs (i + 2))), am_i (wz 0)]) (rest := [am_i (wz v)]) (q := 1401) rfl rfl rfl rfl rfl rfl rfl rfl rfl rfl h70).trans ?_
  rw [hM2]
  exact (m_cmpeq (P := P_L_law) (qt := 1518) (qf := 1404) rfl rfl hv hv rfl rfl).trans (if_pos rfl)
theorem lc_31n (hs : st.1[0]? = some (.inr (.inl (0, L, fun j => wz (xs j))))) (hs1 : s1.1[0]? = some (.inr (.inl (0, L, fun j => wz (xs j))))) (h0 : 0 ≤ i) (hL : i + 7 ≤ L) (hM : L ≤ 3584) (h32 : am_is st.1 (some 32) 12 = true) (h70 : am_is s1.1 (some 70) 13 = true) (hv : rg v) (hx3 : rg (xs (i + 3))) (hz : ¬ xs (i + 3) = 0) (hX : dn 200 102 [am_r (some 32), am_i (wz (xs (i + 1))), am_i (wz (xs (i + 2))), am_i (wz 1)] st = some (some (am_i (wz v)), s1)) (hM2 : dn 200 205 [am_r (some 70), am_i (wz (xs (i + 1))), am_i (wz (xs (i + 2))), am_i (wz 1)] s1 = some (some (am_i (wz v)), s2)) : mr 200 P_L_law 1347 (LOl i) [] st = mr 200 P_L_law 1518 (LOl i) [] s2 := by
  refine (m_aload_n (q := 1348) rfl rfl rfl rfl).trans ?_
  refine (m_aload_n (q := 1349) rfl rfl rfl rfl).trans ?_
  refine (m_iload_n (q := 1350) rfl rfl rfl rfl).trans ?_
  refine (m_iconst (q := 1351) rfl rfl rfl).trans ?_
  refine (m_iadd (q := 1352) rfl rfl rfl).trans ?_
  refine (x_ial (q := 1353) rfl rfl rfl (sc_arg (k := 1) hs h0 hL hM ⟨by decide, by decide⟩)).trans ?_
  refine (m_aload_n (q := 1354) rfl rfl rfl rfl).trans ?_
  refine (m_iload_n (q := 1355) rfl rfl rfl rfl).trans ?_
  refine (m_iconst (q := 1356) rfl rfl rfl).trans ?_
  refine (m_iadd (q := 1357) rfl rfl rfl).trans ?_
  refine (x_ial (q := 1358) rfl rfl rfl (sc_arg (k := 2) hs h0 hL hM ⟨by decide, by decide⟩)).trans ?_
  refine (m_aload_n (q := 1359) rfl rfl rfl rfl).trans ?_
  refine (m_iload_n (q := 1360) rfl rfl rfl rfl).trans ?_
  refine (m_iconst (q := 1361) rfl rfl rfl).trans ?_
  refine (m_iadd (q := 1362) rfl rfl rfl).trans ?_
  refine (x_ial (q := 1363) rfl rfl rfl (sc_arg (k := 3) hs h0 hL hM ⟨by decide, by decide⟩)).trans ?_
  refine ((m_ifeq (qt := 1370) (qf := 1366) rfl rfl hx3 rfl rfl).trans (if_neg hz)).trans ?_
  refine (m_iconst (q := 1367) rfl rfl rfl).trans ?_
  refine (m_goto (q := 1371) rfl rfl rfl).trans ?_
  refine (x_cv (rk := 1) (r := some 32) (as := [am_i (wz (xs (i + 1))), am_i (wz (xs (i + 2))), am_i (wz 1)]) (rest := []) (q := 1374) rfl rfl rfl rfl rfl rfl rfl rfl rfl rfl h32).trans ?_
  rw [hX]
  refine (m_aload_n (q := 1375) rfl rfl rfl rfl).trans ?_
  refine (m_aload_n (q := 1376) rfl rfl rfl rfl).trans ?_
  refine (m_iload_n (q := 1377) rfl rfl rfl rfl).trans ?_
  refine (m_iconst (q := 1378) rfl rfl rfl).trans ?_
  refine (m_iadd (q := 1379) rfl rfl rfl).trans ?_
  refine (x_ial (q := 1380) rfl rfl rfl (sc_arg (k := 1) hs1 h0 hL hM ⟨by decide, by decide⟩)).trans ?_
  refine (m_aload_n (q := 1381) rfl rfl rfl rfl).trans ?_
  refine (m_iload_n (q := 1382) rfl rfl rfl rfl).trans ?_
  refine (m_iconst (q := 1383) rfl rfl rfl).trans ?_
  refine (m_iadd (q := 1384) rfl rfl rfl).trans ?_
  refine (x_ial (q := 1385) rfl rfl rfl (sc_arg (k := 2) hs1 h0 hL hM ⟨by decide, by decide⟩)).trans ?_
  refine (m_aload_n (q := 1386) rfl rfl rfl rfl).trans ?_
  refine (m_iload_n (q := 1387) rfl rfl rfl rfl).trans ?_
  refine (m_iconst (q := 1388) rfl rfl rfl).trans ?_
  refine (m_iadd (q := 1389) rfl rfl rfl).trans ?_
  refine (x_ial (q := 1390) rfl rfl rfl (sc_arg (k := 3) hs1 h0 hL hM ⟨by decide, by decide⟩)).trans ?_
  refine ((m_ifeq (qt := 1397) (qf := 1393) rfl rfl hx3 rfl rfl).trans (if_neg hz)).trans ?_
  refine (m_iconst (q := 1394) rfl rfl rfl).trans ?_
  refine (m_goto (q := 1398) rfl rfl rfl).trans ?_
  refine (x_cv (rk := 1) (r := some 70) (as := [am_i (wz (xs (i + 1))), am_i (wz (xs (i + 2))), am_i (wz 1)]) (rest := [am_i (wz v)]) (q := 1401) rfl rfl rfl rfl rfl rfl rfl rfl rfl rfl h70).trans ?_
  rw [hM2]
  exact (m_cmpeq (P := P_L_law) (qt := 1518) (qf := 1404) rfl rfl hv hv rfl rfl).trans (if_pos rfl)
theorem lc_32 (hs : st.1[0]? = some (.inr (.inl (0, L, fun j => wz (xs j))))) (hs1 : s1.1[0]? = some (.inr (.inl (0, L, fun j => wz (xs j))))) (h0 : 0 ≤ i) (hL : i + 7 ≤ L) (hM : L ≤ 3584) (h32 : am_is st.1 (some 32) 12 = true) (h70 : am_is s1.1 (some 70) 13 = true) (hv : rg v) (hX : dn 200 103 [am_r (some 32), am_i (wz (xs (i + 1))), am_i (wz (xs (i + 2)))] st = some (some (am_i (wz v)), s1)) (hM2 : dn 200 207 [am_r (some 70), am_i (wz (xs (i + 1))), am_i (wz (xs (i + 2)))] s1 = some (some (am_i (wz v)), s2)) : mr 200 P_L_law 1406 (LOl i) [] st = mr 200 P_L_law 1518 (LOl i) [] s2 := by
  refine (m_aload_n (q := 1407) rfl rfl rfl rfl).trans ?_
  refine (m_aload_n (q := 1408) rfl rfl rfl rfl).trans ?_
  refine (m_iload_n (q := 1409) rfl rfl rfl rfl).trans ?_
  refine (m_iconst (q := 1410) rfl rfl rfl).trans ?_
  refine (m_iadd (q := 1411) rfl rfl rfl).trans ?_
  refine (x_ial (q := 1412) rfl rfl rfl (sc_arg (k := 1) hs h0 hL hM ⟨by decide, by decide⟩)).trans ?_
  refine (m_aload_n (q := 1413) rfl rfl rfl rfl).trans ?_
  refine (m_iload_n (q := 1414) rfl rfl rfl rfl).trans ?_
  refine (m_iconst (q := 1415) rfl rfl rfl).trans ?_
  refine (m_iadd (q := 1416) rfl rfl rfl).trans ?_
  refine (x_ial (q := 1417) rfl rfl rfl (sc_arg (k := 2) hs h0 hL hM ⟨by decide, by decide⟩)).trans ?_
  refine (x_cv (rk := 1) (r := some 32) (as := [am_i (wz (xs (i + 1))), am_i (wz (xs (i + 2)))]) (rest := []) (q := 1420) rfl rfl rfl rfl rfl rfl rfl rfl rfl rfl h32).trans ?_
  rw [hX]
  refine (m_aload_n (q := 1421) rfl rfl rfl rfl).trans ?_
  refine (m_aload_n (q := 1422) rfl rfl rfl rfl).trans ?_
  refine (m_iload_n (q := 1423) rfl rfl rfl rfl).trans ?_
  refine (m_iconst (q := 1424) rfl rfl rfl).trans ?_
  refine (m_iadd (q := 1425) rfl rfl rfl).trans ?_
  refine (x_ial (q := 1426) rfl rfl rfl (sc_arg (k := 1) hs1 h0 hL hM ⟨by decide, by decide⟩)).trans ?_
  refine (m_aload_n (q := 1427) rfl rfl rfl rfl).trans ?_
  refine (m_iload_n (q := 1428) rfl rfl rfl rfl).trans ?_
  refine (m_iconst (q := 1429) rfl rfl rfl).trans ?_
  refine (m_iadd (q := 1430) rfl rfl rfl).trans ?_
  refine (x_ial (q := 1431) rfl rfl rfl (sc_arg (k := 2) hs1 h0 hL hM ⟨by decide, by decide⟩)).trans ?_
  refine (x_cv (rk := 1) (r := some 70) (as := [am_i (wz (xs (i + 1))), am_i (wz (xs (i + 2)))]) (rest := [am_i (wz v)]) (q := 1434) rfl rfl rfl rfl rfl rfl rfl rfl rfl rfl h70).trans ?_
  rw [hM2]
  exact (m_cmpeq (P := P_L_law) (qt := 1518) (qf := 1437) rfl rfl hv hv rfl rfl).trans (if_pos rfl)
theorem lc_33 (hs : st.1[0]? = some (.inr (.inl (0, L, fun j => wz (xs j))))) (hs1 : s1.1[0]? = some (.inr (.inl (0, L, fun j => wz (xs j))))) (h0 : 0 ≤ i) (hL : i + 7 ≤ L) (hM : L ≤ 3584) (h32 : am_is st.1 (some 32) 12 = true) (h70 : am_is s1.1 (some 70) 13 = true) (hv : rg v) (hX : dn 200 104 [am_r (some 32), am_i (wz (xs (i + 1))), am_i (wz (xs (i + 2)))] st = some (some (am_i (wz v)), s1)) (hM2 : dn 200 208 [am_r (some 70), am_i (wz (xs (i + 1))), am_i (wz (xs (i + 2)))] s1 = some (some (am_i (wz v)), s2)) : mr 200 P_L_law 1439 (LOl i) [] st = mr 200 P_L_law 1518 (LOl i) [] s2 := by
  refine (m_aload_n (q := 1440) rfl rfl rfl rfl).trans ?_
  refine (m_aload_n (q := 1441) rfl rfl rfl rfl).trans ?_
  refine (m_iload_n (q := 1442) rfl rfl rfl rfl).trans ?_
  refine (m_iconst (q := 1443) rfl rfl rfl).trans ?_
  refine (m_iadd (q := 1444) rfl rfl rfl).trans ?_
  refine (x_ial (q := 1445) rfl rfl rfl (sc_arg (k := 1) hs h0 hL hM ⟨by decide, by decide⟩)).trans ?_
  refine (m_aload_n (q := 1446) rfl rfl rfl rfl).trans ?_
  refine (m_iload_n (q := 1447) rfl rfl rfl rfl).trans ?_
  refine (m_iconst (q := 1448) rfl rfl rfl).trans ?_
  refine (m_iadd (q := 1449) rfl rfl rfl).trans ?_
  refine (x_ial (q := 1450) rfl rfl rfl (sc_arg (k := 2) hs h0 hL hM ⟨by decide, by decide⟩)).trans ?_
  refine (x_cv (rk := 1) (r := some 32) (as := [am_i (wz (xs (i + 1))), am_i (wz (xs (i + 2)))]) (rest := []) (q := 1453) rfl rfl rfl rfl rfl rfl rfl rfl rfl rfl h32).trans ?_
  rw [hX]
  refine (m_aload_n (q := 1454) rfl rfl rfl rfl).trans ?_
  refine (m_aload_n (q := 1455) rfl rfl rfl rfl).trans ?_
  refine (m_iload_n (q := 1456) rfl rfl rfl rfl).trans ?_
  refine (m_iconst (q := 1457) rfl rfl rfl).trans ?_
  refine (m_iadd (q := 1458) rfl rfl rfl).trans ?_
  refine (x_ial (q := 1459) rfl rfl rfl (sc_arg (k := 1) hs1 h0 hL hM ⟨by decide, by decide⟩)).trans ?_
  refine (m_aload_n (q := 1460) rfl rfl rfl rfl).trans ?_
  refine (m_iload_n (q := 1461) rfl rfl rfl rfl).trans ?_
  refine (m_iconst (q := 1462) rfl rfl rfl).trans ?_
  refine (m_iadd (q := 1463) rfl rfl rfl).trans ?_
  refine (x_ial (q := 1464) rfl rfl rfl (sc_arg (k := 2) hs1 h0 hL hM ⟨by decide, by decide⟩)).trans ?_
  refine (x_cv (rk := 1) (r := some 70) (as := [am_i (wz (xs (i + 1))), am_i (wz (xs (i + 2)))]) (rest := [am_i (wz v)]) (q := 1467) rfl rfl rfl rfl rfl rfl rfl rfl rfl rfl h70).trans ?_
  rw [hM2]
  exact (m_cmpeq (P := P_L_law) (qt := 1518) (qf := 1470) rfl rfl hv hv rfl rfl).trans (if_pos rfl)
theorem lc_34 (hs : st.1[0]? = some (.inr (.inl (0, L, fun j => wz (xs j))))) (hs1 : s1.1[0]? = some (.inr (.inl (0, L, fun j => wz (xs j))))) (h0 : 0 ≤ i) (hL : i + 7 ≤ L) (hM : L ≤ 3584) (h32 : am_is st.1 (some 32) 12 = true) (h70 : am_is s1.1 (some 70) 13 = true) (hv : rg v) (hX : dn 200 105 [am_r (some 32), am_i (wz (xs (i + 1)))] st = some (some (am_i (wz v)), s1)) (hM2 : dn 200 210 [am_r (some 70), am_i (wz (xs (i + 1)))] s1 = some (some (am_i (wz v)), s2)) : mr 200 P_L_law 1472 (LOl i) [] st = mr 200 P_L_law 1518 (LOl i) [] s2 := by
  refine (m_aload_n (q := 1473) rfl rfl rfl rfl).trans ?_
  refine (m_aload_n (q := 1474) rfl rfl rfl rfl).trans ?_
  refine (m_iload_n (q := 1475) rfl rfl rfl rfl).trans ?_
  refine (m_iconst (q := 1476) rfl rfl rfl).trans ?_
  refine (m_iadd (q := 1477) rfl rfl rfl).trans ?_
  refine (x_ial (q := 1478) rfl rfl rfl (sc_arg (k := 1) hs h0 hL hM ⟨by decide, by decide⟩)).trans ?_
  refine (x_cv (rk := 1) (r := some 32) (as := [am_i (wz (xs (i + 1)))]) (rest := []) (q := 1481) rfl rfl rfl rfl rfl rfl rfl rfl rfl rfl h32).trans ?_
  rw [hX]
  refine (m_aload_n (q := 1482) rfl rfl rfl rfl).trans ?_
  refine (m_aload_n (q := 1483) rfl rfl rfl rfl).trans ?_
  refine (m_iload_n (q := 1484) rfl rfl rfl rfl).trans ?_
  refine (m_iconst (q := 1485) rfl rfl rfl).trans ?_
  refine (m_iadd (q := 1486) rfl rfl rfl).trans ?_
  refine (x_ial (q := 1487) rfl rfl rfl (sc_arg (k := 1) hs1 h0 hL hM ⟨by decide, by decide⟩)).trans ?_
  refine (x_cv (rk := 1) (r := some 70) (as := [am_i (wz (xs (i + 1)))]) (rest := [am_i (wz v)]) (q := 1490) rfl rfl rfl rfl rfl rfl rfl rfl rfl rfl h70).trans ?_
  rw [hM2]
  exact (m_cmpeq (P := P_L_law) (qt := 1518) (qf := 1493) rfl rfl hv hv rfl rfl).trans (if_pos rfl)
theorem lc_35 (hs : st.1[0]? = some (.inr (.inl (0, L, fun j => wz (xs j))))) (hs1 : s1.1[0]? = some (.inr (.inl (0, L, fun j => wz (xs j))))) (h0 : 0 ≤ i) (hL : i + 7 ≤ L) (hM : L ≤ 3584) (h32 : am_is st.1 (some 32) 12 = true) (h70 : am_is s1.1 (some 70) 13 = true) (hv : rg v) (hX : dn 200 106 [am_r (some 32), am_i (wz (xs (i + 1)))] st = some (some (am_i (wz v)), s1)) (hM2 : dn 200 211 [am_r (some 70), am_i (wz (xs (i + 1)))] s1 = some (some (am_i (wz v)), s2)) : mr 200 P_L_law 1495 (LOl i) [] st = mr 200 P_L_law 1518 (LOl i) [] s2 := by
  refine (m_aload_n (q := 1496) rfl rfl rfl rfl).trans ?_
  refine (m_aload_n (q := 1497) rfl rfl rfl rfl).trans ?_
  refine (m_iload_n (q := 1498) rfl rfl rfl rfl).trans ?_
  refine (m_iconst (q := 1499) rfl rfl rfl).trans ?_
  refine (m_iadd (q := 1500) rfl rfl rfl).trans ?_
  refine (x_ial (q := 1501) rfl rfl rfl (sc_arg (k := 1) hs h0 hL hM ⟨by decide, by decide⟩)).trans ?_
  refine (x_cv (rk := 1) (r := some 32) (as := [am_i (wz (xs (i + 1)))]) (rest := []) (q := 1504) rfl rfl rfl rfl rfl rfl rfl rfl rfl rfl h32).trans ?_
  rw [hX]
  refine (m_aload_n (q := 1505) rfl rfl rfl rfl).trans ?_
  refine (m_aload_n (q := 1506) rfl rfl rfl rfl).trans ?_
  refine (m_iload_n (q := 1507) rfl rfl rfl rfl).trans ?_
  refine (m_iconst (q := 1508) rfl rfl rfl).trans ?_
  refine (m_iadd (q := 1509) rfl rfl rfl).trans ?_
  refine (x_ial (q := 1510) rfl rfl rfl (sc_arg (k := 1) hs1 h0 hL hM ⟨by decide, by decide⟩)).trans ?_
  refine (x_cv (rk := 1) (r := some 70) (as := [am_i (wz (xs (i + 1)))]) (rest := [am_i (wz v)]) (q := 1513) rfl rfl rfl rfl rfl rfl rfl rfl rfl rfl h70).trans ?_
  rw [hM2]
  exact (m_cmpeq (P := P_L_law) (qt := 1518) (qf := 1516) rfl rfl hv hv rfl rfl).trans (if_pos rfl)
end Lw
