/-! The law's loop. -/
section Lp_
variable {A : aA} {D : aD} {st : am_S} {L : Nat} {xs : Int → Int} {i : Int}
theorem Rp_scr {n : Nat} (h : Rp n A D st) : st.1[0]? = some (.inr (.inl (0, (D 1 0).toNat, fun i => wz (D 0 i)))) := by
  obtain ⟨_, F, h⟩ := h
  have := h.1.1
  rw [mxx_vf (c := 0) rfl, mxx_v (c := 1) rfl] at this
  exact this
theorem o_sw_all {ρ : Type} {Q : ρ → Prop} {a : Int} {g : Nat → ρ} {d : ρ} : ∀ (qs : List Nat) (z : Int), (∀ o ∈ qs, Q (g o)) → Q d → Q (o_sw a z qs g d)
  | [], _, _, h => h
  | o :: os, z, h, h2 => by
    unfold o_sw
    split
    · exact h o (List.mem_cons_self)
    · exact o_sw_all os (z + 1) (fun x hx => h x (List.mem_cons_of_mem _ hx)) h2
/-- the body's end, reached from a place of it -/
def Bd (D : aD) (i : Int) (X : Option am_R) : Prop := ∃ s2 A2 D2, X = mr 200 P_L_law 1518 (LOl i) [] s2 ∧ Rp 0 A2 D2 s2 ∧ Inv D2 ∧ Fr D D2
theorem law_body (hR : Rp 0 A D st) (hI : Inv D) (hH : Hp D) (hh : D 950 0 ≤ 100000000 ∧ D 951 0 ≤ 100000000) (hx : D 0 = xs) (hl : D 1 0 = L) (h0 : 0 ≤ i) (hL : i + 7 ≤ L) (hM : L ≤ 3584) : ∀ o ∈ [192, 215, 268, 291, 324, 399, 442, 495, 518, 561, 604, 647, 680, 723, 786, 809, 822, 855, 898, 961, 994, 1027, 1060, 1133, 1156, 1189, 1202, 1245, 1258, 1291, 1324, 1347, 1406, 1439, 1472, 1495], Bd D i (mr 200 P_L_law o (LOl i) [] st) := by
  have hs : st.1[0]? = some (.inr (.inl (0, L, fun j => wz (xs j)))) := by
    have := Rp_scr hR
    rw [hx, hl, Int.toNat_natCast] at this
    exact this
  have rx : ∀ j, rg (xs j) := fun j => by rw [← hx]; exact Rp_rg hR 0 j
  have h32 : am_is st.1 (some 32) 12 = true := is_st hR rfl rfl
  have w0 : Bd D i (mr 200 P_L_law 192 (LOl i) [] st) := by
    have w := Wr_q (c_day hI (xs (i + 1)) (rx _)) hR
    obtain ⟨v, s1, s2, A2, D2, x1, x2, x3, x4, x5, x6⟩ := w
    rw [← wz_wr v] at x1 x3
    exact ⟨s2, A2, D2, lc_0 hs (dn_uq x1 0 _ (by decide) hs) h0 hL hM h32 x2 (rg_wr v) x1 x3, x4, x5, x6⟩
  have w1 : Bd D i (mr 200 P_L_law 215 (LOl i) [] st) := by
    have w := Wr_q (c_servant hR hI hH hh (xs (i + 1)) (xs (i + 2)) (xs (i + 3)) (xs (i + 4)) (rx _) (rx _) (rx _) (rx _)) hR
    obtain ⟨v, s1, s2, A2, D2, x1, x2, x3, x4, x5, x6⟩ := w
    rw [← wz_wr v] at x1 x3
    exact ⟨s2, A2, D2, lc_1 hs (dn_uq x1 0 _ (by decide) hs) h0 hL hM h32 x2 (rg_wr v) x1 x3, x4, x5, x6⟩
  have w2 : Bd D i (mr 200 P_L_law 268 (LOl i) [] st) := by
    have w := Wr_q (c_house hI (xs (i + 1)) (rx _)) hR
    obtain ⟨v, s1, s2, A2, D2, x1, x2, x3, x4, x5, x6⟩ := w
    rw [← wz_wr v] at x1 x3
    exact ⟨s2, A2, D2, lc_2 hs (dn_uq x1 0 _ (by decide) hs) h0 hL hM h32 x2 (rg_wr v) x1 x3, x4, x5, x6⟩
  have w3 : Bd D i (mr 200 P_L_law 291 (LOl i) [] st) := by
    have w := Wr_q (c_lag hI (xs (i + 1)) (xs (i + 2)) (rx _) (rx _)) hR
    obtain ⟨v, s1, s2, A2, D2, x1, x2, x3, x4, x5, x6⟩ := w
    rw [← wz_wr v] at x1 x3
    exact ⟨s2, A2, D2, lc_3 hs (dn_uq x1 0 _ (by decide) hs) h0 hL hM h32 x2 (rg_wr v) x1 x3, x4, x5, x6⟩
  have w4 : Bd D i (mr 200 P_L_law 324 (LOl i) [] st) := by
    have w := Wr_q (c_place hR hI hH hh (xs (i + 1)) (xs (i + 2)) (xs (i + 3)) (xs (i + 4)) (xs (i + 5)) (xs (i + 6)) (rx _) (rx _) (rx _) (rx _) (rx _) (rx _)) hR
    obtain ⟨v, s1, s2, A2, D2, x1, x2, x3, x4, x5, x6⟩ := w
    rw [← wz_wr v] at x1 x3
    exact ⟨s2, A2, D2, lc_4 hs (dn_uq x1 0 _ (by decide) hs) h0 hL hM h32 x2 (rg_wr v) x1 x3, x4, x5, x6⟩
  have w5 : Bd D i (mr 200 P_L_law 399 (LOl i) [] st) := by
    have w := Wr_q (c_placing hR hI hH hh (xs (i + 1)) (xs (i + 2)) (xs (i + 3)) (rx _) (rx _) (rx _)) hR
    obtain ⟨v, s1, s2, A2, D2, x1, x2, x3, x4, x5, x6⟩ := w
    rw [← wz_wr v] at x1 x3
    exact ⟨s2, A2, D2, lc_5 hs (dn_uq x1 0 _ (by decide) hs) h0 hL hM h32 x2 (rg_wr v) x1 x3, x4, x5, x6⟩
  have w6 : Bd D i (mr 200 P_L_law 442 (LOl i) [] st) := by
    have w := Wr_q (c_leave hI (xs (i + 1)) (xs (i + 2)) (xs (i + 3)) (xs (i + 4)) (rx _) (rx _) (rx _) (rx _)) hR
    obtain ⟨v, s1, s2, A2, D2, x1, x2, x3, x4, x5, x6⟩ := w
    rw [← wz_wr v] at x1 x3
    exact ⟨s2, A2, D2, lc_6 hs (dn_uq x1 0 _ (by decide) hs) h0 hL hM h32 x2 (rg_wr v) x1 x3, x4, x5, x6⟩
  have w7 : Bd D i (mr 200 P_L_law 495 (LOl i) [] st) := by
    have w := Wr_q (c_undo hI (xs (i + 1)) (rx _)) hR
    obtain ⟨v, s1, s2, A2, D2, x1, x2, x3, x4, x5, x6⟩ := w
    rw [← wz_wr v] at x1 x3
    exact ⟨s2, A2, D2, lc_7 hs (dn_uq x1 0 _ (by decide) hs) h0 hL hM h32 x2 (rg_wr v) x1 x3, x4, x5, x6⟩
  have w8 : Bd D i (mr 200 P_L_law 518 (LOl i) [] st) := by
    have w := Wr_q (Rd.wr (c_in hI (xs (i + 1)) (xs (i + 2)) (xs (i + 3)) (rx _) (rx _) (rx _)) hI) hR
    obtain ⟨v, s1, s2, A2, D2, x1, x2, x3, x4, x5, x6⟩ := w
    rw [← wz_wr v] at x1 x3
    exact ⟨s2, A2, D2, lc_8 hs (dn_uq x1 0 _ (by decide) hs) h0 hL hM h32 x2 (rg_wr v) x1 x3, x4, x5, x6⟩
  have w9 : Bd D i (mr 200 P_L_law 561 (LOl i) [] st) := by
    have w := Wr_q (Rd.wr (c_holder hI (xs (i + 1)) (xs (i + 2)) (xs (i + 3)) (rx _) (rx _) (rx _)) hI) hR
    obtain ⟨v, s1, s2, A2, D2, x1, x2, x3, x4, x5, x6⟩ := w
    rw [← wz_wr v] at x1 x3
    exact ⟨s2, A2, D2, lc_9 hs (dn_uq x1 0 _ (by decide) hs) h0 hL hM h32 x2 (rg_wr v) x1 x3, x4, x5, x6⟩
  have w10 : Bd D i (mr 200 P_L_law 604 (LOl i) [] st) := by
    have w := Wr_q (Rd.wr (c_twice hI (xs (i + 1)) (xs (i + 2)) (xs (i + 3)) (rx _) (rx _) (rx _)) hI) hR
    obtain ⟨v, s1, s2, A2, D2, x1, x2, x3, x4, x5, x6⟩ := w
    rw [← wz_wr v] at x1 x3
    exact ⟨s2, A2, D2, lc_10 hs (dn_uq x1 0 _ (by decide) hs) h0 hL hM h32 x2 (rg_wr v) x1 x3, x4, x5, x6⟩
  have w11 : Bd D i (mr 200 P_L_law 647 (LOl i) [] st) := by
    have w := Wr_q (Rd.wr (c_placed hI (xs (i + 1)) (xs (i + 2)) (rx _) (rx _)) hI) hR
    obtain ⟨v, s1, s2, A2, D2, x1, x2, x3, x4, x5, x6⟩ := w
    rw [← wz_wr v] at x1 x3
    exact ⟨s2, A2, D2, lc_11 hs (dn_uq x1 0 _ (by decide) hs) h0 hL hM h32 x2 (rg_wr v) x1 x3, x4, x5, x6⟩
  have w12 : Bd D i (mr 200 P_L_law 680 (LOl i) [] st) := by
    have w := Wr_q (Rd.wr (c_wages hI (xs (i + 1)) (xs (i + 2)) (xs (i + 3)) (rx _) (rx _) (rx _)) hI) hR
    obtain ⟨v, s1, s2, A2, D2, x1, x2, x3, x4, x5, x6⟩ := w
    rw [← wz_wr v] at x1 x3
    exact ⟨s2, A2, D2, lc_12 hs (dn_uq x1 0 _ (by decide) hs) h0 hL hM h32 x2 (rg_wr v) x1 x3, x4, x5, x6⟩
  have w13 : Bd D i (mr 200 P_L_law 723 (LOl i) [] st) := by
    have w := Wr_q (c_feed hI (xs (i + 1)) (xs (i + 2)) (xs (i + 3)) (xs (i + 4)) (xs (i + 5)) (rx _) (rx _) (rx _) (rx _) (rx _)) hR
    obtain ⟨v, s1, s2, A2, D2, x1, x2, x3, x4, x5, x6⟩ := w
    rw [← wz_wr v] at x1 x3
    exact ⟨s2, A2, D2, lc_13 hs (dn_uq x1 0 _ (by decide) hs) h0 hL hM h32 x2 (rg_wr v) x1 x3, x4, x5, x6⟩
  have w14 : Bd D i (mr 200 P_L_law 786 (LOl i) [] st) := by
    have w := c_rules hR hI hH hh (xs (i + 1)) (rx _)
    obtain ⟨v, s1, s2, A2, D2, x1, x2, x3, x4, x5, x6⟩ := w
    rw [← wz_wr v] at x1 x3
    exact ⟨s2, A2, D2, lc_14 hs (dn_uq x1 0 _ (by decide) hs) h0 hL hM h32 x2 (rg_wr v) x1 x3, x4, x5, x6⟩
  have w15 : Bd D i (mr 200 P_L_law 809 (LOl i) [] st) := by
    have w := Wr_q (Rd.wr (c_fault hI) hI) hR
    obtain ⟨v, s1, s2, A2, D2, x1, x2, x3, x4, x5, x6⟩ := w
    rw [← wz_wr v] at x1 x3
    exact ⟨s2, A2, D2, lc_15 hs (dn_uq x1 0 _ (by decide) hs) h0 hL hM h32 x2 (rg_wr v) x1 x3, x4, x5, x6⟩
  have w16 : Bd D i (mr 200 P_L_law 822 (LOl i) [] st) := by
    have w := Wr_q (Rd.wr (c_law hI (xs (i + 1)) (xs (i + 2)) (rx _) (rx _)) hI) hR
    obtain ⟨v, s1, s2, A2, D2, x1, x2, x3, x4, x5, x6⟩ := w
    rw [← wz_wr v] at x1 x3
    exact ⟨s2, A2, D2, lc_16 hs (dn_uq x1 0 _ (by decide) hs) h0 hL hM h32 x2 (rg_wr v) x1 x3, x4, x5, x6⟩
  have w17 : Bd D i (mr 200 P_L_law 855 (LOl i) [] st) := by
    have w := Wr_q (Rd.wr (c_fit hI (xs (i + 1)) (xs (i + 2)) (xs (i + 3)) (rx _) (rx _) (rx _)) hI) hR
    obtain ⟨v, s1, s2, A2, D2, x1, x2, x3, x4, x5, x6⟩ := w
    rw [← wz_wr v] at x1 x3
    exact ⟨s2, A2, D2, lc_17 hs (dn_uq x1 0 _ (by decide) hs) h0 hL hM h32 x2 (rg_wr v) x1 x3, x4, x5, x6⟩
  have w18 : Bd D i (mr 200 P_L_law 898 (LOl i) [] st) := by
    have w := Wr_q (c_write hR hI hH hh (xs (i + 1)) (xs (i + 2)) (xs (i + 3)) (xs (i + 4)) (xs (i + 5)) (rx _) (rx _) (rx _) (rx _) (rx _)) hR
    obtain ⟨v, s1, s2, A2, D2, x1, x2, x3, x4, x5, x6⟩ := w
    rw [← wz_wr v] at x1 x3
    exact ⟨s2, A2, D2, lc_18 hs (dn_uq x1 0 _ (by decide) hs) h0 hL hM h32 x2 (rg_wr v) x1 x3, x4, x5, x6⟩
  have w19 : Bd D i (mr 200 P_L_law 961 (LOl i) [] st) := by
    have w := Wr_q (Rd.wr (c_written hI (xs (i + 1)) (xs (i + 2)) (rx _) (rx _)) hI) hR
    obtain ⟨v, s1, s2, A2, D2, x1, x2, x3, x4, x5, x6⟩ := w
    rw [← wz_wr v] at x1 x3
    exact ⟨s2, A2, D2, lc_19 hs (dn_uq x1 0 _ (by decide) hs) h0 hL hM h32 x2 (rg_wr v) x1 x3, x4, x5, x6⟩
  have w20 : Bd D i (mr 200 P_L_law 994 (LOl i) [] st) := by
    have w := Wr_q (Rd.wr (c_isFalse hI (xs (i + 1)) (xs (i + 2)) (rx _) (rx _)) hI) hR
    obtain ⟨v, s1, s2, A2, D2, x1, x2, x3, x4, x5, x6⟩ := w
    rw [← wz_wr v] at x1 x3
    exact ⟨s2, A2, D2, lc_20 hs (dn_uq x1 0 _ (by decide) hs) h0 hL hM h32 x2 (rg_wr v) x1 x3, x4, x5, x6⟩
  have w21 : Bd D i (mr 200 P_L_law 1027 (LOl i) [] st) := by
    have w := Wr_q (Rd.wr (c_habit hI (xs (i + 1)) (xs (i + 2)) (rx _) (rx _)) hI) hR
    obtain ⟨v, s1, s2, A2, D2, x1, x2, x3, x4, x5, x6⟩ := w
    rw [← wz_wr v] at x1 x3
    exact ⟨s2, A2, D2, lc_21 hs (dn_uq x1 0 _ (by decide) hs) h0 hL hM h32 x2 (rg_wr v) x1 x3, x4, x5, x6⟩
  have w22 : Bd D i (mr 200 P_L_law 1060 (LOl i) [] st) := by
    have w := Wr_q (c_wish hI hh (xs (i + 1)) (xs (i + 2)) ((((wz (xs (i + 3))).toInt64 <<< ((wz 32).toInt64 &&& 63)) ||| ((wz (xs (i + 4))).toInt64 &&& (am_kl 4294967295)))) (rx _) (rx _)) hR
    obtain ⟨v, s1, s2, A2, D2, x1, x2, x3, x4, x5, x6⟩ := w
    rw [← wz_wr v] at x1 x3
    exact ⟨s2, A2, D2, lc_22 hs (dn_uq x1 0 _ (by decide) hs) h0 hL hM h32 x2 (rg_wr v) x1 x3, x4, x5, x6⟩
  have w23 : Bd D i (mr 200 P_L_law 1133 (LOl i) [] st) := by
    have w := Wr_q (Rd.wr (c_dealt hR hI (xs (i + 1)) (rx _)) hI) hR
    obtain ⟨v, s1, s2, A2, D2, x1, x2, x3, x4, x5, x6⟩ := w
    rw [← wz_wr v] at x1 x3
    exact ⟨s2, A2, D2, lc_23 hs (dn_uq x1 0 _ (by decide) hs) h0 hL hM h32 x2 (rg_wr v) x1 x3, x4, x5, x6⟩
  have w24 : Bd D i (mr 200 P_L_law 1156 (LOl i) [] st) := by
    have w := Wr_q (c_tell hI (xs (i + 1)) (xs (i + 2)) (rx _) (rx _)) hR
    obtain ⟨v, s1, s2, A2, D2, x1, x2, x3, x4, x5, x6⟩ := w
    rw [← wz_wr v] at x1 x3
    exact ⟨s2, A2, D2, lc_24 hs (dn_uq x1 0 _ (by decide) hs) h0 hL hM h32 x2 (rg_wr v) x1 x3, x4, x5, x6⟩
  have w25 : Bd D i (mr 200 P_L_law 1189 (LOl i) [] st) := by
    have w := Wr_q (Rd.wr (c_judge hR hI) hI) hR
    obtain ⟨v, s1, s2, A2, D2, x1, x2, x3, x4, x5, x6⟩ := w
    rw [← wz_wr v] at x1 x3
    exact ⟨s2, A2, D2, lc_25 hs (dn_uq x1 0 _ (by decide) hs) h0 hL hM h32 x2 (rg_wr v) x1 x3, x4, x5, x6⟩
  have w26 : Bd D i (mr 200 P_L_law 1202 (LOl i) [] st) := by
    have w := Wr_q (Rd.wr (c_steps hI (xs (i + 1)) (xs (i + 2)) (xs (i + 3)) (rx _) (rx _) (rx _)) hI) hR
    obtain ⟨v, s1, s2, A2, D2, x1, x2, x3, x4, x5, x6⟩ := w
    rw [← wz_wr v] at x1 x3
    exact ⟨s2, A2, D2, lc_26 hs (dn_uq x1 0 _ (by decide) hs) h0 hL hM h32 x2 (rg_wr v) x1 x3, x4, x5, x6⟩
  have w27 : Bd D i (mr 200 P_L_law 1245 (LOl i) [] st) := by
    have w := Wr_q (c_clear hI) hR
    obtain ⟨v, s1, s2, A2, D2, x1, x2, x3, x4, x5, x6⟩ := w
    rw [← wz_wr v] at x1 x3
    exact ⟨s2, A2, D2, lc_27 hs (dn_uq x1 0 _ (by decide) hs) h0 hL hM h32 x2 (rg_wr v) x1 x3, x4, x5, x6⟩
  have w28 : Bd D i (mr 200 P_L_law 1258 (LOl i) [] st) := by
    have w := Wr_q (c_empty hI (xs (i + 1)) (xs (i + 2)) (rx _) (rx _)) hR
    obtain ⟨v, s1, s2, A2, D2, x1, x2, x3, x4, x5, x6⟩ := w
    rw [← wz_wr v] at x1 x3
    exact ⟨s2, A2, D2, lc_28 hs (dn_uq x1 0 _ (by decide) hs) h0 hL hM h32 x2 (rg_wr v) x1 x3, x4, x5, x6⟩
  have w29 : Bd D i (mr 200 P_L_law 1291 (LOl i) [] st) := by
    have w := Wr_q (c_free hI (xs (i + 1)) (xs (i + 2)) (rx _) (rx _)) hR
    obtain ⟨v, s1, s2, A2, D2, x1, x2, x3, x4, x5, x6⟩ := w
    rw [← wz_wr v] at x1 x3
    exact ⟨s2, A2, D2, lc_29 hs (dn_uq x1 0 _ (by decide) hs) h0 hL hM h32 x2 (rg_wr v) x1 x3, x4, x5, x6⟩
  have w30 : Bd D i (mr 200 P_L_law 1324 (LOl i) [] st) := by
    have w := Wr_q (c_chain hR hI (xs (i + 1)) (rx _)) hR
    obtain ⟨v, s1, s2, A2, D2, x1, x2, x3, x4, x5, x6⟩ := w
    rw [← wz_wr v] at x1 x3
    exact ⟨s2, A2, D2, lc_30 hs (dn_uq x1 0 _ (by decide) hs) h0 hL hM h32 x2 (rg_wr v) x1 x3, x4, x5, x6⟩
  have w31 : Bd D i (mr 200 P_L_law 1347 (LOl i) [] st) := by
    by_cases hz : xs (i + 3) = 0
    · have w := Wr_q (c_ask hR hI hH hh (xs (i + 1)) (xs (i + 2)) 0 (rx _) (rx _) ⟨by decide, by decide⟩ ⟨by decide, by decide⟩) hR
      obtain ⟨v, s1, s2, A2, D2, x1, x2, x3, x4, x5, x6⟩ := w
      rw [← wz_wr v] at x1 x3
      exact ⟨s2, A2, D2, lc_31z hs (dn_uq x1 0 _ (by decide) hs) h0 hL hM h32 x2 (rg_wr v) (rx _) hz x1 x3, x4, x5, x6⟩
    · have w := Wr_q (c_ask hR hI hH hh (xs (i + 1)) (xs (i + 2)) 1 (rx _) (rx _) ⟨by decide, by decide⟩ ⟨by decide, by decide⟩) hR
      obtain ⟨v, s1, s2, A2, D2, x1, x2, x3, x4, x5, x6⟩ := w
      rw [← wz_wr v] at x1 x3
      exact ⟨s2, A2, D2, lc_31n hs (dn_uq x1 0 _ (by decide) hs) h0 hL hM h32 x2 (rg_wr v) (rx _) hz x1 x3, x4, x5, x6⟩
  have w32 : Bd D i (mr 200 P_L_law 1406 (LOl i) [] st) := by
    have w := Wr_q (Rd.wr (c_like hI (xs (i + 1)) (xs (i + 2)) (rx _) (rx _)) hI) hR
    obtain ⟨v, s1, s2, A2, D2, x1, x2, x3, x4, x5, x6⟩ := w
    rw [← wz_wr v] at x1 x3
    exact ⟨s2, A2, D2, lc_32 hs (dn_uq x1 0 _ (by decide) hs) h0 hL hM h32 x2 (rg_wr v) x1 x3, x4, x5, x6⟩
  have w33 : Bd D i (mr 200 P_L_law 1439 (LOl i) [] st) := by
    have w := Wr_q (c_box hI (xs (i + 1)) (xs (i + 2)) (rx _) (rx _)) hR
    obtain ⟨v, s1, s2, A2, D2, x1, x2, x3, x4, x5, x6⟩ := w
    rw [← wz_wr v] at x1 x3
    exact ⟨s2, A2, D2, lc_33 hs (dn_uq x1 0 _ (by decide) hs) h0 hL hM h32 x2 (rg_wr v) x1 x3, x4, x5, x6⟩
  have w34 : Bd D i (mr 200 P_L_law 1472 (LOl i) [] st) := by
    have w := Wr_q (Rd.wr (c_leftMore hI (xs (i + 1)) (rx _)) hI) hR
    obtain ⟨v, s1, s2, A2, D2, x1, x2, x3, x4, x5, x6⟩ := w
    rw [← wz_wr v] at x1 x3
    exact ⟨s2, A2, D2, lc_34 hs (dn_uq x1 0 _ (by decide) hs) h0 hL hM h32 x2 (rg_wr v) x1 x3, x4, x5, x6⟩
  have w35 : Bd D i (mr 200 P_L_law 1495 (LOl i) [] st) := by
    have w := Wr_q (Rd.wr (c_count hI (xs (i + 1)) (rx _)) hI) hR
    obtain ⟨v, s1, s2, A2, D2, x1, x2, x3, x4, x5, x6⟩ := w
    rw [← wz_wr v] at x1 x3
    exact ⟨s2, A2, D2, lc_35 hs (dn_uq x1 0 _ (by decide) hs) h0 hL hM h32 x2 (rg_wr v) x1 x3, x4, x5, x6⟩
  exact List.forall_mem_cons.mpr ⟨w0, List.forall_mem_cons.mpr ⟨w1, List.forall_mem_cons.mpr ⟨w2, List.forall_mem_cons.mpr ⟨w3, List.forall_mem_cons.mpr ⟨w4, List.forall_mem_cons.mpr ⟨w5, List.forall_mem_cons.mpr ⟨w6, List.forall_mem_cons.mpr ⟨w7, List.forall_mem_cons.mpr ⟨w8, List.forall_mem_cons.mpr ⟨w9, List.forall_mem_cons.mpr ⟨w10, List.forall_mem_cons.mpr ⟨w11, List.forall_mem_cons.mpr ⟨w12, List.forall_mem_cons.mpr ⟨w13, List.forall_mem_cons.mpr ⟨w14, List.forall_mem_cons.mpr ⟨w15, List.forall_mem_cons.mpr ⟨w16, List.forall_mem_cons.mpr ⟨w17, List.forall_mem_cons.mpr ⟨w18, List.forall_mem_cons.mpr ⟨w19, List.forall_mem_cons.mpr ⟨w20, List.forall_mem_cons.mpr ⟨w21, List.forall_mem_cons.mpr ⟨w22, List.forall_mem_cons.mpr ⟨w23, List.forall_mem_cons.mpr ⟨w24, List.forall_mem_cons.mpr ⟨w25, List.forall_mem_cons.mpr ⟨w26, List.forall_mem_cons.mpr ⟨w27, List.forall_mem_cons.mpr ⟨w28, List.forall_mem_cons.mpr ⟨w29, List.forall_mem_cons.mpr ⟨w30, List.forall_mem_cons.mpr ⟨w31, List.forall_mem_cons.mpr ⟨w32, List.forall_mem_cons.mpr ⟨w33, List.forall_mem_cons.mpr ⟨w34, List.forall_mem_cons.mpr ⟨w35, fun _ h => absurd h (List.not_mem_nil)⟩⟩⟩⟩⟩⟩⟩⟩⟩⟩⟩⟩⟩⟩⟩⟩⟩⟩⟩⟩⟩⟩⟩⟩⟩⟩⟩⟩⟩⟩⟩⟩⟩⟩⟩⟩
end Lp_
