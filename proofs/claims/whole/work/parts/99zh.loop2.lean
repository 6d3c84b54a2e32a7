/-! The law's loop, to its end. -/
section Lp2
variable {L : Nat} {xs : Int → Int} {U : Int}
theorem law_loop (hM : L ≤ 3584) (hU : 0 ≤ U ∧ U ≤ 5000000) : ∀ (r k : Nat) (A : aA) (D : aD) (st : am_S), (L : Int) < 7 * (k + r) + 7 → (7 * k : Int) ≤ L → Rp 0 A D st → Inv D → Hp D → D 0 = xs → D 1 0 = L → D 950 0 ≤ 135 + 100 * k → D 951 0 ≤ U + 3000 * k → ∃ s' A' D', mr 200 P_L_law 18 (LOl (7 * k)) [] st = some (some (am_i (wz 1)), s') ∧ Rp 0 A' D' s' ∧ D' 950 0 ≤ 51335 ∧ D' 951 0 ≤ U + 1536000 := by
  intro r
  have fin : ∀ (k : Nat) (A : aA) (D : aD) (st : am_S), ¬ (7 * (k : Int) + 7 ≤ L) → (7 * k : Int) ≤ L → Rp 0 A D st → D 1 0 = L → D 950 0 ≤ 135 + 100 * k → D 951 0 ≤ U + 3000 * k → ∃ s' A' D', mr 200 P_L_law 18 (LOl (7 * k)) [] st = some (some (am_i (wz 1)), s') ∧ Rp 0 A' D' s' ∧ D' 950 0 ≤ 51335 ∧ D' 951 0 ≤ U + 1536000 := by
    intro k A D st hn hk hR hl h5 h6
    have hs := Rp_scr hR
    rw [hl, Int.toNat_natCast] at hs
    refine ⟨st, A, D, ?_, hR, by omega, by omega⟩
    refine (m_iload_n (q := 19) rfl rfl rfl rfl).trans ?_
    refine (m_aload_n (q := 20) rfl rfl rfl rfl).trans ?_
    refine (x_len (q := 21) rfl rfl rfl (len_of hs) rfl).trans ?_
    refine (m_bipush (q := 23) rfl rfl rfl).trans ?_
    refine (m_isub (q := 24) rfl rfl rfl).trans ?_
    refine ((m_cmpgt (qt := 1524) (qf := 27) rfl rfl (rgb (by omega) (by omega)) (rg_wr _) rfl rfl).trans (if_pos (by rw [wr_id (by omega) (by omega)]; omega))).trans ?_
    refine (m_iconst (q := 1525) rfl rfl rfl).trans ?_
    exact m_retb rfl rfl ⟨by decide, by decide⟩
  induction r with
  | zero =>
    intro k A D st h1 h2 hR hI hH hx hl h5 h6
    exact fin k A D st (by omega) h2 hR hl h5 h6
  | succ r ih =>
    intro k A D st h1 h2 hR hI hH hx hl h5 h6
    by_cases hn : 7 * (k : Int) + 7 ≤ L
    · have hs := Rp_scr hR
      rw [hl, Int.toNat_natCast] at hs
      have hb := law_body hR hI hH ⟨by omega, by omega⟩ hx hl (i := 7 * (k : Int)) (by omega) hn hM
      have hd : Bd D (7 * (k : Int)) (mr 200 P_L_law 1518 (LOl (7 * k)) [] st) := ⟨st, A, D, rfl, hR, hI, rfl, rfl, by omega, by omega, id⟩
      have hw := o_sw_all (Q := Bd D (7 * (k : Int))) (a := o_and (D 0 (7 * (k : Int))) 63) (g := fun o => mr 200 P_L_law o (LOl (7 * k)) [] st) _ 0 hb hd
      obtain ⟨s2, A2, D2, e1, e2, e3, e4, e5, e6, e7, e8⟩ := hw
      obtain ⟨s', A', D', i1, i2, i3, i4⟩ := ih (k + 1) A2 D2 s2 (by omega) (by omega) e2 e3 (e8 hH) (by rw [e4]; exact hx) (by rw [e5]; exact hl) (by omega) (by omega)
      refine ⟨s', A', D', ?_, i2, i3, i4⟩
      refine (m_iload_n (q := 19) rfl rfl rfl rfl).trans ?_
      refine (m_aload_n (q := 20) rfl rfl rfl rfl).trans ?_
      refine (x_len (q := 21) rfl rfl rfl (len_of hs) rfl).trans ?_
      refine (m_bipush (q := 23) rfl rfl rfl).trans ?_
      refine (m_isub (q := 24) rfl rfl rfl).trans ?_
      refine ((m_cmpgt (qt := 1524) (qf := 27) rfl rfl (rgb (by omega) (by omega)) (rg_wr _) rfl rfl).trans (if_neg (by rw [wr_id (by omega) (by omega)]; omega))).trans ?_
      refine (m_aload_n (q := 28) rfl rfl rfl rfl).trans ?_
      refine (m_iload_n (q := 29) rfl rfl rfl rfl).trans ?_
      refine (x_ial (q := 30) rfl rfl rfl ((ial_of hs (by omega) (by omega) (by omega)).trans (by rw [Int.toNat_of_nonneg (by omega)]))).trans ?_
      refine (m_bipush (q := 32) rfl rfl rfl).trans ?_
      refine (m_iand (q := 33) rfl rfl rfl).trans ?_
      refine (m_tsw (z := 0) (qs := [192, 215, 268, 291, 324, 399, 442, 495, 518, 561, 604, 647, 680, 723, 786, 809, 822, 855, 898, 961, 994, 1027, 1060, 1133, 1156, 1189, 1202, 1245, 1258, 1291, 1324, 1347, 1406, 1439, 1472, 1495]) (qd := 1518) rfl rfl (rg_of _) rfl rfl rfl rfl).trans ?_
      refine e1.trans ?_
      refine (m_iinc (a := 7 * (k : Int)) (z := 7) (w := 7 * ((k + 1 : Nat) : Int)) (q := 1521) (lo' := LOl (7 * ((k + 1 : Nat) : Int))) rfl rfl rfl rfl (by rw [wr_id (by omega) (by omega)]; omega) rfl rfl).trans ?_
      refine (m_goto (q := 18) rfl rfl rfl).trans ?_
      exact i1
    · exact fin k A D st hn h2 hR hl h5 h6
end Lp2
