/-! The chain: both sides. -/
section Cc
variable {n : Nat} {A A' : aA} {D D' E F : aD} {d : Nat} {s : am_S} {σ : Int → Int}
theorem rwo_n {P S : Int} {c : Int → Int → Int} {num num' : Int → Int} {z : Int} (hS : 0 ≤ S) (h : ∀ j, 0 ≤ j → j < S → num j = num' j) (m : Nat) : ∀ u i, rwo P S c num z m u i = rwo P S c num' z m u i := by
  induction m with
  | zero => intro u i; rfl
  | succ m ih =>
    intro u i
    unfold rwo
    rw [ih]
    rcases pk_s (P := P) (c := c) hS m u with ⟨q1, _⟩ | ⟨q1, q2, _⟩
    · rw [if_pos q1, if_pos q1]
    · rw [h _ q1 q2]
theorem cst_cg (h62 : F 62 7 = D 62 7 ∧ F 62 8 = D 62 8) (hf : ∀ s p d, v_X12_fitOf F s p d = v_X12_fitOf D s p d) (h1 : F 1201 = D 1201) (h2 : F 1200 = D 1200) (h3 : F 66 = D 66) (h4 : F 64 = D 64) (h5 : F 70 0 = D 70 0) : cst F = cst D := by
  funext k j
  unfold cst
  rw [h62.1, h62.2, hf, h1, h2, h3, h4, h5]
def p_rows (F : aD) (k uM many days : Int) : Prop := Inv F ∧ F 70 70 = -1 ∧ k = 0 ∧ uM = 0 ∧ many = 0 ∧ days = 0
def Rs (F D' : aD) : Prop := Ru F D' ∧ D' 70 70 = cn (F 62 7) (F 62 8) (cst F) (F 62 7).toNat 0 ∧ D' 70 71 = ds (F 62 7) (F 62 8) (cst F) (F 62 7).toNat 0 ∧ ∀ i, 0 ≤ i → i < F 62 7 → D' 129 i = rwo (F 62 7) (F 62 8) (cst F) (F 1201) 24 (F 62 7).toNat 0 i
theorem rows_ex (F : aD) (k uM many days : Int) : ∃ D', (∀ c, c ≠ 70 → c ≠ 128 → c ≠ 129 → D' c = F c) ∧ (p_rows F k uM many days → Rs F D' ∧ ∀ A, Ev 1 50 202 [am_r (some 70), am_i (wz k), am_i (wz uM), am_i (wz many), am_i (wz days)] A F rv A D') := by
  by_cases h : p_rows F k uM many days
  · obtain ⟨hI, h0, rfl, rfl, rfl, rfl⟩ := h
    obtain ⟨⟨eP, hP⟩, ⟨eS, hS⟩, _, _⟩ := cn_f hI
    obtain ⟨σ, hσ⟩ := Sg_ex hI
    obtain ⟨D', a, b, c, e, K⟩ := rows_m hI hσ (F 62 7).toNat F 0 0 0 0 (by omega) ⟨fun _ _ _ _ => rfl, fun _ _ _ => rfl⟩ (by omega) (by omega) (fun f f0 f1 => by
      have s' := (hσ.1 f f0 f1).1
      rw [(tb_f (u := 0) (j := f) (by omega) ⟨f0, by omega⟩).2.2.1, (tb_f (u := 0) (j := σ f) (by omega) ⟨s'.1, by omega⟩).2.2.1]) (by omega) (by omega) (Or.inl h0)
    refine ⟨D', a.1, fun _ => ⟨⟨a, ?_, ?_, fun i i0 i1 => ?_⟩, fun A => ?_⟩⟩
    · have := (e.1 (Or.inl h0)).1
      exact this.trans (Int.zero_add _)
    · have := (e.1 (Or.inl h0)).2.1
      exact this.trans (Int.zero_add _)
    · refine ((e.1 (Or.inl h0)).2.2 i i0 i1).trans ?_
      exact if_neg (by omega)
    · have := K A
      rw [show F 62 7 - ((F 62 7).toNat : Int) = 0 by omega] at this
      exact this.le (by omega)
  · exact ⟨F, fun _ _ _ _ => rfl, fun q => absurd q h⟩
noncomputable def u_rows (F : aD) (k uM many days : Int) : aD := Classical.choose (rows_ex F k uM many days)
theorem ev_X12_rows (k uM many days : Int) (_ : rg k) (_ : rg uM) (_ : rg many) (_ : rg days) (hp : p_rows D k uM many days) : Ev 1 50 202 [am_r (some 70), am_i (wz k), am_i (wz uM), am_i (wz many), am_i (wz days)] A D rv A (u_rows D k uM many days) := ((Classical.choose_spec (rows_ex D k uM many days)).2 hp).2 A
theorem Rs_rows {k uM many days : Int} (hp : p_rows D k uM many days) : Rs D (u_rows D k uM many days) := ((Classical.choose_spec (rows_ex D k uM many days)).2 hp).1
theorem fl_rows (D : aD) (k uM many days : Int) (w : Nat) (i : Int) (hw : Nat.ble w 49 = true) : u_rows D k uM many days (900 + w) i = D (900 + w) i := by rw [show u_rows D k uM many days (900 + w) = D (900 + w) from (Classical.choose_spec (rows_ex D k uM many days)).1 _ (by omega) (by omega) (by omega)]
abbrev P_X12_chain : Nat → Option am_E := am_fy tb_X12_chain
noncomputable def v_X12_chain (D : aD) (a1 : Int) : Int := if v_X12_isIn D a1 0 1 = 0 then if v_X12_isIn D a1 10 (wr (9 + (D 70 68))) = 0 then (-1) else if a1 = 0 then (u_rows (up D 70 70 (-1)) 0 0 0 0) 70 70 else if a1 = 1 then (u_rows (up D 70 70 (-1)) 0 0 0 0) 70 71 else if (u_rows (up D 70 70 (-1)) 0 0 0 0) 129 (wr (a1 - 10)) = 24 then (-1) else (u_rows (up D 70 70 (-1)) 0 0 0 0) 129 (wr (a1 - 10)) else if a1 = 0 then (u_rows (up D 70 70 (-1)) 0 0 0 0) 70 70 else if a1 = 1 then (u_rows (up D 70 70 (-1)) 0 0 0 0) 70 71 else if (u_rows (up D 70 70 (-1)) 0 0 0 0) 129 (wr (a1 - 10)) = 24 then (-1) else (u_rows (up D 70 70 (-1)) 0 0 0 0) 129 (wr (a1 - 10))
noncomputable def u_X12_chain (D : aD) (a1 : Int) : aD := if v_X12_isIn D a1 0 1 = 0 then if v_X12_isIn D a1 10 (wr (9 + (D 70 68))) = 0 then D else if a1 = 0 then (u_rows (up D 70 70 (-1)) 0 0 0 0) else if a1 = 1 then (u_rows (up D 70 70 (-1)) 0 0 0 0) else if (u_rows (up D 70 70 (-1)) 0 0 0 0) 129 (wr (a1 - 10)) = 24 then (u_rows (up D 70 70 (-1)) 0 0 0 0) else (u_rows (up D 70 70 (-1)) 0 0 0 0) else if a1 = 0 then (u_rows (up D 70 70 (-1)) 0 0 0 0) else if a1 = 1 then (u_rows (up D 70 70 (-1)) 0 0 0 0) else if (u_rows (up D 70 70 (-1)) 0 0 0 0) 129 (wr (a1 - 10)) = 24 then (u_rows (up D 70 70 (-1)) 0 0 0 0) else (u_rows (up D 70 70 (-1)) 0 0 0 0)
def p_X12_chain (D : aD) (a1 : Int) : Prop := (if v_X12_isIn D a1 0 1 = 0 then (if v_X12_isIn D a1 10 (wr (9 + (D 70 68))) = 0 then True else (p_rows (up D 70 70 (-1)) 0 0 0 0) ∧ (if a1 = 0 then True else (if a1 = 1 then True else (0 ≤ wr (a1 - 10) ∧ wr (a1 - 10) < 6)))) else (p_rows (up D 70 70 (-1)) 0 0 0 0) ∧ (if a1 = 0 then True else (if a1 = 1 then True else (0 ≤ wr (a1 - 10) ∧ wr (a1 - 10) < 6))))
set_option maxRecDepth 100000 in
theorem ev_X12_chain {A : aA} {D : aD} (a1 : Int) (h1 : rg a1) (hp : p_X12_chain D a1) : Ev (1) 51 204 [am_r (some 70), am_i (wz a1)] A D (ri (v_X12_chain D a1)) A (u_X12_chain D a1) := by
  unfold p_X12_chain at hp
  unfold v_X12_chain u_X12_chain
  refine Ev_of (c := 50) (P := P_X12_chain) (lo := [some (am_r (some 70)), some (am_i (wz a1))]) rfl rfl rfl (fun d hd s hr => ?_)
  refine ok (m_iload_n (q := 1) rfl rfl rfl rfl) ?_
  refine ok (m_iconst (q := 2) rfl rfl rfl) ?_
  refine ok (m_iconst (q := 3) rfl rfl rfl) ?_
  refine oke (e_ci (x_cs (q := 6) rfl rfl rfl rfl rfl rfl rfl rfl rfl) (ev_X12_isIn (D := D) a1 0 1 h1 ⟨by decide, by decide⟩ ⟨by decide, by decide⟩) (Nat.le_trans (by decide) hd) hr) (fun s1 r2 => ?_)
  refine okf (m_ifne (qt := 27) (qf := 9) rfl rfl (Ev_rg (ev_X12_isIn (D := D) a1 0 1 h1 ⟨by decide, by decide⟩ ⟨by decide, by decide⟩) hr) rfl rfl) (fun c3 => ?_) (fun c3 => ?_)
  · replace hp := ip c3 hp
    refine ok (m_iload_n (q := 10) rfl rfl rfl rfl) ?_
    refine ok (m_bipush (q := 12) rfl rfl rfl) ?_
    refine ok (m_bipush (q := 14) rfl rfl rfl) ?_
    refine ok (m_aload_n (q := 15) rfl rfl rfl rfl) ?_
    refine ok (m_gfs (z := 68) (q := 18) rfl rfl rfl r2 rfl rfl rfl rfl rfl) ?_
    refine ok (m_iadd (q := 19) rfl rfl rfl) ?_
    refine oke (e_ci (x_cs (q := 22) rfl rfl rfl rfl rfl rfl rfl rfl rfl) (ev_X12_isIn (D := D) a1 10 (wr (9 + (D 70 68))) h1 ⟨by decide, by decide⟩ (rg_wr _)) (Nat.le_trans (by decide) hd) r2) (fun s4 r5 => ?_)
    refine okf (m_ifne (qt := 27) (qf := 25) rfl rfl (Ev_rg (ev_X12_isIn (D := D) a1 10 (wr (9 + (D 70 68))) h1 ⟨by decide, by decide⟩ (rg_wr _)) r2) rfl rfl) (fun c6 => ?_) (fun c6 => ?_)
    · refine ok (m_iconst (q := 26) rfl rfl rfl) ?_
      exact ok (m_reti rfl rfl) (ok_i r5 ⟨by decide, by decide⟩)
    · replace hp := iq c6 hp
      refine ok (m_aload_n (q := 28) rfl rfl rfl rfl) ?_
      refine ok (m_iconst (q := 29) rfl rfl rfl) ?_
      refine oke (e_pfs (q := 32) rfl rfl rfl r5 rfl rfl rfl rfl ⟨by decide, by decide⟩) (fun s8 r7 => ?_)
      refine ok (m_aload_n (q := 33) rfl rfl rfl rfl) ?_
      refine ok (m_iconst (q := 34) rfl rfl rfl) ?_
      refine ok (m_iconst (q := 35) rfl rfl rfl) ?_
      refine ok (m_iconst (q := 36) rfl rfl rfl) ?_
      refine ok (m_iconst (q := 37) rfl rfl rfl) ?_
      obtain ⟨g11, hp⟩ := hp
      refine oke (e_cvd (x_cv (q := 40) rfl rfl rfl rfl rfl rfl rfl rfl rfl rfl (is_st r7 rfl rfl)) (ev_X12_rows (D := (up D 70 70 (-1))) 0 0 0 0 ⟨by decide, by decide⟩ ⟨by decide, by decide⟩ ⟨by decide, by decide⟩ ⟨by decide, by decide⟩ g11) (Nat.le_trans (by decide) hd) r7) (fun s9 r10 => ?_)
      refine ok (m_iload_n (q := 41) rfl rfl rfl rfl) ?_
      refine okf (m_ifne (qt := 51) (qf := 44) rfl rfl h1 rfl rfl) (fun c12 => ?_) (fun c12 => ?_)
      · refine ok (m_aload_n (q := 45) rfl rfl rfl rfl) ?_
        refine ok (m_gfs (z := 70) (q := 48) rfl rfl rfl r10 rfl rfl rfl rfl rfl) ?_
        refine ok (m_goto (q := 90) rfl rfl rfl) ?_
        exact ok (m_reti rfl rfl) (ok_i r10 (Rp_rg r10 70 70))
      · replace hp := iq c12 hp
        refine ok (m_iload_n (q := 52) rfl rfl rfl rfl) ?_
        refine ok (m_iconst (q := 53) rfl rfl rfl) ?_
        refine okf (m_cmpne (qt := 63) (qf := 56) rfl rfl h1 ⟨by decide, by decide⟩ rfl rfl) (fun c13 => ?_) (fun c13 => ?_)
        · refine ok (m_aload_n (q := 57) rfl rfl rfl rfl) ?_
          refine ok (m_gfs (z := 71) (q := 60) rfl rfl rfl r10 rfl rfl rfl rfl rfl) ?_
          refine ok (m_goto (q := 90) rfl rfl rfl) ?_
          exact ok (m_reti rfl rfl) (ok_i r10 (Rp_rg r10 70 71))
        · replace hp := iq c13 hp
          refine ok (m_aload_n (q := 64) rfl rfl rfl rfl) ?_
          refine ok (m_gfc (q := 67) rfl rfl rfl r10 rfl rfl rfl) ?_
          refine ok (m_iload_n (q := 68) rfl rfl rfl rfl) ?_
          refine ok (m_bipush (q := 70) rfl rfl rfl) ?_
          refine ok (m_isub (q := 71) rfl rfl rfl) ?_
          have g14 := hp
          refine ok (m_ials (q := 72) rfl rfl rfl r10 rfl rfl g14 rfl) ?_
          refine ok (m_bipush (q := 74) rfl rfl rfl) ?_
          refine okf (m_cmpne (qt := 81) (qf := 77) rfl rfl (Rp_rg r10 129 (wr (a1 - 10))) ⟨by decide, by decide⟩ rfl rfl) (fun c15 => ?_) (fun c15 => ?_)
          · refine ok (m_iconst (q := 78) rfl rfl rfl) ?_
            refine ok (m_goto (q := 90) rfl rfl rfl) ?_
            exact ok (m_reti rfl rfl) (ok_i r10 ⟨by decide, by decide⟩)
          · refine ok (m_aload_n (q := 82) rfl rfl rfl rfl) ?_
            refine ok (m_gfc (q := 85) rfl rfl rfl r10 rfl rfl rfl) ?_
            refine ok (m_iload_n (q := 86) rfl rfl rfl rfl) ?_
            refine ok (m_bipush (q := 88) rfl rfl rfl) ?_
            refine ok (m_isub (q := 89) rfl rfl rfl) ?_
            refine ok (m_ials (q := 90) rfl rfl rfl r10 rfl rfl g14 rfl) ?_
            exact ok (m_reti rfl rfl) (ok_i r10 (Rp_rg r10 129 (wr (a1 - 10))))
  · replace hp := iq c3 hp
    refine ok (m_aload_n (q := 28) rfl rfl rfl rfl) ?_
    refine ok (m_iconst (q := 29) rfl rfl rfl) ?_
    refine oke (e_pfs (q := 32) rfl rfl rfl r2 rfl rfl rfl rfl ⟨by decide, by decide⟩) (fun s17 r16 => ?_)
    refine ok (m_aload_n (q := 33) rfl rfl rfl rfl) ?_
    refine ok (m_iconst (q := 34) rfl rfl rfl) ?_
    refine ok (m_iconst (q := 35) rfl rfl rfl) ?_
    refine ok (m_iconst (q := 36) rfl rfl rfl) ?_
    refine ok (m_iconst (q := 37) rfl rfl rfl) ?_
    obtain ⟨g20, hp⟩ := hp
    refine oke (e_cvd (x_cv (q := 40) rfl rfl rfl rfl rfl rfl rfl rfl rfl rfl (is_st r16 rfl rfl)) (ev_X12_rows (D := (up D 70 70 (-1))) 0 0 0 0 ⟨by decide, by decide⟩ ⟨by decide, by decide⟩ ⟨by decide, by decide⟩ ⟨by decide, by decide⟩ g20) (Nat.le_trans (by decide) hd) r16) (fun s18 r19 => ?_)
    refine ok (m_iload_n (q := 41) rfl rfl rfl rfl) ?_
    refine okf (m_ifne (qt := 51) (qf := 44) rfl rfl h1 rfl rfl) (fun c21 => ?_) (fun c21 => ?_)
    · refine ok (m_aload_n (q := 45) rfl rfl rfl rfl) ?_
      refine ok (m_gfs (z := 70) (q := 48) rfl rfl rfl r19 rfl rfl rfl rfl rfl) ?_
      refine ok (m_goto (q := 90) rfl rfl rfl) ?_
      exact ok (m_reti rfl rfl) (ok_i r19 (Rp_rg r19 70 70))
    · replace hp := iq c21 hp
      refine ok (m_iload_n (q := 52) rfl rfl rfl rfl) ?_
      refine ok (m_iconst (q := 53) rfl rfl rfl) ?_
      refine okf (m_cmpne (qt := 63) (qf := 56) rfl rfl h1 ⟨by decide, by decide⟩ rfl rfl) (fun c22 => ?_) (fun c22 => ?_)
      · refine ok (m_aload_n (q := 57) rfl rfl rfl rfl) ?_
        refine ok (m_gfs (z := 71) (q := 60) rfl rfl rfl r19 rfl rfl rfl rfl rfl) ?_
        refine ok (m_goto (q := 90) rfl rfl rfl) ?_
        exact ok (m_reti rfl rfl) (ok_i r19 (Rp_rg r19 70 71))
      · replace hp := iq c22 hp
        refine ok (m_aload_n (q := 64) rfl rfl rfl rfl) ?_
        refine ok (m_gfc (q := 67) rfl rfl rfl r19 rfl rfl rfl) ?_
        refine ok (m_iload_n (q := 68) rfl rfl rfl rfl) ?_
        refine ok (m_bipush (q := 70) rfl rfl rfl) ?_
        refine ok (m_isub (q := 71) rfl rfl rfl) ?_
        have g23 := hp
        refine ok (m_ials (q := 72) rfl rfl rfl r19 rfl rfl g23 rfl) ?_
        refine ok (m_bipush (q := 74) rfl rfl rfl) ?_
        refine okf (m_cmpne (qt := 81) (qf := 77) rfl rfl (Rp_rg r19 129 (wr (a1 - 10))) ⟨by decide, by decide⟩ rfl rfl) (fun c24 => ?_) (fun c24 => ?_)
        · refine ok (m_iconst (q := 78) rfl rfl rfl) ?_
          refine ok (m_goto (q := 90) rfl rfl rfl) ?_
          exact ok (m_reti rfl rfl) (ok_i r19 ⟨by decide, by decide⟩)
        · refine ok (m_aload_n (q := 82) rfl rfl rfl rfl) ?_
          refine ok (m_gfc (q := 85) rfl rfl rfl r19 rfl rfl rfl) ?_
          refine ok (m_iload_n (q := 86) rfl rfl rfl rfl) ?_
          refine ok (m_bipush (q := 88) rfl rfl rfl) ?_
          refine ok (m_isub (q := 89) rfl rfl rfl) ?_
          refine ok (m_ials (q := 90) rfl rfl rfl r19 rfl rfl g23 rfl) ?_
          exact ok (m_reti rfl rfl) (ok_i r19 (Rp_rg r19 129 (wr (a1 - 10))))
theorem fl_X12_chain (D : aD) (a1 : Int) (t : Nat) (i : Int) (ht : Nat.ble t 49 = true) : u_X12_chain D a1 (900 + t) i = D (900 + t) i := fl_if (fl_if (rfl) (fl_if ((fl_rows (up D 70 70 (-1)) 0 0 0 0 t i ht).trans ((up_c (fl_ne rfl ht)).trans (rfl))) (fl_if ((fl_rows (up D 70 70 (-1)) 0 0 0 0 t i ht).trans ((up_c (fl_ne rfl ht)).trans (rfl))) (fl_if ((fl_rows (up D 70 70 (-1)) 0 0 0 0 t i ht).trans ((up_c (fl_ne rfl ht)).trans (rfl))) ((fl_rows (up D 70 70 (-1)) 0 0 0 0 t i ht).trans ((up_c (fl_ne rfl ht)).trans (rfl))))))) (fl_if ((fl_rows (up D 70 70 (-1)) 0 0 0 0 t i ht).trans ((up_c (fl_ne rfl ht)).trans (rfl))) (fl_if ((fl_rows (up D 70 70 (-1)) 0 0 0 0 t i ht).trans ((up_c (fl_ne rfl ht)).trans (rfl))) (fl_if ((fl_rows (up D 70 70 (-1)) 0 0 0 0 t i ht).trans ((up_c (fl_ne rfl ht)).trans (rfl))) ((fl_rows (up D 70 70 (-1)) 0 0 0 0 t i ht).trans ((up_c (fl_ne rfl ht)).trans (rfl))))))
/-- the answer -/
noncomputable def chv (D : aD) (a : Int) : Int := if a = 0 then cn (D 62 7) (D 62 8) (cst D) (D 62 7).toNat 0 else if a = 1 then ds (D 62 7) (D 62 8) (cst D) (D 62 7).toNat 0 else rwo (D 62 7) (D 62 8) (cst D) (D 1201) (-1) (D 62 7).toNat 0 (a - 10)
abbrev chq (D : aD) (a : Int) : Prop := (0 ≤ a ∧ a ≤ 1) ∨ (10 ≤ a ∧ a < 10 + D 62 7)
theorem Sm_cst (hm : Sm F D) : cst F = cst D := cst_cg ⟨by rw [hm 62 rfl], by rw [hm 62 rfl]⟩ (fun s p d => fit_cg hm s p d) (hm 1201 rfl) (hm 1200 rfl) (hm 66 rfl) (hm 64 rfl) (by rw [hm 70 rfl])
noncomputable abbrev cn0 (D : aD) : Int := cn (D 62 7) (D 62 8) (cst D) (D 62 7).toNat 0
noncomputable abbrev ds0 (D : aD) : Int := ds (D 62 7) (D 62 8) (cst D) (D 62 7).toNat 0
theorem wr_lo {z : Int} (h : -2147483660 ≤ z ∧ z ≤ 2147483647) : wr z = z ∨ (z < -2147483648 ∧ wr z = z + 4294967296) := by
  by_cases c : -2147483648 ≤ z
  · exact Or.inl (wr_id c h.2)
  · refine Or.inr ⟨by omega, ?_⟩
    unfold wr wz
    rw [Int32.toInt_ofInt, Int.bmod_def]
    simp only [Int32.size]
    split <;> omega
theorem lev0_ne {c : Nat} (h : Nat.ble (lev c) 0 = true) : c ≠ 67 ∧ c ≠ 68 ∧ c ≠ 69 ∧ c ≠ 128 ∧ c ≠ 129 := by
  refine ⟨?_, ?_, ?_, ?_, ?_⟩ <;> (rintro rfl; cases h)
theorem chX (hI : Inv D) (hf : D 914 (w_bookOf D (D 70 0)) = 1) {a : Int} (h1 : rg a) : (chq D a → Ev 0 9 101 [am_r (some 32), am_i (wz a)] A D (ri (chv D a)) A (up (up D 62 9 (cn0 D)) 62 10 (ds0 D))) ∧ (¬ chq D a → Ev 0 9 101 [am_r (some 32), am_i (wz a)] A D (ri (-1)) A D) := by
  obtain ⟨⟨eP, hP⟩, ⟨eS, hS⟩, hk, hj⟩ := cn_f hI
  have hc := hI.iv.ct; unfold I_ct at hc
  have hv := bv_v (P := D 62 7) hS.1 (cst_b hI) (D 62 7).toNat 0
  have hw : ∀ F : aD, Sm F D → (v_X11_between F a 0 1 = 0 ↔ ¬ (0 ≤ a ∧ a ≤ 1)) ∧ (v_X11_between F (wr (a - 10)) 0 (wr (F 62 7 - 1)) = 0 ↔ ¬ (10 ≤ a ∧ a < 10 + D 62 7)) := fun F hm => by
    refine ⟨btw_0, ?_⟩
    rw [btw_0, hm 62 rfl, wr_id (z := D 62 7 - 1) (by omega) (by omega)]
    have h1' := h1
    unfold rg at h1'
    have := wr_lo (z := a - 10) (by omega)
    omega
  refine ⟨fun q => ?_, fun q => ?_⟩
  · refine Ev_low (m := 1) (by decide) (fun hg => rg_up (rg_up hg (show rg (cn (D 62 7) (D 62 8) (cst D) (D 62 7).toNat 0) from rgb (by omega) (by omega))) (show rg (ds (D 62 7) (D 62 8) (cst D) (D 62 7).toNat 0) from rgb (by omega) (by omega))) (fun F hF => ?_)
    have hm := Sm_le hF
    have hIF := Inv_cg hm hI
    have e62 : F 62 = D 62 := hm 62 rfl
    have e70 : F 70 = D 70 := hm 70 rfl
    have e32 : F 32 14 = D 70 0 := by rw [hm 32 rfl]; exact hc.1.1
    have eb : w_bookOf F (D 70 0) = w_bookOf D (D 70 0) := by unfold w_bookOf; rw [if_cg hm]
    have hfF : F 914 (w_bookOf F (D 70 0)) = 1 := by rw [eb, hm 914 rfl]; exact hf
    have pf : p_fill F (w_bookOf F (D 70 0)) (D 70 0) := ⟨hIF, by rw [e70], rfl⟩
    obtain ⟨o1, o2, o3, o4, o5⟩ := Po_fill hfF pf
    have ec := Sm_cst hm
    rw [e62, ec] at o3 o4 o5
    have hb : p_inv1 F (D 70 0) := hIF.rb
    have w1 := (hw F hm).1
    have w2 := (hw F hm).2
    have o6 : ∀ i, 0 ≤ i → i < D 62 7 → u_fill F (w_bookOf F (D 70 0)) (D 70 0) 69 i = rwo (D 62 7) (D 62 8) (cst D) (D 1201) (-1) (D 62 7).toNat 0 i := fun i a b => by
      rw [o5 i a b]
      refine rwo_n hS.1 (fun j j0 j1 => ?_) _ _ _
      rw [hm 2000 rfl, hm 1201 rfl]; exact (hj j j0 j1).2.2
    have fin : v_X11_chain F a = chv D a ∧ u_X11_chain F a = u_fill F (w_bookOf F (D 70 0)) (D 70 0) ∧ p_X11_chain F a := by
      unfold v_X11_chain u_X11_chain p_X11_chain chv
      rw [e32]
      rcases q with q | q
      · have c1 : ¬ v_X11_between F a 0 1 = 0 := fun z => w1.mp z q
        simp only [if_neg c1]
        by_cases c2 : a = 0
        · simp only [if_pos c2]; exact ⟨o3, trivial, hb, pf, trivial⟩
        · have c3 : a = 1 := by omega
          simp only [if_neg c2, if_pos c3]; exact ⟨o4, trivial, hb, pf, trivial⟩
      · have c1 : v_X11_between F a 0 1 = 0 := w1.mpr (by omega)
        have c2 : ¬ v_X11_between F (wr (a - 10)) 0 (wr (F 62 7 - 1)) = 0 := fun z => w2.mp z q
        have c3 : ¬ a = 0 := by omega
        have c4 : ¬ a = 1 := by omega
        simp only [if_pos c1, if_neg c2, if_neg c3, if_neg c4]
        simp only [wr_id (z := a - 10) (by omega) (by omega)]
        exact ⟨o6 (a - 10) (by omega) (by omega), trivial, hb, pf, by omega, by omega⟩
    have ev := (ev_X11_chain (A := A) (D := F) a h1 fin.2.2).le (show 8 ≤ 9 by decide)
    rw [fin.1, fin.2.1] at ev
    refine ⟨_, ev, fun c z => ?_⟩
    have zn := lev0_ne z
    by_cases e : c = 62
    · subst e
      funext i
      by_cases e1 : i = 10
      · subst e1; rw [up_eq]; exact o4
      · rw [up_i e1]
        by_cases e2 : i = 9
        · subst e2; rw [up_eq]; exact o3
        · rw [up_i e2, o2 i e2 e1, e62]
    · rw [up_cf e, up_cf e, o1 c e zn.1 zn.2.1 zn.2.2.1]; exact hF c z
  · refine Ev_pure (m := 1) (by decide) (fun F hF => ?_)
    have hm := Sm_le hF
    have w1 := (hw F hm).1
    have w2 := (hw F hm).2
    have c1 : v_X11_between F a 0 1 = 0 := w1.mpr (fun z => q (Or.inl z))
    have c2 : v_X11_between F (wr (a - 10)) 0 (wr (F 62 7 - 1)) = 0 := w2.mpr (fun z => q (Or.inr z))
    have fin : v_X11_chain F a = -1 ∧ u_X11_chain F a = F ∧ p_X11_chain F a := by
      unfold v_X11_chain u_X11_chain p_X11_chain
      simp only [if_pos c1, if_pos c2]
      exact ⟨trivial, trivial, trivial⟩
    have ev := (ev_X11_chain (A := A) (D := F) a h1 fin.2.2).le (show 8 ≤ 9 by decide)
    rw [fin.1, fin.2.1] at ev
    exact ⟨F, ev, hF⟩
theorem chM (hI : Inv D) {a : Int} (h1 : rg a) : (chq D a → Ev 0 51 204 [am_r (some 70), am_i (wz a)] A D (ri (chv D a)) A (up (up D 70 70 (cn0 D)) 70 71 (ds0 D))) ∧ (¬ chq D a → Ev 0 51 204 [am_r (some 70), am_i (wz a)] A D (ri (-1)) A D) := by
  obtain ⟨⟨eP, hP⟩, ⟨eS, hS⟩, hk, hj⟩ := cn_f hI
  have hc := hI.iv.ct; unfold I_ct at hc
  have hv := bv_v (P := D 62 7) hS.1 (cst_b hI) (D 62 7).toNat 0
  have hw : ∀ F : aD, Sm F D → (v_X12_isIn F a 0 1 = 0 ↔ ¬ (0 ≤ a ∧ a ≤ 1)) ∧ (v_X12_isIn F a 10 (wr (9 + F 70 68)) = 0 ↔ ¬ (10 ≤ a ∧ a < 10 + D 62 7)) := fun F hm => by
    refine ⟨isI0, ?_⟩
    rw [isI0, hm 70 rfl, wr_id (z := 9 + D 70 68) (by omega) (by omega)]
    omega
  refine ⟨fun q => ?_, fun q => ?_⟩
  · refine Ev_low (m := 1) (by decide) (fun hg => rg_up (rg_up hg (show rg (cn (D 62 7) (D 62 8) (cst D) (D 62 7).toNat 0) from rgb (by omega) (by omega))) (show rg (ds (D 62 7) (D 62 8) (cst D) (D 62 7).toNat 0) from rgb (by omega) (by omega))) (fun F hF => ?_)
    have hm := Sm_le hF
    have hIF := Inv_cg hm hI
    have e62 : F 62 = D 62 := hm 62 rfl
    have e70 : F 70 = D 70 := hm 70 rfl
    have hRu : Ru F (up F 70 70 (-1)) := ⟨fun c c1 _ _ => by rw [up_cf c1], fun i i1 _ => by rw [up_i i1]⟩
    obtain ⟨hIG, hfG⟩ := Ru_f hIF hRu
    have pr : p_rows (up F 70 70 (-1)) 0 0 0 0 := ⟨hIG, up_eq, rfl, rfl, rfl, rfl⟩
    obtain ⟨⟨r1, r2⟩, r3, r4, r5⟩ := Rs_rows pr
    have ec : cst (up F 70 70 (-1)) = cst D := by
      rw [← Sm_cst hm]
      exact cst_cg ⟨by rw [up_c (by decide)], by rw [up_c (by decide)]⟩ hfG (up_cf (by decide)) (up_cf (by decide)) (up_cf (by decide)) (up_cf (by decide)) (up_i (by decide))
    have u62 : up F 70 70 (-1) 62 = D 62 := by rw [up_cf (by decide), e62]
    have u120 : up F 70 70 (-1) 1201 = D 1201 := by rw [up_cf (by decide), hm 1201 rfl]
    rw [ec, u62] at r3 r4 r5
    rw [u120] at r5
    have w1 := (hw F hm).1
    have w2 := (hw F hm).2
    have hz := rwo_z (P := D 62 7) (c := cst D) (num := D 1201) hS.1 (fun j j0 j1 => by have := hj j j0 j1; omega) (D 62 7).toNat 0 (a - 10)
    have fin : v_X12_chain F a = chv D a ∧ u_X12_chain F a = u_rows (up F 70 70 (-1)) 0 0 0 0 ∧ p_X12_chain F a := by
      unfold v_X12_chain u_X12_chain p_X12_chain chv
      rcases q with q | q
      · have c1 : ¬ v_X12_isIn F a 0 1 = 0 := fun z => w1.mp z q
        simp only [if_neg c1]
        by_cases c2 : a = 0
        · simp only [if_pos c2]; exact ⟨r3, trivial, pr, trivial⟩
        · have c3 : a = 1 := by omega
          simp only [if_neg c2, if_pos c3]; exact ⟨r4, trivial, pr, trivial⟩
      · have c1 : v_X12_isIn F a 0 1 = 0 := w1.mpr (by omega)
        have c2 : ¬ v_X12_isIn F a 10 (wr (9 + F 70 68)) = 0 := fun z => w2.mp z q
        have c3 : ¬ a = 0 := by omega
        have c4 : ¬ a = 1 := by omega
        simp only [if_pos c1, if_neg c2, if_neg c3, if_neg c4]
        simp only [wr_id (z := a - 10) (by omega) (by omega), ite_self]
        refine ⟨?_, trivial, pr, by omega, by omega⟩
        rw [r5 (a - 10) (by omega) (by omega)]
        rcases hz with ⟨z1, z2⟩ | ⟨z1, z2, z3⟩
        · rw [z2, if_pos rfl, z1]
        · rw [z3, if_neg (by omega)]
    have ev := ev_X12_chain (A := A) (D := F) a h1 fin.2.2
    rw [fin.1, fin.2.1] at ev
    refine ⟨_, ev, fun c z => ?_⟩
    have zn := lev0_ne z
    by_cases e : c = 70
    · subst e
      funext i
      by_cases e1 : i = 71
      · subst e1; rw [up_eq]; exact r4
      · rw [up_i e1]
        by_cases e2 : i = 70
        · subst e2; rw [up_eq]; exact r3
        · rw [up_i e2, r2 i e2 e1, up_i e2, e70]
    · rw [up_cf e, up_cf e, r1 c e zn.2.2.2.1 zn.2.2.2.2, up_cf e]; exact hF c z
  · refine Ev_pure (m := 1) (by decide) (fun F hF => ?_)
    have hm := Sm_le hF
    have w1 := (hw F hm).1
    have w2 := (hw F hm).2
    have c1 : v_X12_isIn F a 0 1 = 0 := w1.mpr (fun z => q (Or.inl z))
    have c2 : v_X12_isIn F a 10 (wr (9 + F 70 68)) = 0 := w2.mpr (fun z => q (Or.inr z))
    have fin : v_X12_chain F a = -1 ∧ u_X12_chain F a = F ∧ p_X12_chain F a := by
      unfold v_X12_chain u_X12_chain p_X12_chain
      simp only [if_pos c1, if_pos c2]
      exact ⟨trivial, trivial, trivial⟩
    have ev := ev_X12_chain (A := A) (D := F) a h1 fin.2.2
    rw [fin.1, fin.2.1] at ev
    exact ⟨F, ev, hF⟩
theorem c_chain (hR : Rp 0 A D s) (hI : Inv D) (a : Int) (h1 : rg a) : Wr 101 204 [am_i (wz a)] A D := by
  have hf : D 914 (w_bookOf D (D 70 0)) = 1 := by
    have hc := hI.iv.ct; unfold I_ct at hc
    exact fg_bookOf (D 70 0) (rgb (by omega) (by omega)) hI.rb hR
  by_cases q : chq D a
  · obtain ⟨U, hU⟩ : ∃ U, U = up (up D 62 9 (cn0 D)) 62 10 (ds0 D) := ⟨_, rfl⟩
    have hIU : Inv U := by rw [hU]; exact Inv_62 hI _ _
    have e627 : U 62 7 = D 62 7 := by rw [hU, up_i (by decide), up_i (by decide)]
    have e628 : U 62 8 = D 62 8 := by rw [hU, up_i (by decide), up_i (by decide)]
    have ec : cst U = cst D := cst_cg ⟨e627, e628⟩ (fun s p d => by rw [hU]; exact fit_62 _ _ s p d) (by rw [hU, up_cf (by decide), up_cf (by decide)]) (by rw [hU, up_cf (by decide), up_cf (by decide)]) (by rw [hU, up_cf (by decide), up_cf (by decide)]) (by rw [hU, up_cf (by decide), up_cf (by decide)]) (by rw [hU, up_c (by decide), up_c (by decide)])
    have ev : chv U a = chv D a := by
      unfold chv
      rw [ec, e627, e628, show U 1201 = D 1201 by rw [hU, up_cf (by decide), up_cf (by decide)]]
    have qU : chq U a := by unfold chq; rw [e627]; exact q
    have m := (chM (A := A) hIU h1).1 qU
    rw [ev] at m
    have x := (chX (A := A) hI hf h1).1 q
    rw [← hU] at x
    refine ⟨chv D a, A, U, _, x.le (by decide), m.le (by decide), Inv_70 hIU _ _, ?_⟩
    unfold Fr
    rw [hU]
    simp (disch := decide) only [up_cf]; exact ⟨trivial, trivial, by omega, by omega, by first | exact id | trivial⟩
  · exact Rd.wr ⟨-1, ((chX (A := A) hI hf h1).2 q).le (by decide), ((chM (A := A) hI h1).2 q).le (by decide)⟩ hI
end Cc
