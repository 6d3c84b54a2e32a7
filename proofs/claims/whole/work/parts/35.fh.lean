/-! The first statement that holds. -/
section Fh
variable {n : Nat} {A : aA} {D : aD}
def w_hX (D : aD) (i e : Int) : Int := if hd1 (PX (fun j => D 3201 (1024 * e + j)) (fun j => D 3401 (1024 * i + j)) (D 3200 e)) = true then 1 else 0
def p_hX (D : aD) (i e : Int) : Prop := (∃ φ : Tf, XC D e φ) ∧ D 3400 i = 6
theorem b_hX (D : aD) (i e : Int) : 0 ≤ w_hX D i e ∧ w_hX D i e ≤ 1 := by unfold w_hX; split <;> omega
theorem ev_hX (i e : Int) (f0 : D 914 i = 1) (f1 : D 922 e = 1) (hp : p_hX D i e) : Ev (n + 2) 2 64 [am_r (some (A 14 i)), am_r (some (A 22 e))] A D (ri (w_hX D i e)) A D := by
  obtain ⟨⟨φ, h⟩, h6⟩ := hp
  have := ev_holdsX (n := n) (A := A) i e f0 f1 h h6
  unfold w_hX
  rw [(h.2.2 _).2]; exact this
noncomputable def w_hM (D : aD) (k : Int) : Int := @ite _ (∃ φ : Tf, HM D (D 70 27) 40 k φ ∧ φ (D 105) = true) (Classical.propDecidable _) 1 0
def p_hM (D : aD) (k : Int) : Prop := (∃ φ : Tf, HM D (D 70 27) 40 k φ) ∧ D 70 27 ≤ 5200
theorem w_hM_eq {k : Int} {φ : Tf} (h : HM D (D 70 27) 40 k φ) : w_hM D k = if φ (D 105) = true then 1 else 0 := by
  unfold w_hM
  by_cases c : φ (D 105) = true
  · rw [if_pos c]; exact @if_pos _ (Classical.propDecidable _) ⟨φ, h, c⟩ _ _ _
  · rw [if_neg c]
    refine @if_neg _ (Classical.propDecidable _) (fun q => ?_) _ _ _
    obtain ⟨ψ, q1, q2⟩ := q
    rw [HM_fun _ _ _ _ q1 h] at q2
    exact c q2
theorem b_hM (D : aD) (k : Int) : 0 ≤ w_hM D k ∧ w_hM D k ≤ 1 := by
  unfold w_hM
  by_cases c : ∃ φ : Tf, HM D (D 70 27) 40 k φ ∧ φ (D 105) = true
  · rw [@if_pos _ (Classical.propDecidable _) c]; decide
  · rw [@if_neg _ (Classical.propDecidable _) c]; decide
theorem ev_hM (k : Int) (_ : rg k) (hp : p_hM D k) : Ev (n + 2) 40 176 [am_r (some 70), am_i (wz k)] A D (ri (w_hM D k)) A D := by
  obtain ⟨⟨φ, h⟩, h6⟩ := hp
  rw [w_hM_eq h]
  exact ev_holdsM h6 40 k φ h
abbrev P_X7_firstHolding : Nat → Option am_E := am_fy tb_X7_firstHolding
def K_X7_firstHolding_69 (n : Nat) (A : aA) (D : aD) (i0 : Int) (a1 : Int) (a2 : Int) (a6 : Int) (x : Option Nat) (D' : aD) : Prop := Lp n 4 P_X7_firstHolding 69 [some (am_r (some (A 14 i0))), some (am_i (wz a1)), some (am_i (wz a2)), none, none, none, some (am_i (wz a6)), none] [] A D (rr x) A D'
set_option maxRecDepth 100000 in
theorem rl_X7_firstHolding {n : Nat} {A : aA} {D D' : aD} (i0 : Int) (a1 : Int) (a2 : Int) (i3 : Int) (i4 : Int) (a5 : Int) (f0 : D 914 i0 = 1) (h1 : rg a1) (h2 : rg a2) (f3 : D 910 i3 = 1) (f4 : D 911 i4 = 1) (h5 : rg a5) {x : Option Nat} (hp : ((0 : Int) ≤ 0 ∧ 0 < D 3400 i0) ∧ ((0 : Int) ≤ 1 ∧ 1 < D 3400 i0) ∧ ((0 : Int) ≤ 2 ∧ 2 < D 3400 i0) ∧ ((0 : Int) ≤ 3 ∧ 3 < D 3400 i0) ∧ ((0 : Int) ≤ 4 ∧ 4 < D 3400 i0) ∧ ((0 : Int) ≤ 5 ∧ 5 < D 3400 i0) ∧ K_X7_firstHolding_69 (n + 2) A (up (up (up (up (up (up D 3401 (1024 * i0 + 0) (D 2104 i4)) 3401 (1024 * i0 + 1) (D 2103 i4)) 3401 (1024 * i0 + 2) (D 2102 i4)) 3401 (1024 * i0 + 3) (v_X8_ageOn (up (up (up D 3401 (1024 * i0 + 0) (D 2104 i4)) 3401 (1024 * i0 + 1) (D 2103 i4)) 3401 (1024 * i0 + 2) (D 2102 i4)) i3 a5)) 3401 (1024 * i0 + 4) (v_J6_bitCount_0f7a4 (up (up (up (up D 3401 (1024 * i0 + 0) (D 2104 i4)) 3401 (1024 * i0 + 1) (D 2103 i4)) 3401 (1024 * i0 + 2) (D 2102 i4)) 3401 (1024 * i0 + 3) (v_X8_ageOn (up (up (up D 3401 (1024 * i0 + 0) (D 2104 i4)) 3401 (1024 * i0 + 1) (D 2103 i4)) 3401 (1024 * i0 + 2) (D 2102 i4)) i3 a5)) (D 2002 i3))) 3401 (1024 * i0 + 5) a5) i0 a1 a2 0 x D') : Ev (n + 2) (5) 63 [am_r (some (A 14 i0)), am_i (wz a1), am_i (wz a2), am_r (some (A 10 i3)), am_r (some (A 11 i4)), am_i (wz a5)] A D (rr x) A D' := by
  refine Ev_of (c := 4) (P := P_X7_firstHolding) (lo := [some (am_r (some (A 14 i0))), some (am_i (wz a1)), some (am_i (wz a2)), some (am_r (some (A 10 i3))), some (am_r (some (A 11 i4))), some (am_i (wz a5)), none, none]) rfl rfl rfl (fun d hd s hr => ?_)
  refine ok (m_aload_n (q := 1) rfl rfl rfl rfl) ?_
  have f_1 := Rp_f14_24 (D := D) (i := i0) hr f0
  refine ok (m_gfx (t := 14) (q := 4) (r := some (A 24 i0)) rfl rfl rfl hr rfl f0 rfl rfl rfl) ?_
  refine ok (m_iconst (q := 5) rfl rfl rfl) ?_
  refine ok (m_aload (q := 7) rfl rfl rfl rfl) ?_
  refine ok (m_gft (t := 11) (q := 10) rfl rfl rfl hr rfl f4 rfl rfl rfl) ?_
  obtain ⟨g4, hp⟩ := hp
  refine oke (e_iat (t := 24) (q := 11) rfl rfl rfl hr rfl f_1 rfl rfl rfl g4 (show rg (D 2104 i4) from Rp_rg hr 2104 i4)) (fun s3 r2 => ?_)
  refine ok (m_aload_n (q := 12) rfl rfl rfl rfl) ?_
  have f_5 := Rp_f14_24 (D := (up D 3401 (1024 * i0 + 0) (D 2104 i4))) (i := i0) r2 f0
  refine ok (m_gfx (t := 14) (q := 15) (r := some (A 24 i0)) rfl rfl rfl r2 rfl f0 rfl rfl rfl) ?_
  refine ok (m_iconst (q := 16) rfl rfl rfl) ?_
  refine ok (m_aload (q := 18) rfl rfl rfl rfl) ?_
  refine ok (m_gft (t := 11) (q := 21) (w := D 2103 i4) rfl rfl rfl r2 rfl f4 rfl rfl rfl) ?_
  obtain ⟨g8, hp⟩ := hp
  refine oke (e_iat (t := 24) (q := 22) rfl rfl rfl r2 rfl f_5 rfl rfl rfl g8 (show rg (D 2103 i4) from Rp_rg r2 2103 i4)) (fun s7 r6 => ?_)
  refine ok (m_aload_n (q := 23) rfl rfl rfl rfl) ?_
  have f_9 := Rp_f14_24 (D := (up (up D 3401 (1024 * i0 + 0) (D 2104 i4)) 3401 (1024 * i0 + 1) (D 2103 i4))) (i := i0) r6 f0
  refine ok (m_gfx (t := 14) (q := 26) (r := some (A 24 i0)) rfl rfl rfl r6 rfl f0 rfl rfl rfl) ?_
  refine ok (m_iconst (q := 27) rfl rfl rfl) ?_
  refine ok (m_aload (q := 29) rfl rfl rfl rfl) ?_
  refine ok (m_gft (t := 11) (q := 32) (w := D 2102 i4) rfl rfl rfl r6 rfl f4 rfl rfl rfl) ?_
  obtain ⟨g12, hp⟩ := hp
  refine oke (e_iat (t := 24) (q := 33) rfl rfl rfl r6 rfl f_9 rfl rfl rfl g12 (show rg (D 2102 i4) from Rp_rg r6 2102 i4)) (fun s11 r10 => ?_)
  refine ok (m_aload_n (q := 34) rfl rfl rfl rfl) ?_
  have f_13 := Rp_f14_24 (D := (up (up (up D 3401 (1024 * i0 + 0) (D 2104 i4)) 3401 (1024 * i0 + 1) (D 2103 i4)) 3401 (1024 * i0 + 2) (D 2102 i4))) (i := i0) r10 f0
  refine ok (m_gfx (t := 14) (q := 37) (r := some (A 24 i0)) rfl rfl rfl r10 rfl f0 rfl rfl rfl) ?_
  refine ok (m_iconst (q := 38) rfl rfl rfl) ?_
  refine ok (m_aload_n (q := 39) rfl rfl rfl rfl) ?_
  refine ok (m_iload (q := 41) rfl rfl rfl rfl) ?_
  refine oke (e_ci (x_cv (q := 44) rfl rfl rfl rfl rfl rfl rfl rfl rfl rfl (is_ty r10 rfl f3)) (ev_X8_ageOn (D := (up (up (up D 3401 (1024 * i0 + 0) (D 2104 i4)) 3401 (1024 * i0 + 1) (D 2103 i4)) 3401 (1024 * i0 + 2) (D 2102 i4))) i3 a5 f3 h5) (Nat.le_trans (by decide) hd) r10) (fun s14 r15 => ?_)
  obtain ⟨g18, hp⟩ := hp
  refine oke (e_iat (t := 24) (q := 45) rfl rfl rfl r15 rfl f_13 rfl rfl rfl g18 (Ev_rg (ev_X8_ageOn (D := (up (up (up D 3401 (1024 * i0 + 0) (D 2104 i4)) 3401 (1024 * i0 + 1) (D 2103 i4)) 3401 (1024 * i0 + 2) (D 2102 i4))) i3 a5 f3 h5) r10)) (fun s17 r16 => ?_)
  refine ok (m_aload_n (q := 46) rfl rfl rfl rfl) ?_
  have f_19 := Rp_f14_24 (D := (up (up (up (up D 3401 (1024 * i0 + 0) (D 2104 i4)) 3401 (1024 * i0 + 1) (D 2103 i4)) 3401 (1024 * i0 + 2) (D 2102 i4)) 3401 (1024 * i0 + 3) (v_X8_ageOn (up (up (up D 3401 (1024 * i0 + 0) (D 2104 i4)) 3401 (1024 * i0 + 1) (D 2103 i4)) 3401 (1024 * i0 + 2) (D 2102 i4)) i3 a5))) (i := i0) r16 f0
  refine ok (m_gfx (t := 14) (q := 49) (r := some (A 24 i0)) rfl rfl rfl r16 rfl f0 rfl rfl rfl) ?_
  refine ok (m_iconst (q := 50) rfl rfl rfl) ?_
  refine ok (m_aload_n (q := 51) rfl rfl rfl rfl) ?_
  refine ok (m_gft (t := 10) (q := 54) (w := D 2002 i3) rfl rfl rfl r16 rfl f3 rfl rfl rfl) ?_
  refine oke (e_ci (x_cs (q := 57) rfl rfl rfl rfl rfl rfl rfl rfl rfl) (ev_J6_bitCount_0f7a4 (D := (up (up (up (up D 3401 (1024 * i0 + 0) (D 2104 i4)) 3401 (1024 * i0 + 1) (D 2103 i4)) 3401 (1024 * i0 + 2) (D 2102 i4)) 3401 (1024 * i0 + 3) (v_X8_ageOn (up (up (up D 3401 (1024 * i0 + 0) (D 2104 i4)) 3401 (1024 * i0 + 1) (D 2103 i4)) 3401 (1024 * i0 + 2) (D 2102 i4)) i3 a5))) (D 2002 i3) (show rg (D 2002 i3) from Rp_rg r16 2002 i3)) (Nat.le_trans (by decide) hd) r16) (fun s20 r21 => ?_)
  obtain ⟨g24, hp⟩ := hp
  refine oke (e_iat (t := 24) (q := 58) rfl rfl rfl r21 rfl f_19 rfl rfl rfl g24 (Ev_rg (ev_J6_bitCount_0f7a4 (D := (up (up (up (up D 3401 (1024 * i0 + 0) (D 2104 i4)) 3401 (1024 * i0 + 1) (D 2103 i4)) 3401 (1024 * i0 + 2) (D 2102 i4)) 3401 (1024 * i0 + 3) (v_X8_ageOn (up (up (up D 3401 (1024 * i0 + 0) (D 2104 i4)) 3401 (1024 * i0 + 1) (D 2103 i4)) 3401 (1024 * i0 + 2) (D 2102 i4)) i3 a5))) (D 2002 i3) (show rg (D 2002 i3) from Rp_rg r16 2002 i3)) r16)) (fun s23 r22 => ?_)
  refine ok (m_aload_n (q := 59) rfl rfl rfl rfl) ?_
  have f_25 := Rp_f14_24 (D := (up (up (up (up (up D 3401 (1024 * i0 + 0) (D 2104 i4)) 3401 (1024 * i0 + 1) (D 2103 i4)) 3401 (1024 * i0 + 2) (D 2102 i4)) 3401 (1024 * i0 + 3) (v_X8_ageOn (up (up (up D 3401 (1024 * i0 + 0) (D 2104 i4)) 3401 (1024 * i0 + 1) (D 2103 i4)) 3401 (1024 * i0 + 2) (D 2102 i4)) i3 a5)) 3401 (1024 * i0 + 4) (v_J6_bitCount_0f7a4 (up (up (up (up D 3401 (1024 * i0 + 0) (D 2104 i4)) 3401 (1024 * i0 + 1) (D 2103 i4)) 3401 (1024 * i0 + 2) (D 2102 i4)) 3401 (1024 * i0 + 3) (v_X8_ageOn (up (up (up D 3401 (1024 * i0 + 0) (D 2104 i4)) 3401 (1024 * i0 + 1) (D 2103 i4)) 3401 (1024 * i0 + 2) (D 2102 i4)) i3 a5)) (D 2002 i3)))) (i := i0) r22 f0
  refine ok (m_gfx (t := 14) (q := 62) (r := some (A 24 i0)) rfl rfl rfl r22 rfl f0 rfl rfl rfl) ?_
  refine ok (m_iconst (q := 63) rfl rfl rfl) ?_
  refine ok (m_iload (q := 65) rfl rfl rfl rfl) ?_
  obtain ⟨g28, hp⟩ := hp
  refine oke (e_iat (t := 24) (q := 66) rfl rfl rfl r22 rfl f_25 rfl rfl rfl g28 h5) (fun s27 r26 => ?_)
  refine ok (m_iconst (q := 67) rfl rfl rfl) ?_
  refine ok (m_istore (q := 69) (lo' := [some (am_r (some (A 14 i0))), some (am_i (wz a1)), some (am_i (wz a2)), some (am_r (some (A 10 i3))), some (am_r (some (A 11 i4))), some (am_i (wz a5)), some (am_i (wz 0)), none]) rfl rfl rfl rfl rfl) ?_
  refine ok (mk rfl (lo' := [some (am_r (some (A 14 i0))), some (am_i (wz a1)), some (am_i (wz a2)), none, none, none, some (am_i (wz 0)), none]) rfl) ?_
  exact hp d hd _ r26
set_option maxRecDepth 100000 in
theorem rl_X7_firstHolding_69 {n : Nat} {A : aA} {D D' : aD} (i0 : Int) (a1 : Int) (a2 : Int) (a6 : Int) (f0 : D 914 i0 = 1) (h1 : rg a1) (h2 : rg a2) (h6 : rg a6) {x : Option Nat} (hp : (if D 1002 (8 + i0) ≤ a6 then (x = none ∧ D' = D) else (0 ≤ a6 ∧ a6 < D 1002 (8 + i0)) ∧ (0 ≤ i0) ∧ (if D 2600 (64 * i0 + a6) = a1 then (if D 2601 (64 * i0 + a6) = a2 then (if D 2605 (64 * i0 + a6) = 0 then (x = some (A 16 (64 * i0 + a6)) ∧ D' = D) else (p_hX D i0 (64 * i0 + a6)) ∧ (if w_hX D i0 (64 * i0 + a6) = 0 then K_X7_firstHolding_69 (n + 2) A D i0 a1 a2 (wr (a6 + 1)) x D' else (x = some (A 16 (64 * i0 + a6)) ∧ D' = D))) else K_X7_firstHolding_69 (n + 2) A D i0 a1 a2 (wr (a6 + 1)) x D') else K_X7_firstHolding_69 (n + 2) A D i0 a1 a2 (wr (a6 + 1)) x D'))) : K_X7_firstHolding_69 (n + 2) A D i0 a1 a2 a6 x D' := by
  unfold K_X7_firstHolding_69
  refine fun d hd s hr => ?_
  refine ok (m_iload (q := 71) rfl rfl rfl rfl) ?_
  refine ok (m_aload_n (q := 72) rfl rfl rfl rfl) ?_
  have f_29 := Rp_f14_0 (D := D) (i := i0) hr f0
  refine ok (m_gfx (t := 14) (q := 75) (r := some (A 0 (8 + i0))) rfl rfl rfl hr rfl f0 rfl rfl rfl) ?_
  refine oke (e_ci (x_cv (q := 78) rfl rfl rfl rfl rfl rfl rfl rfl rfl rfl (is_ty hr rfl f_29)) (ev_size (8 + i0) f_29) (Nat.le_trans (by decide) hd) hr) (fun s30 r31 => ?_)
  refine okc (m_cmpge (qt := 142) (qf := 81) rfl rfl h6 (show rg (D 1002 (8 + i0)) from Rp_rg hr 1002 (8 + i0)) rfl rfl) (fun c32 => ?_) (fun c32 => ?_)
  · replace hp := ip c32 hp
    refine ok (m_aconst_null (q := 143) rfl rfl rfl) ?_
    exact ok (m_retr rfl rfl) (ok_rq r31 hp)
  · replace hp := iq c32 hp
    refine ok (m_aload_n (q := 82) rfl rfl rfl rfl) ?_
    have f_33 := Rp_f14_0 (D := D) (i := i0) r31 f0
    refine ok (m_gfx (t := 14) (q := 85) (r := some (A 0 (8 + i0))) rfl rfl rfl r31 rfl f0 rfl rfl rfl) ?_
    refine ok (m_iload (q := 87) rfl rfl rfl rfl) ?_
    obtain ⟨g36, hp⟩ := hp
    obtain ⟨g37, hp⟩ := hp
    have f_38 := Rp_elb (D := D) r31 g37 f_33 g36
    refine oke (e_cr (x_cv (q := 90) rfl rfl rfl rfl rfl rfl rfl rfl rfl rfl (is_ty r31 rfl f_33)) (ev_getb i0 a6 g37 f_33 g36) (Nat.le_trans (by decide) hd) r31) (fun s34 r35 => ?_)
    refine ok (m_cast (q := 93) rfl rfl rfl (isN_ty r35 rfl f_38)) ?_
    refine ok (m_astore (q := 95) (lo' := [some (am_r (some (A 14 i0))), some (am_i (wz a1)), some (am_i (wz a2)), none, none, none, some (am_i (wz a6)), some (am_r (some (A 16 (64 * i0 + a6))))]) rfl rfl rfl rfl rfl) ?_
    refine ok (m_aload (q := 97) rfl rfl rfl rfl) ?_
    refine ok (m_gft (t := 16) (q := 100) rfl rfl rfl r35 rfl f_38 rfl rfl rfl) ?_
    refine ok (m_iload_n (q := 101) rfl rfl rfl rfl) ?_
    refine okc (m_cmpne (qt := 136) (qf := 104) rfl rfl (show rg (D 2600 (64 * i0 + a6)) from Rp_rg r35 2600 (64 * i0 + a6)) h1 rfl rfl) (fun c39 => ?_) (fun c39 => ?_)
    · replace hp := ip c39 hp
      refine ok (m_aload (q := 106) rfl rfl rfl rfl) ?_
      refine ok (m_gft (t := 16) (q := 109) rfl rfl rfl r35 rfl f_38 rfl rfl rfl) ?_
      refine ok (m_iload_n (q := 110) rfl rfl rfl rfl) ?_
      refine okc (m_cmpne (qt := 136) (qf := 113) rfl rfl (show rg (D 2601 (64 * i0 + a6)) from Rp_rg r35 2601 (64 * i0 + a6)) h2 rfl rfl) (fun c40 => ?_) (fun c40 => ?_)
      · replace hp := ip c40 hp
        refine ok (m_aload (q := 115) rfl rfl rfl rfl) ?_
        have f_41 := Rp_f16_22 (D := D) (i := 64 * i0 + a6) r35 f_38
        refine ok (m_gfx (t := 16) (q := 118) (r := if D 2605 (64 * i0 + a6) = 0 then none else some (A 22 (64 * i0 + a6))) rfl rfl rfl r35 rfl f_38 rfl rfl rfl) ?_
        refine okc ((m_ifnull (qt := 133) (qf := 121) rfl rfl rfl rfl).trans (ifn_o r35 rfl f_41)) (fun c42 => ?_) (fun c42 => ?_)
        · replace hp := ip c42 hp
          refine ok (m_aload (q := 135) rfl rfl rfl rfl) ?_
          exact ok (m_retr rfl rfl) (ok_rq r35 hp)
        · replace hp := iq c42 hp
          refine ok (m_aload_n (q := 122) rfl rfl rfl rfl) ?_
          refine ok (m_aload (q := 124) rfl rfl rfl rfl) ?_
          have f_43 := Rp_f16_22 (D := D) (i := 64 * i0 + a6) r35 f_38 c42
          refine ok (m_gfx (t := 16) (q := 127) (r := some (A 22 (64 * i0 + a6))) rfl rfl rfl r35 rfl f_38 rfl rfl (if_neg c42)) ?_
          obtain ⟨g46, hp⟩ := hp
          refine oke (e_ci (x_cv (q := 130) rfl rfl rfl rfl rfl rfl rfl rfl rfl rfl (is_ty r35 rfl f0)) (ev_hX (D := D) i0 (64 * i0 + a6) f0 f_43 g46) (Nat.le_trans (by decide) hd) r35) (fun s44 r45 => ?_)
          refine okc (m_ifeq (qt := 136) (qf := 133) rfl rfl (Ev_rg (ev_hX (D := D) i0 (64 * i0 + a6) f0 f_43 g46) r35) rfl rfl) (fun c47 => ?_) (fun c47 => ?_)
          · replace hp := ip c47 hp
            refine ok (m_iinc (q := 139) (lo' := [some (am_r (some (A 14 i0))), some (am_i (wz a1)), some (am_i (wz a2)), none, none, none, some (am_i (wz (wr (a6 + 1)))), some (am_r (some (A 16 (64 * i0 + a6))))]) rfl rfl rfl rfl rfl rfl rfl) ?_
            refine ok (m_goto (q := 69) rfl rfl rfl) ?_
            refine ok (mk rfl (lo' := [some (am_r (some (A 14 i0))), some (am_i (wz a1)), some (am_i (wz a2)), none, none, none, some (am_i (wz (wr (a6 + 1)))), none]) rfl) ?_
            exact hp d hd _ r45
          · replace hp := iq c47 hp
            refine ok (m_aload (q := 135) rfl rfl rfl rfl) ?_
            exact ok (m_retr rfl rfl) (ok_rq r45 hp)
      · replace hp := iq c40 hp
        refine ok (m_iinc (q := 139) (lo' := [some (am_r (some (A 14 i0))), some (am_i (wz a1)), some (am_i (wz a2)), none, none, none, some (am_i (wz (wr (a6 + 1)))), some (am_r (some (A 16 (64 * i0 + a6))))]) rfl rfl rfl rfl rfl rfl rfl) ?_
        refine ok (m_goto (q := 69) rfl rfl rfl) ?_
        refine ok (mk rfl (lo' := [some (am_r (some (A 14 i0))), some (am_i (wz a1)), some (am_i (wz a2)), none, none, none, some (am_i (wz (wr (a6 + 1)))), none]) rfl) ?_
        exact hp d hd _ r35
    · replace hp := iq c39 hp
      refine ok (m_iinc (q := 139) (lo' := [some (am_r (some (A 14 i0))), some (am_i (wz a1)), some (am_i (wz a2)), none, none, none, some (am_i (wz (wr (a6 + 1)))), some (am_r (some (A 16 (64 * i0 + a6))))]) rfl rfl rfl rfl rfl rfl rfl) ?_
      refine ok (m_goto (q := 69) rfl rfl rfl) ?_
      refine ok (mk rfl (lo' := [some (am_r (some (A 14 i0))), some (am_i (wz a1)), some (am_i (wz a2)), none, none, none, some (am_i (wz (wr (a6 + 1)))), none]) rfl) ?_
      exact hp d hd _ r35
abbrev P_X12_firstOf : Nat → Option am_E := am_fy tb_X12_firstOf
def K_X12_firstOf_94 (n : Nat) (A : aA) (D : aD) (a1 : Int) (a2 : Int) (a6 : Int) (a7 : Int) (x : Int) (D' : aD) : Prop := Lp n 40 P_X12_firstOf 94 [some (am_r (some 70)), some (am_i (wz a1)), some (am_i (wz a2)), none, none, none, some (am_i (wz a6)), some (am_i (wz a7))] [] A D (ri x) A D'
set_option maxRecDepth 100000 in
theorem rl_X12_firstOf {n : Nat} {A : aA} {D D' : aD} (a1 : Int) (a2 : Int) (a3 : Int) (a4 : Int) (a5 : Int) (h1 : rg a1) (h2 : rg a2) (h3 : rg a3) (h4 : rg a4) (h5 : rg a5) {x : Int} (hp : (p_inv1 D a5) ∧ (0 ≤ a3 ∧ a3 < 30) ∧ (0 ≤ D 77 a3 ∧ D 77 a3 < 12) ∧ (p_X12_ageOn (up (up (up D 105 0 (D 79 a3)) 105 1 (D 78 a3)) 105 2 (D 75 (D 77 a3))) a4 a5) ∧ (0 ≤ a4 ∧ a4 < 24) ∧ (p_bits (up (up (up (up D 105 0 (D 79 a3)) 105 1 (D 78 a3)) 105 2 (D 75 (D 77 a3))) 105 3 (v_X12_ageOn (up (up (up D 105 0 (D 79 a3)) 105 1 (D 78 a3)) 105 2 (D 75 (D 77 a3))) a4 a5)) (D 72 a4)) ∧ K_X12_firstOf_94 (n + 2) A (up (up (up (up (up (up D 105 0 (D 79 a3)) 105 1 (D 78 a3)) 105 2 (D 75 (D 77 a3))) 105 3 (v_X12_ageOn (up (up (up D 105 0 (D 79 a3)) 105 1 (D 78 a3)) 105 2 (D 75 (D 77 a3))) a4 a5)) 105 4 (w_bits (up (up (up (up D 105 0 (D 79 a3)) 105 1 (D 78 a3)) 105 2 (D 75 (D 77 a3))) 105 3 (v_X12_ageOn (up (up (up D 105 0 (D 79 a3)) 105 1 (D 78 a3)) 105 2 (D 75 (D 77 a3))) a4 a5)) (D 72 a4))) 105 5 a5) a1 a2 (w_inForce D a5) (wr (30 * (w_inForce D a5))) x D') : Ev (n + 2) (41) 175 [am_r (some 70), am_i (wz a1), am_i (wz a2), am_i (wz a3), am_i (wz a4), am_i (wz a5)] A D (ri x) A D' := by
  refine Ev_of (c := 40) (P := P_X12_firstOf) (lo := [some (am_r (some 70)), some (am_i (wz a1)), some (am_i (wz a2)), some (am_i (wz a3)), some (am_i (wz a4)), some (am_i (wz a5)), none, none]) rfl rfl rfl (fun d hd s hr => ?_)
  refine ok (m_aload_n (q := 1) rfl rfl rfl rfl) ?_
  refine ok (m_iload (q := 3) rfl rfl rfl rfl) ?_
  obtain ⟨g3, hp⟩ := hp
  refine oke (e_ci (x_cv (q := 6) rfl rfl rfl rfl rfl rfl rfl rfl rfl rfl (is_st hr rfl rfl)) (ev_X12_inForce (D := D) a5 h5 g3) (Nat.le_trans (by decide) hd) hr) (fun s1 r2 => ?_)
  refine ok (m_istore (q := 8) (lo' := [some (am_r (some 70)), some (am_i (wz a1)), some (am_i (wz a2)), some (am_i (wz a3)), some (am_i (wz a4)), some (am_i (wz a5)), some (am_i (wz (w_inForce D a5))), none]) rfl rfl rfl rfl rfl) ?_
  refine ok (m_aload_n (q := 9) rfl rfl rfl rfl) ?_
  refine ok (m_gfc (q := 12) rfl rfl rfl r2 rfl rfl rfl) ?_
  refine ok (m_iconst (q := 13) rfl rfl rfl) ?_
  refine ok (m_aload_n (q := 14) rfl rfl rfl rfl) ?_
  refine ok (m_gfc (q := 17) rfl rfl rfl r2 rfl rfl rfl) ?_
  refine ok (m_iload_n (q := 18) rfl rfl rfl rfl) ?_
  obtain ⟨g4, hp⟩ := hp
  refine ok (m_ials (q := 19) rfl rfl rfl r2 rfl rfl g4 rfl) ?_
  refine oke (e_ias (q := 20) rfl rfl rfl r2 rfl rfl ⟨by decide, by decide⟩ (Rp_rg r2 79 a3)) (fun s6 r5 => ?_)
  refine ok (m_aload_n (q := 21) rfl rfl rfl rfl) ?_
  refine ok (m_gfc (q := 24) rfl rfl rfl r5 rfl rfl rfl) ?_
  refine ok (m_iconst (q := 25) rfl rfl rfl) ?_
  refine ok (m_aload_n (q := 26) rfl rfl rfl rfl) ?_
  refine ok (m_gfc (q := 29) rfl rfl rfl r5 rfl rfl rfl) ?_
  refine ok (m_iload_n (q := 30) rfl rfl rfl rfl) ?_
  refine ok (m_ials (q := 31) (w := D 78 a3) rfl rfl rfl r5 rfl rfl g4 rfl) ?_
  refine oke (e_ias (q := 32) rfl rfl rfl r5 rfl rfl ⟨by decide, by decide⟩ (show rg (D 78 a3) from Rp_rg r5 78 a3)) (fun s8 r7 => ?_)
  refine ok (m_aload_n (q := 33) rfl rfl rfl rfl) ?_
  refine ok (m_gfc (q := 36) rfl rfl rfl r7 rfl rfl rfl) ?_
  refine ok (m_iconst (q := 37) rfl rfl rfl) ?_
  refine ok (m_aload_n (q := 38) rfl rfl rfl rfl) ?_
  refine ok (m_gfc (q := 41) rfl rfl rfl r7 rfl rfl rfl) ?_
  refine ok (m_aload_n (q := 42) rfl rfl rfl rfl) ?_
  refine ok (m_gfc (q := 45) rfl rfl rfl r7 rfl rfl rfl) ?_
  refine ok (m_iload_n (q := 46) rfl rfl rfl rfl) ?_
  refine ok (m_ials (q := 47) (w := D 77 a3) rfl rfl rfl r7 rfl rfl g4 rfl) ?_
  obtain ⟨g9, hp⟩ := hp
  refine ok (m_ials (q := 48) (w := D 75 (D 77 a3)) rfl rfl rfl r7 rfl rfl g9 rfl) ?_
  refine oke (e_ias (q := 49) rfl rfl rfl r7 rfl rfl ⟨by decide, by decide⟩ (show rg (D 75 (D 77 a3)) from Rp_rg r7 75 (D 77 a3))) (fun s11 r10 => ?_)
  refine ok (m_aload_n (q := 50) rfl rfl rfl rfl) ?_
  refine ok (m_gfc (q := 53) rfl rfl rfl r10 rfl rfl rfl) ?_
  refine ok (m_iconst (q := 54) rfl rfl rfl) ?_
  refine ok (m_aload_n (q := 55) rfl rfl rfl rfl) ?_
  refine ok (m_iload (q := 57) rfl rfl rfl rfl) ?_
  refine ok (m_iload (q := 59) rfl rfl rfl rfl) ?_
  obtain ⟨g14, hp⟩ := hp
  refine oke (e_ci (x_cv (q := 62) rfl rfl rfl rfl rfl rfl rfl rfl rfl rfl (is_st r10 rfl rfl)) (ev_X12_ageOn (D := (up (up (up D 105 0 (D 79 a3)) 105 1 (D 78 a3)) 105 2 (D 75 (D 77 a3)))) a4 a5 h4 h5 g14) (Nat.le_trans (by decide) hd) r10) (fun s12 r13 => ?_)
  refine oke (e_ias (q := 63) rfl rfl rfl r13 rfl rfl ⟨by decide, by decide⟩ (Ev_rg (ev_X12_ageOn (D := (up (up (up D 105 0 (D 79 a3)) 105 1 (D 78 a3)) 105 2 (D 75 (D 77 a3)))) a4 a5 h4 h5 g14) r10)) (fun s16 r15 => ?_)
  refine ok (m_aload_n (q := 64) rfl rfl rfl rfl) ?_
  refine ok (m_gfc (q := 67) rfl rfl rfl r15 rfl rfl rfl) ?_
  refine ok (m_iconst (q := 68) rfl rfl rfl) ?_
  refine ok (m_aload_n (q := 69) rfl rfl rfl rfl) ?_
  refine ok (m_gfc (q := 72) rfl rfl rfl r15 rfl rfl rfl) ?_
  refine ok (m_iload (q := 74) rfl rfl rfl rfl) ?_
  obtain ⟨g17, hp⟩ := hp
  refine ok (m_ials (q := 75) (w := D 72 a4) rfl rfl rfl r15 rfl rfl g17 rfl) ?_
  obtain ⟨g20, hp⟩ := hp
  refine oke (e_ci (x_cs (q := 78) rfl rfl rfl rfl rfl rfl rfl rfl rfl) (ev_X12_bits (D := (up (up (up (up D 105 0 (D 79 a3)) 105 1 (D 78 a3)) 105 2 (D 75 (D 77 a3))) 105 3 (v_X12_ageOn (up (up (up D 105 0 (D 79 a3)) 105 1 (D 78 a3)) 105 2 (D 75 (D 77 a3))) a4 a5))) (D 72 a4) (show rg (D 72 a4) from Rp_rg r15 72 a4) g20) (Nat.le_trans (by decide) hd) r15) (fun s18 r19 => ?_)
  refine oke (e_ias (q := 79) rfl rfl rfl r19 rfl rfl ⟨by decide, by decide⟩ (Ev_rg (ev_X12_bits (D := (up (up (up (up D 105 0 (D 79 a3)) 105 1 (D 78 a3)) 105 2 (D 75 (D 77 a3))) 105 3 (v_X12_ageOn (up (up (up D 105 0 (D 79 a3)) 105 1 (D 78 a3)) 105 2 (D 75 (D 77 a3))) a4 a5))) (D 72 a4) (show rg (D 72 a4) from Rp_rg r15 72 a4) g20) r15)) (fun s22 r21 => ?_)
  refine ok (m_aload_n (q := 80) rfl rfl rfl rfl) ?_
  refine ok (m_gfc (q := 83) rfl rfl rfl r21 rfl rfl rfl) ?_
  refine ok (m_iconst (q := 84) rfl rfl rfl) ?_
  refine ok (m_iload (q := 86) rfl rfl rfl rfl) ?_
  refine oke (e_ias (q := 87) rfl rfl rfl r21 rfl rfl ⟨by decide, by decide⟩ h5) (fun s24 r23 => ?_)
  refine ok (m_bipush (q := 89) rfl rfl rfl) ?_
  refine ok (m_iload (q := 91) rfl rfl rfl rfl) ?_
  refine ok (m_imul (q := 92) rfl rfl rfl) ?_
  refine ok (m_istore (q := 94) (lo' := [some (am_r (some 70)), some (am_i (wz a1)), some (am_i (wz a2)), some (am_i (wz a3)), some (am_i (wz a4)), some (am_i (wz a5)), some (am_i (wz (w_inForce D a5))), some (am_i (wz (wr (30 * (w_inForce D a5)))))]) rfl rfl rfl rfl rfl) ?_
  refine ok (mk rfl (lo' := [some (am_r (some 70)), some (am_i (wz a1)), some (am_i (wz a2)), none, none, none, some (am_i (wz (w_inForce D a5))), some (am_i (wz (wr (30 * (w_inForce D a5)))))]) rfl) ?_
  exact hp d hd _ r23
set_option maxRecDepth 100000 in
theorem rl_X12_firstOf_94 {n : Nat} {A : aA} {D D' : aD} (a1 : Int) (a2 : Int) (a6 : Int) (a7 : Int) (h1 : rg a1) (h2 : rg a2) (h6 : rg a6) (h7 : rg a7) {x : Int} (hp : (if a6 = (-1) then (x = (-1) ∧ D' = D) else (0 ≤ a6 ∧ a6 < 9) ∧ (if wr ((wr (30 * a6)) + (D 92 a6)) ≤ a7 then (x = (-1) ∧ D' = D) else (0 ≤ a7 ∧ a7 < 270) ∧ (if D 94 a7 = a1 then (if D 95 a7 = a2 then (if D 98 a7 = (-1) then (x = a7 ∧ D' = D) else (p_hM D (D 98 a7)) ∧ (if w_hM D (D 98 a7) = 0 then K_X12_firstOf_94 (n + 2) A D a1 a2 a6 (wr (a7 + 1)) x D' else (x = a7 ∧ D' = D))) else K_X12_firstOf_94 (n + 2) A D a1 a2 a6 (wr (a7 + 1)) x D') else K_X12_firstOf_94 (n + 2) A D a1 a2 a6 (wr (a7 + 1)) x D')))) : K_X12_firstOf_94 (n + 2) A D a1 a2 a6 a7 x D' := by
  unfold K_X12_firstOf_94
  refine fun d hd s hr => ?_
  refine ok (m_iload (q := 96) rfl rfl rfl rfl) ?_
  refine ok (m_iconst (q := 97) rfl rfl rfl) ?_
  refine okc (m_cmpeq (qt := 174) (qf := 100) rfl rfl h6 ⟨by decide, by decide⟩ rfl rfl) (fun c25 => ?_) (fun c25 => ?_)
  · replace hp := ip c25 hp
    refine ok (m_iconst (q := 175) rfl rfl rfl) ?_
    exact ok (m_reti rfl rfl) (ok_iq hr ⟨by decide, by decide⟩ hp)
  · replace hp := iq c25 hp
    refine ok (m_iload (q := 102) rfl rfl rfl rfl) ?_
    refine ok (m_bipush (q := 104) rfl rfl rfl) ?_
    refine ok (m_iload (q := 106) rfl rfl rfl rfl) ?_
    refine ok (m_imul (q := 107) rfl rfl rfl) ?_
    refine ok (m_aload_n (q := 108) rfl rfl rfl rfl) ?_
    refine ok (m_gfc (q := 111) rfl rfl rfl hr rfl rfl rfl) ?_
    refine ok (m_iload (q := 113) rfl rfl rfl rfl) ?_
    obtain ⟨g26, hp⟩ := hp
    refine ok (m_ials (q := 114) rfl rfl rfl hr rfl rfl g26 rfl) ?_
    refine ok (m_iadd (q := 115) rfl rfl rfl) ?_
    refine okc (m_cmpge (qt := 174) (qf := 118) rfl rfl h7 (rg_wr _) rfl rfl) (fun c27 => ?_) (fun c27 => ?_)
    · replace hp := ip c27 hp
      refine ok (m_iconst (q := 175) rfl rfl rfl) ?_
      exact ok (m_reti rfl rfl) (ok_iq hr ⟨by decide, by decide⟩ hp)
    · replace hp := iq c27 hp
      refine ok (m_aload_n (q := 119) rfl rfl rfl rfl) ?_
      refine ok (m_gfc (q := 122) rfl rfl rfl hr rfl rfl rfl) ?_
      refine ok (m_iload (q := 124) rfl rfl rfl rfl) ?_
      obtain ⟨g28, hp⟩ := hp
      refine ok (m_ials (q := 125) rfl rfl rfl hr rfl rfl g28 rfl) ?_
      refine ok (m_iload_n (q := 126) rfl rfl rfl rfl) ?_
      refine okc (m_cmpne (qt := 168) (qf := 129) rfl rfl (Rp_rg hr 94 a7) h1 rfl rfl) (fun c29 => ?_) (fun c29 => ?_)
      · replace hp := ip c29 hp
        refine ok (m_aload_n (q := 130) rfl rfl rfl rfl) ?_
        refine ok (m_gfc (q := 133) rfl rfl rfl hr rfl rfl rfl) ?_
        refine ok (m_iload (q := 135) rfl rfl rfl rfl) ?_
        refine ok (m_ials (q := 136) rfl rfl rfl hr rfl rfl g28 rfl) ?_
        refine ok (m_iload_n (q := 137) rfl rfl rfl rfl) ?_
        refine okc (m_cmpne (qt := 168) (qf := 140) rfl rfl (Rp_rg hr 95 a7) h2 rfl rfl) (fun c30 => ?_) (fun c30 => ?_)
        · replace hp := ip c30 hp
          refine ok (m_aload_n (q := 141) rfl rfl rfl rfl) ?_
          refine ok (m_gfc (q := 144) rfl rfl rfl hr rfl rfl rfl) ?_
          refine ok (m_iload (q := 146) rfl rfl rfl rfl) ?_
          refine ok (m_ials (q := 147) rfl rfl rfl hr rfl rfl g28 rfl) ?_
          refine ok (m_iconst (q := 148) rfl rfl rfl) ?_
          refine okc (m_cmpeq (qt := 165) (qf := 151) rfl rfl (Rp_rg hr 98 a7) ⟨by decide, by decide⟩ rfl rfl) (fun c31 => ?_) (fun c31 => ?_)
          · replace hp := ip c31 hp
            refine ok (m_iload (q := 167) rfl rfl rfl rfl) ?_
            exact ok (m_reti rfl rfl) (ok_iq hr h7 hp)
          · replace hp := iq c31 hp
            refine ok (m_aload_n (q := 152) rfl rfl rfl rfl) ?_
            refine ok (m_aload_n (q := 153) rfl rfl rfl rfl) ?_
            refine ok (m_gfc (q := 156) rfl rfl rfl hr rfl rfl rfl) ?_
            refine ok (m_iload (q := 158) rfl rfl rfl rfl) ?_
            refine ok (m_ials (q := 159) rfl rfl rfl hr rfl rfl g28 rfl) ?_
            obtain ⟨g34, hp⟩ := hp
            refine oke (e_ci (x_cv (q := 162) rfl rfl rfl rfl rfl rfl rfl rfl rfl rfl (is_st hr rfl rfl)) (ev_hM (D := D) (D 98 a7) (Rp_rg hr 98 a7) g34) (Nat.le_trans (by decide) hd) hr) (fun s32 r33 => ?_)
            refine okc (m_ifeq (qt := 168) (qf := 165) rfl rfl (Ev_rg (ev_hM (D := D) (D 98 a7) (Rp_rg hr 98 a7) g34) hr) rfl rfl) (fun c35 => ?_) (fun c35 => ?_)
            · replace hp := ip c35 hp
              refine ok (m_iinc (q := 171) (lo' := [some (am_r (some 70)), some (am_i (wz a1)), some (am_i (wz a2)), none, none, none, some (am_i (wz a6)), some (am_i (wz (wr (a7 + 1))))]) rfl rfl rfl rfl rfl rfl rfl) ?_
              refine ok (m_goto (q := 94) rfl rfl rfl) ?_
              exact hp d hd _ r33
            · replace hp := iq c35 hp
              refine ok (m_iload (q := 167) rfl rfl rfl rfl) ?_
              exact ok (m_reti rfl rfl) (ok_iq r33 h7 hp)
        · replace hp := iq c30 hp
          refine ok (m_iinc (q := 171) (lo' := [some (am_r (some 70)), some (am_i (wz a1)), some (am_i (wz a2)), none, none, none, some (am_i (wz a6)), some (am_i (wz (wr (a7 + 1))))]) rfl rfl rfl rfl rfl rfl rfl) ?_
          refine ok (m_goto (q := 94) rfl rfl rfl) ?_
          exact hp d hd _ hr
      · replace hp := iq c29 hp
        refine ok (m_iinc (q := 171) (lo' := [some (am_r (some 70)), some (am_i (wz a1)), some (am_i (wz a2)), none, none, none, some (am_i (wz a6)), some (am_i (wz (wr (a7 + 1))))]) rfl rfl rfl rfl rfl rfl rfl) ?_
        refine ok (m_goto (q := 94) rfl rfl rfl) ?_
        exact hp d hd _ hr
/-- the six facts -/
def fct (D : aD) (s p d : Int) (j : Int) : Int := if j = 0 then D 79 p else if j = 1 then D 78 p else if j = 2 then D 75 (D 77 p) else if j = 3 then v_X12_ageOn D s d else if j = 4 then bs 8 (D 72 s) else d
def cT (D : aD) (k : Int) (f : Int → Int) : Prop := D 98 k = -1 ∨ ∃ φ : Tf, HM D (D 70 27) 40 (D 98 k) φ ∧ φ f = true
noncomputable def fhP (D : aD) (r what which : Int) (f : Int → Int) (j : Int) : Bool := @decide (D 94 (30 * r + j) = what ∧ D 95 (30 * r + j) = which ∧ cT D (30 * r + j) f) (Classical.propDecidable _)
theorem fhP_t {r what which j : Int} {f : Int → Int} (h : D 94 (30 * r + j) = what ∧ D 95 (30 * r + j) = which ∧ cT D (30 * r + j) f) : fhP D r what which f j = true := @decide_eq_true _ (Classical.propDecidable _) h
theorem fhP_f {r what which j : Int} {f : Int → Int} (h : ¬ (D 94 (30 * r + j) = what ∧ D 95 (30 * r + j) = which ∧ cT D (30 * r + j) f)) : fhP D r what which f j = false := @decide_eq_false _ (Classical.propDecidable _) h
noncomputable def fh (D : aD) (r what which s p d : Int) : Int := if r = -1 then -1 else fsi (fhP D r what which (fct D s p d)) 0 (D 92 r)
theorem fh_b {r what which s p d : Int} : fh D r what which s p d = -1 ∨ (0 ≤ fh D r what which s p d ∧ fh D r what which s p d < D 92 r ∧ ¬ r = -1 ∧ D 94 (30 * r + fh D r what which s p d) = what ∧ D 95 (30 * r + fh D r what which s p d) = which) := by
  unfold fh
  by_cases c : r = -1
  · rw [if_pos c]; exact Or.inl rfl
  · rw [if_neg c]
    rcases fsi_spec (p := fhP D r what which (fct D s p d)) (N := D 92 r) 0 with h | h
    · exact Or.inl h.1
    · have := @of_decide_eq_true _ (Classical.propDecidable _) h.2.2.1
      exact Or.inr ⟨h.1, h.2.1, c, this.1, this.2.1⟩
theorem age_eq {s d : Int} (hI : Iv D) (s0 : 0 ≤ s) (s1 : s < D 70 1) (d0 : 0 ≤ d) (d1 : d ≤ 999) : v_X8_ageOn D s d = v_X12_ageOn D s d ∧ 0 ≤ v_X12_ageOn D s d ∧ v_X12_ageOn D s d ≤ 60 := by
  have h := hI.sv s s0 s1
  unfold v_X8_ageOn v_X12_ageOn
  rw [h.2.1, wr_id (z := d - D 71 s) (by omega) (by omega)]
  by_cases c : 0 ≤ d - D 71 s
  · rw [Int.max_eq_right c, Int.tdiv_eq_ediv_of_nonneg c, wr_id (by omega) (by omega)]; omega
  · rw [Int.max_eq_left (by omega)]
    have e : (d - D 71 s).tdiv 365 = -((D 71 s - d) / 365) := by
      rw [show d - D 71 s = -(D 71 s - d) by omega, Int.neg_tdiv, Int.tdiv_eq_ediv_of_nonneg (by omega)]
    have e0 : (0 : Int).tdiv 365 = 0 := by decide
    rw [e, e0, wr_id (z := -_) (by omega) (by omega), wr_id (by omega) (by omega)]
    omega
def p_fh (D : aD) (b kind _ s p d : Int) : Prop := Inv D ∧ (0 ≤ b ∧ (b < D 70 26 ∨ b = 8)) ∧ (kind = 0 ∨ kind = 4) ∧ (0 ≤ s ∧ s < D 70 1) ∧ (0 ≤ p ∧ p < D 70 3) ∧ 0 ≤ d ∧ d ≤ 999
def rr_ (b : Int) : Int := if b = 8 then -1 else b
/-- the class's statement, -1: none -/
noncomputable def w_fhX (D : aD) (b kind which s p d : Int) : Int := if fh D (rr_ b) kind which s p d = -1 then -1 else 64 * b + fh D (rr_ b) kind which s p d
theorem bok_hd (hI : Inv D) {b : Int} (hb : 0 ≤ b ∧ (b < D 70 26 ∨ b = 8)) : Hdr D b (rr_ b) ∧ (¬ rr_ b = -1 → rr_ b = b ∧ b < D 70 26 ∧ Bok D b) ∧ (rr_ b = -1 → b = 8 ∧ D 1002 (8 + b) = 0) := by
  have hc := hI.rb.1
  unfold rr_
  by_cases c : b = 8
  · rw [if_pos c]
    subst c
    exact ⟨hI.rb.2.2.2.1, fun q => absurd rfl q, fun _ => ⟨rfl, hI.rb.2.2.2.2.2⟩⟩
  · rw [if_neg c]
    have := (hI.rb.2.2.1 b (by omega) (by omega)).2
    exact ⟨this.1, fun _ => ⟨rfl, by omega, this⟩, fun q => by omega⟩
/-- the facts as the class writes them -/
def upF (D : aD) (c : Nat) (z : Int) (g : Int → Int) : aD := up (up (up (up (up (up D c (z + 0) (g 0)) c (z + 1) (g 1)) c (z + 2) (g 2)) c (z + 3) (g 3)) c (z + 4) (g 4)) c (z + 5) (g 5)
theorem upF_c {c c' : Nat} {z : Int} {g : Int → Int} (h : c' ≠ c) : upF D c z g c' = D c' := by
  unfold upF; rw [up_cf h, up_cf h, up_cf h, up_cf h, up_cf h, up_cf h]
theorem upF_i {c : Nat} {z j : Int} {g : Int → Int} (h0 : 0 ≤ j) (h1 : j < 6) : upF D c z g c (z + j) = g j := by
  unfold upF up
  rcases (by omega : j = 0 ∨ j = 1 ∨ j = 2 ∨ j = 3 ∨ j = 4 ∨ j = 5) with rfl | rfl | rfl | rfl | rfl | rfl <;> simp <;> (repeat' split) <;> first | rfl | omega
theorem K_fhX {F : aD} {b kind which s p d : Int} (hp : p_fh D b kind which s p d) (h1 : rg kind) (h2 : rg which) (f0 : F 914 b = 1) (hF : ∀ c, c ≠ 3401 → F c = D c) (hf : ∀ j, 0 ≤ j → j < 6 → F 3401 (1024 * b + j) = fct D s p d j) : K_X7_firstHolding_69 (n + 2) A F b kind which 0 (nr A 16 (w_fhX D b kind which s p d)) F := by
  obtain ⟨hI, hb, hk, hs, hq, hd⟩ := hp
  have hB := bok_hd hI hb
  have hc := hI.rb.1
  by_cases cr : rr_ b = -1
  · have h8 := hB.2.2 cr
    refine rl_X7_firstHolding_69 _ _ _ _ f0 h1 h2 (rgb (by omega) (by omega)) ?_
    rw [hF 1002 (by decide), if_pos (by omega)]
    refine ⟨?_, rfl⟩
    unfold w_fhX fh
    rw [if_pos cr, if_pos rfl]; rfl
  obtain ⟨e0, b1, hB1, hB2, hB3, hB4⟩ := hB.2.1 cr
  have ev : nr A 16 (w_fhX D b kind which s p d) = if fsi (fhP D b kind which (fct D s p d)) 0 (D 92 b) = -1 then none else some (A 16 (64 * b + fsi (fhP D b kind which (fct D s p d)) 0 (D 92 b))) := by
    unfold w_fhX fh
    rw [if_neg cr, e0]
    rcases fsi_spec (p := fhP D b kind which (fct D s p d)) (N := D 92 b) 0 with q | q
    · rw [if_pos q.1, if_pos q.1]; rfl
    · rw [if_neg (by omega), if_neg (by omega)]; exact nr_s (by omega)
  rw [ev]
  refine dn_ind (K := fun j => K_X7_firstHolding_69 (n + 2) A F b kind which j (if fsi (fhP D b kind which (fct D s p d)) j (D 92 b) = -1 then none else some (A 16 (64 * b + fsi (fhP D b kind which (fct D s p d)) j (D 92 b)))) F) (lo := 0) (N := D 92 b) ?_ ?_ 0 (by omega) (by omega)
  · refine rl_X7_firstHolding_69 _ _ _ _ f0 h1 h2 (rgb (by omega) (by omega)) ?_
    rw [hF 1002 (by decide), if_pos (by omega), fsi_end (Int.le_refl _), if_pos rfl]; exact ⟨rfl, rfl⟩
  · intro j j0 j1 ih
    have hS := hB4 j j0 j1
    refine rl_X7_firstHolding_69 _ _ _ _ f0 h1 h2 (rgb (by omega) (by omega)) ?_
    rw [hF 1002 (by decide), hF 2600 (by decide), hF 2601 (by decide), hF 2605 (by decide), if_neg (by omega), wr1 j0 j1 (by omega), hS.1, hS.2.1]
    refine ⟨⟨by omega, by omega⟩, hb.1, ?_⟩
    by_cases c1 : D 94 (30 * b + j) = kind
    · rw [if_pos c1]
      by_cases c2 : D 95 (30 * b + j) = which
      · rw [if_pos c2]
        have hC := hS.2.2.2.2.2.2.2.2.2 (by omega)
        rcases hC with ⟨q1, q2⟩ | ⟨q1, φ, q2, q3⟩
        · rw [if_pos q1, fsi_t j1 (fhP_t ⟨c1, c2, Or.inl q2⟩), if_neg (by omega)]; exact ⟨rfl, rfl⟩
        · rw [if_neg q1]
          have q2' : XC F (64 * b + j) φ := XC_cg (by rw [hF 3200 (by decide)]) (fun i _ _ => by rw [hF 3201 (by decide)]) q2
          have hk1 := HM_k q3
          refine ⟨⟨⟨φ, q2'⟩, by rw [hF 3400 (by decide)]; exact hB1.2.2.2.1⟩, ?_⟩
          have ew : w_hX F b (64 * b + j) = if φ (fct D s p d) = true then 1 else 0 := by
            unfold w_hX
            rw [(q2'.2.2 _).2, HM_six _ _ _ q3 _ (fct D s p d) hf]
          rw [ew]
          by_cases c3 : φ (fct D s p d) = true
          · rw [if_pos c3, if_neg (by decide), fsi_t j1 (fhP_t ⟨c1, c2, Or.inr ⟨φ, q3, c3⟩⟩), if_neg (by omega)]; exact ⟨rfl, rfl⟩
          · rw [if_neg c3, if_pos rfl, fsi_f j1 (fhP_f (fun q => ?_))]
            · exact ih
            · rcases q.2.2 with z | ⟨ψ, z1, z2⟩
              · omega
              · rw [HM_fun _ _ _ _ z1 q3] at z2; exact c3 z2
      · rw [if_neg c2, fsi_f j1 (fhP_f (fun q => c2 q.2.1))]; exact ih
    · rw [if_neg c1, fsi_f j1 (fhP_f (fun q => c1 q.1))]; exact ih
theorem ev_X7_firstHolding (b kind which s p d : Int) (f0 : D 914 b = 1) (h1 : rg kind) (h2 : rg which) (f3 : D 910 s = 1) (f4 : D 911 p = 1) (h5 : rg d) (hp : p_fh D b kind which s p d) : Ev 1 5 63 [am_r (some (A 14 b)), am_i (wz kind), am_i (wz which), am_r (some (A 10 s)), am_r (some (A 11 p)), am_i (wz d)] A D (rr (nr A 16 (w_fhX D b kind which s p d))) A D := by
  refine Ev_pure (n := 1) (m := 2) (by decide) (fun F hF => ?_)
  have hm := Sm_le hF
  have hpF : p_fh F b kind which s p d := by
    obtain ⟨a1, a2, a3, a4, a5, a6⟩ := hp
    refine ⟨Inv_cg hm a1, ?_⟩
    rw [hm 70 rfl]; exact ⟨a2, a3, a4, a5, a6⟩
  have ex : w_fhX F b kind which s p d = w_fhX D b kind which s p d := by
    have e1 : fct F s p d = fct D s p d := by
      funext j; unfold fct v_X12_ageOn; rw [hm 79 rfl, hm 78 rfl, hm 75 rfl, hm 77 rfl, hm 71 rfl, hm 72 rfl]
    have e2 : ∀ r, fhP F r kind which (fct D s p d) = fhP D r kind which (fct D s p d) := by
      intro r; funext j
      have e3 : cT F (30 * r + j) (fct D s p d) ↔ cT D (30 * r + j) (fct D s p d) := by
        unfold cT
        rw [hm 98 rfl, hm 70 rfl]
        have e4 : ∀ φ, HM F (D 70 27) 40 (D 98 (30 * r + j)) φ ↔ HM D (D 70 27) 40 (D 98 (30 * r + j)) φ := fun φ =>
          ⟨HM_cg (Int.le_refl _) (fun i _ _ => ⟨by rw [hm 99 rfl], by rw [hm 100 rfl], by rw [hm 101 rfl], by rw [hm 102 rfl], by rw [hm 103 rfl], by rw [hm 104 rfl]⟩) _ _ _, HM_cg (Int.le_refl _) (fun i _ _ => ⟨by rw [hm 99 rfl], by rw [hm 100 rfl], by rw [hm 101 rfl], by rw [hm 102 rfl], by rw [hm 103 rfl], by rw [hm 104 rfl]⟩) _ _ _⟩
        simp only [e4]
      by_cases q : D 94 (30 * r + j) = kind ∧ D 95 (30 * r + j) = which ∧ cT D (30 * r + j) (fct D s p d)
      · rw [fhP_t q, fhP_t (by rw [hm 94 rfl, hm 95 rfl, e3]; exact q)]
      · rw [fhP_f q, fhP_f (by rw [hm 94 rfl, hm 95 rfl, e3]; exact q)]
    unfold w_fhX fh
    rw [e1, e2, hm 92 rfl]
  obtain ⟨hI, hb, hk, hs, hq, hd⟩ := id hpF
  have hB := bok_hd hI hb
  have h6 : F 3400 b = 6 := hB.1.2.2.2.1
  have hsv := hI.iv.sv s hs.1 hs.2
  have hpl := hI.iv.pl p hq.1 hq.2
  refine ⟨upF F 3401 (1024 * b) (fct F s p d), ?_, fun c hc => ?_⟩
  · have K := K_fhX (n := 0) (A := A) (F := upF F 3401 (1024 * b) (fct F s p d)) hpF h1 h2 (by rw [upF_c (by decide), hm 914 rfl]; exact f0) (fun c hc => upF_c hc) (fun j j0 j1 => upF_i j0 j1)
    rw [ex] at K
    refine rl_X7_firstHolding b kind which s p d (by rw [hm 914 rfl]; exact f0) h1 h2 (by rw [hm 910 rfl]; exact f3) (by rw [hm 911 rfl]; exact f4) h5 ⟨⟨by omega, by omega⟩, ⟨by omega, by omega⟩, ⟨by omega, by omega⟩, ⟨by omega, by omega⟩, ⟨by omega, by omega⟩, ⟨by omega, by omega⟩, ?_⟩
    have e : upF F 3401 (1024 * b) (fct F s p d) = up (up (up (up (up (up F 3401 (1024 * b + 0) (F 2104 p)) 3401 (1024 * b + 1) (F 2103 p)) 3401 (1024 * b + 2) (F 2102 p)) 3401 (1024 * b + 3) (v_X8_ageOn F s d)) 3401 (1024 * b + 4) (v_J6_bitCount_0f7a4 F (F 2002 s))) 3401 (1024 * b + 5) d := by
      rw [hpl.2.2.2.2.1, hpl.2.2.2.1, hpl.2.2.1, (age_eq hI.iv hs.1 hs.2 hd.1 hd.2).1, hsv.2.2.1, bc_eq (by omega) (by omega)]; rfl
    have K2 := K
    rw [e] at K2
    rw [e]
    exact K2
  · rw [upF_c (fun q => by rw [q] at hc; cases hc)]; exact hF c hc
theorem fg_fhX {s' : am_S} (b kind which s p d : Int) (f0 : D 914 b = 1) (_ : rg kind) (_ : rg which) (_ : D 910 s = 1) (_ : D 911 p = 1) (_ : rg d) (hp : p_fh D b kind which s p d) (hr : Rp n A D s') : 0 ≤ w_fhX D b kind which s p d → D 916 (w_fhX D b kind which s p d) = 1 := fun q => by
  have hB := bok_hd hp.1 hp.2.1
  unfold w_fhX at *
  rcases fh_b (D := D) (r := rr_ b) (what := kind) (which := which) (s := s) (p := p) (d := d) with h | h
  · rw [if_pos h] at q; omega
  · obtain ⟨e0, b1, hB1, hB2, hB3, hB4⟩ := hB.2.1 h.2.2.1
    rw [if_neg (by omega)]
    rw [e0] at h ⊢
    exact Rp_elb hr hp.2.1.1 (Rp_f14_0 hr f0) ⟨h.1, by omega⟩
abbrev P_X7_fee : Nat → Option am_E := am_fy tb_X7_fee
noncomputable def v_X7_fee (D : aD) (i0 : Int) (a1 : Int) (i2 : Int) (i3 : Int) (a4 : Int) : Int := if w_fhX D i0 0 a1 i2 i3 a4 < 0 then 0 else wr ((D 2603 (w_fhX D i0 0 a1 i2 i3 a4)) + (wr ((wr ((D 2104 i3) * (D 2604 (w_fhX D i0 0 a1 i2 i3 a4)))).tdiv 100)))
def p_X7_fee (D : aD) (i0 : Int) (a1 : Int) (i2 : Int) (i3 : Int) (a4 : Int) : Prop := (p_fh D i0 0 a1 i2 i3 a4)
set_option maxRecDepth 100000 in
theorem ev_X7_fee {A : aA} {D : aD} (i0 : Int) (a1 : Int) (i2 : Int) (i3 : Int) (a4 : Int) (f0 : D 914 i0 = 1) (h1 : rg a1) (f2 : D 910 i2 = 1) (f3 : D 911 i3 = 1) (h4 : rg a4) (hp : p_X7_fee D i0 a1 i2 i3 a4) : Ev (1) 6 59 [am_r (some (A 14 i0)), am_i (wz a1), am_r (some (A 10 i2)), am_r (some (A 11 i3)), am_i (wz a4)] A D (ri (v_X7_fee D i0 a1 i2 i3 a4)) A D := by
  unfold p_X7_fee at hp
  unfold v_X7_fee
  refine Ev_of (c := 5) (P := P_X7_fee) (lo := [some (am_r (some (A 14 i0))), some (am_i (wz a1)), some (am_r (some (A 10 i2))), some (am_r (some (A 11 i3))), some (am_i (wz a4)), none]) rfl rfl rfl (fun d hd s hr => ?_)
  refine ok (m_aload_n (q := 1) rfl rfl rfl rfl) ?_
  refine ok (m_iconst (q := 2) rfl rfl rfl) ?_
  refine ok (m_iload_n (q := 3) rfl rfl rfl rfl) ?_
  refine ok (m_aload_n (q := 4) rfl rfl rfl rfl) ?_
  refine ok (m_aload_n (q := 5) rfl rfl rfl rfl) ?_
  refine ok (m_iload (q := 7) rfl rfl rfl rfl) ?_
  have g3 := hp
  refine oke (e_cr (x_cv (q := 10) rfl rfl rfl rfl rfl rfl rfl rfl rfl rfl (is_ty hr rfl f0)) (ev_X7_firstHolding (D := D) i0 0 a1 i2 i3 a4 f0 ⟨by decide, by decide⟩ h1 f2 f3 h4 g3) (Nat.le_trans (by decide) hd) hr) (fun s1 r2 => ?_)
  refine ok (m_astore (q := 12) (lo' := [some (am_r (some (A 14 i0))), some (am_i (wz a1)), some (am_r (some (A 10 i2))), some (am_r (some (A 11 i3))), some (am_i (wz a4)), some (am_r (nr A 16 (w_fhX D i0 0 a1 i2 i3 a4)))]) rfl rfl rfl rfl rfl) ?_
  refine ok (m_aload (q := 14) rfl rfl rfl rfl) ?_
  refine okp ((m_ifnonnull (qt := 21) (qf := 17) rfl rfl rfl rfl).trans (ifn_n r2 rfl (fg_fhX (D := D) i0 0 a1 i2 i3 a4 f0 ⟨by decide, by decide⟩ h1 f2 f3 h4 g3 hr))) (fun c4 => ?_) (fun c4 => ?_)
  · refine ok (m_iconst (q := 18) rfl rfl rfl) ?_
    refine ok (m_goto (q := 40) rfl rfl rfl) ?_
    exact ok (m_reti rfl rfl) (ok_i r2 ⟨by decide, by decide⟩)
  · refine ok (o' := mr d P_X7_fee 21 [some (am_r (some (A 14 i0))), some (am_i (wz a1)), some (am_r (some (A 10 i2))), some (am_r (some (A 11 i3))), some (am_i (wz a4)), some (am_r (some (A 16 (w_fhX D i0 0 a1 i2 i3 a4))))] [] s1) (by rw [nr_s (Int.not_lt.mp c4)]; try rfl) ?_
    refine ok (m_aload (q := 23) rfl rfl rfl rfl) ?_
    refine ok (m_gft (t := 16) (q := 26) rfl rfl rfl r2 rfl ((fg_fhX (D := D) i0 0 a1 i2 i3 a4 f0 ⟨by decide, by decide⟩ h1 f2 f3 h4 g3 hr) (Int.not_lt.mp c4)) rfl rfl rfl) ?_
    refine ok (m_aload_n (q := 27) rfl rfl rfl rfl) ?_
    refine ok (m_gft (t := 11) (q := 30) rfl rfl rfl r2 rfl f3 rfl rfl rfl) ?_
    refine ok (m_aload (q := 32) rfl rfl rfl rfl) ?_
    refine ok (m_gft (t := 16) (q := 35) rfl rfl rfl r2 rfl ((fg_fhX (D := D) i0 0 a1 i2 i3 a4 f0 ⟨by decide, by decide⟩ h1 f2 f3 h4 g3 hr) (Int.not_lt.mp c4)) rfl rfl rfl) ?_
    refine ok (m_imul (q := 36) rfl rfl rfl) ?_
    refine ok (m_bipush (q := 38) rfl rfl rfl) ?_
    refine ok (m_idiv (q := 39) rfl rfl (rg_wr _) ⟨by decide, by decide⟩ (by decide) rfl) ?_
    refine ok (m_iadd (q := 40) rfl rfl rfl) ?_
    exact ok (m_reti rfl rfl) (ok_i r2 (rg_wr _))
abbrev P_X7_unfitness : Nat → Option am_E := am_fy tb_X7_unfitness
noncomputable def v_X7_unfitness (D : aD) (i0 : Int) (i1 : Int) (i2 : Int) (a3 : Int) : Int := if o_and (D 2105 i2) (o_xor (D 2002 i1) (-1)) = 0 then if max (D 2106 i2) (D 3301 (1024 * i0 + (D 2103 i2))) ≤ v_X8_ageOn D i1 a3 then if D 2107 i2 = (-1) then if w_fhX D i0 4 (D 2103 i2) i1 i2 a3 < 0 then 0 else if D 2603 (w_fhX D i0 4 (D 2103 i2) i1 i2 a3) ≤ D 2104 i2 then 0 else 4 else if D 2107 i2 = D 2003 i1 then if w_fhX D i0 4 (D 2103 i2) i1 i2 a3 < 0 then 0 else if D 2603 (w_fhX D i0 4 (D 2103 i2) i1 i2 a3) ≤ D 2104 i2 then 0 else 4 else if D 2411 i0 = 0 then 3 else if w_fhX D i0 4 (D 2103 i2) i1 i2 a3 < 0 then 0 else if D 2603 (w_fhX D i0 4 (D 2103 i2) i1 i2 a3) ≤ D 2104 i2 then 0 else 4 else 2 else 1
def p_X7_unfitness (D : aD) (i0 : Int) (i1 : Int) (i2 : Int) (a3 : Int) : Prop := (if o_and (D 2105 i2) (o_xor (D 2002 i1) (-1)) = 0 then (0 ≤ D 2103 i2 ∧ D 2103 i2 < D 3300 i0) ∧ (if max (D 2106 i2) (D 3301 (1024 * i0 + (D 2103 i2))) ≤ v_X8_ageOn D i1 a3 then (if D 2107 i2 = (-1) then (p_fh D i0 4 (D 2103 i2) i1 i2 a3) else (if D 2107 i2 = D 2003 i1 then (p_fh D i0 4 (D 2103 i2) i1 i2 a3) else (if D 2411 i0 = 0 then True else (p_fh D i0 4 (D 2103 i2) i1 i2 a3)))) else True) else True)
set_option maxRecDepth 100000 in
theorem ev_X7_unfitness {A : aA} {D : aD} (i0 : Int) (i1 : Int) (i2 : Int) (a3 : Int) (f0 : D 914 i0 = 1) (f1 : D 910 i1 = 1) (f2 : D 911 i2 = 1) (h3 : rg a3) (hp : p_X7_unfitness D i0 i1 i2 a3) : Ev (1) 6 60 [am_r (some (A 14 i0)), am_r (some (A 10 i1)), am_r (some (A 11 i2)), am_i (wz a3)] A D (ri (v_X7_unfitness D i0 i1 i2 a3)) A D := by
  unfold p_X7_unfitness at hp
  unfold v_X7_unfitness
  refine Ev_of (c := 5) (P := P_X7_unfitness) (lo := [some (am_r (some (A 14 i0))), some (am_r (some (A 10 i1))), some (am_r (some (A 11 i2))), some (am_i (wz a3)), none]) rfl rfl rfl (fun d hd s hr => ?_)
  refine ok (m_aload_n (q := 1) rfl rfl rfl rfl) ?_
  refine ok (m_gft (t := 11) (q := 4) rfl rfl rfl hr rfl f2 rfl rfl rfl) ?_
  refine ok (m_aload_n (q := 5) rfl rfl rfl rfl) ?_
  refine ok (m_gft (t := 10) (q := 8) rfl rfl rfl hr rfl f1 rfl rfl rfl) ?_
  refine ok (m_iconst (q := 9) rfl rfl rfl) ?_
  refine ok (m_ixor (q := 10) rfl rfl rfl) ?_
  refine ok (m_iand (q := 11) rfl rfl rfl) ?_
  refine okp (m_ifeq (qt := 16) (qf := 14) rfl rfl (rg_o _) rfl rfl) (fun c1 => ?_) (fun c1 => ?_)
  · replace hp := ip c1 hp
    refine ok (m_aload_n (q := 17) rfl rfl rfl rfl) ?_
    refine ok (m_iload_n (q := 18) rfl rfl rfl rfl) ?_
    refine oke (e_ci (x_cv (q := 21) rfl rfl rfl rfl rfl rfl rfl rfl rfl rfl (is_ty hr rfl f1)) (ev_X8_ageOn (D := D) i1 a3 f1 h3) (Nat.le_trans (by decide) hd) hr) (fun s2 r3 => ?_)
    refine ok (m_aload_n (q := 22) rfl rfl rfl rfl) ?_
    refine ok (m_gft (t := 11) (q := 25) rfl rfl rfl r3 rfl f2 rfl rfl rfl) ?_
    refine ok (m_aload_n (q := 26) rfl rfl rfl rfl) ?_
    have f_4 := Rp_f14_23 (D := D) (i := i0) r3 f0
    refine ok (m_gfx (t := 14) (q := 29) (r := some (A 23 i0)) rfl rfl rfl r3 rfl f0 rfl rfl rfl) ?_
    refine ok (m_aload_n (q := 30) rfl rfl rfl rfl) ?_
    refine ok (m_gft (t := 11) (q := 33) rfl rfl rfl r3 rfl f2 rfl rfl rfl) ?_
    obtain ⟨g5, hp⟩ := hp
    refine ok (m_ialt (t := 23) (q := 34) rfl rfl rfl r3 rfl f_4 rfl rfl rfl g5 rfl) ?_
    refine ok (m_max (q := 37) rfl rfl rfl (show rg (D 2106 i2) from Rp_rg r3 2106 i2) (show rg (D 3301 (1024 * i0 + (D 2103 i2))) from Rp_rg r3 3301 (1024 * i0 + (D 2103 i2))) rfl) ?_
    refine okp (m_cmpge (qt := 42) (qf := 40) rfl rfl (Ev_rg (ev_X8_ageOn (D := D) i1 a3 f1 h3) hr) (rg_max (show rg (D 2106 i2) from Rp_rg r3 2106 i2) (show rg (D 3301 (1024 * i0 + (D 2103 i2))) from Rp_rg r3 3301 (1024 * i0 + (D 2103 i2)))) rfl rfl) (fun c6 => ?_) (fun c6 => ?_)
    · replace hp := ip c6 hp
      refine ok (m_aload_n (q := 43) rfl rfl rfl rfl) ?_
      refine ok (m_gft (t := 11) (q := 46) rfl rfl rfl r3 rfl f2 rfl rfl rfl) ?_
      refine ok (m_iconst (q := 47) rfl rfl rfl) ?_
      refine okp (m_cmpeq (qt := 70) (qf := 50) rfl rfl (show rg (D 2107 i2) from Rp_rg r3 2107 i2) ⟨by decide, by decide⟩ rfl rfl) (fun c7 => ?_) (fun c7 => ?_)
      · replace hp := ip c7 hp
        refine ok (m_aload_n (q := 71) rfl rfl rfl rfl) ?_
        refine ok (m_iconst (q := 72) rfl rfl rfl) ?_
        refine ok (m_aload_n (q := 73) rfl rfl rfl rfl) ?_
        refine ok (m_gft (t := 11) (q := 76) rfl rfl rfl r3 rfl f2 rfl rfl rfl) ?_
        refine ok (m_aload_n (q := 77) rfl rfl rfl rfl) ?_
        refine ok (m_aload_n (q := 78) rfl rfl rfl rfl) ?_
        refine ok (m_iload_n (q := 79) rfl rfl rfl rfl) ?_
        have g10 := hp
        refine oke (e_cr (x_cv (q := 82) rfl rfl rfl rfl rfl rfl rfl rfl rfl rfl (is_ty r3 rfl f0)) (ev_X7_firstHolding (D := D) i0 4 (D 2103 i2) i1 i2 a3 f0 ⟨by decide, by decide⟩ (show rg (D 2103 i2) from Rp_rg r3 2103 i2) f1 f2 h3 g10) (Nat.le_trans (by decide) hd) r3) (fun s8 r9 => ?_)
        refine ok (m_astore (q := 84) (lo' := [some (am_r (some (A 14 i0))), some (am_r (some (A 10 i1))), some (am_r (some (A 11 i2))), some (am_i (wz a3)), some (am_r (nr A 16 (w_fhX D i0 4 (D 2103 i2) i1 i2 a3)))]) rfl rfl rfl rfl rfl) ?_
        refine ok (m_aload (q := 86) rfl rfl rfl rfl) ?_
        refine okp ((m_ifnull (qt := 105) (qf := 89) rfl rfl rfl rfl).trans (ifn_n r9 rfl (fg_fhX (D := D) i0 4 (D 2103 i2) i1 i2 a3 f0 ⟨by decide, by decide⟩ (show rg (D 2103 i2) from Rp_rg r3 2103 i2) f1 f2 h3 g10 r3))) (fun c11 => ?_) (fun c11 => ?_)
        · refine ok (m_iconst (q := 106) rfl rfl rfl) ?_
          exact ok (m_reti rfl rfl) (ok_i r9 ⟨by decide, by decide⟩)
        · refine ok (o' := mr d P_X7_unfitness 89 [some (am_r (some (A 14 i0))), some (am_r (some (A 10 i1))), some (am_r (some (A 11 i2))), some (am_i (wz a3)), some (am_r (some (A 16 (w_fhX D i0 4 (D 2103 i2) i1 i2 a3))))] [] s8) (by rw [nr_s (Int.not_lt.mp c11)]; try rfl) ?_
          refine ok (m_aload_n (q := 90) rfl rfl rfl rfl) ?_
          refine ok (m_gft (t := 11) (q := 93) rfl rfl rfl r9 rfl f2 rfl rfl rfl) ?_
          refine ok (m_aload (q := 95) rfl rfl rfl rfl) ?_
          refine ok (m_gft (t := 16) (q := 98) rfl rfl rfl r9 rfl ((fg_fhX (D := D) i0 4 (D 2103 i2) i1 i2 a3 f0 ⟨by decide, by decide⟩ (show rg (D 2103 i2) from Rp_rg r3 2103 i2) f1 f2 h3 g10 r3) (Int.not_lt.mp c11)) rfl rfl rfl) ?_
          refine okp (m_cmpge (qt := 105) (qf := 101) rfl rfl (show rg (D 2104 i2) from Rp_rg r9 2104 i2) (show rg (D 2603 (w_fhX D i0 4 (D 2103 i2) i1 i2 a3)) from Rp_rg r9 2603 (w_fhX D i0 4 (D 2103 i2) i1 i2 a3)) rfl rfl) (fun c12 => ?_) (fun c12 => ?_)
          · refine ok (m_iconst (q := 106) rfl rfl rfl) ?_
            exact ok (m_reti rfl rfl) (ok_i r9 ⟨by decide, by decide⟩)
          · refine ok (m_iconst (q := 102) rfl rfl rfl) ?_
            refine ok (m_goto (q := 106) rfl rfl rfl) ?_
            exact ok (m_reti rfl rfl) (ok_i r9 ⟨by decide, by decide⟩)
      · replace hp := iq c7 hp
        refine ok (m_aload_n (q := 51) rfl rfl rfl rfl) ?_
        refine ok (m_gft (t := 11) (q := 54) rfl rfl rfl r3 rfl f2 rfl rfl rfl) ?_
        refine ok (m_aload_n (q := 55) rfl rfl rfl rfl) ?_
        refine ok (m_gft (t := 10) (q := 58) rfl rfl rfl r3 rfl f1 rfl rfl rfl) ?_
        refine okp (m_cmpeq (qt := 70) (qf := 61) rfl rfl (show rg (D 2107 i2) from Rp_rg r3 2107 i2) (show rg (D 2003 i1) from Rp_rg r3 2003 i1) rfl rfl) (fun c13 => ?_) (fun c13 => ?_)
        · replace hp := ip c13 hp
          refine ok (m_aload_n (q := 71) rfl rfl rfl rfl) ?_
          refine ok (m_iconst (q := 72) rfl rfl rfl) ?_
          refine ok (m_aload_n (q := 73) rfl rfl rfl rfl) ?_
          refine ok (m_gft (t := 11) (q := 76) rfl rfl rfl r3 rfl f2 rfl rfl rfl) ?_
          refine ok (m_aload_n (q := 77) rfl rfl rfl rfl) ?_
          refine ok (m_aload_n (q := 78) rfl rfl rfl rfl) ?_
          refine ok (m_iload_n (q := 79) rfl rfl rfl rfl) ?_
          have g16 := hp
          refine oke (e_cr (x_cv (q := 82) rfl rfl rfl rfl rfl rfl rfl rfl rfl rfl (is_ty r3 rfl f0)) (ev_X7_firstHolding (D := D) i0 4 (D 2103 i2) i1 i2 a3 f0 ⟨by decide, by decide⟩ (show rg (D 2103 i2) from Rp_rg r3 2103 i2) f1 f2 h3 g16) (Nat.le_trans (by decide) hd) r3) (fun s14 r15 => ?_)
          refine ok (m_astore (q := 84) (lo' := [some (am_r (some (A 14 i0))), some (am_r (some (A 10 i1))), some (am_r (some (A 11 i2))), some (am_i (wz a3)), some (am_r (nr A 16 (w_fhX D i0 4 (D 2103 i2) i1 i2 a3)))]) rfl rfl rfl rfl rfl) ?_
          refine ok (m_aload (q := 86) rfl rfl rfl rfl) ?_
          refine okp ((m_ifnull (qt := 105) (qf := 89) rfl rfl rfl rfl).trans (ifn_n r15 rfl (fg_fhX (D := D) i0 4 (D 2103 i2) i1 i2 a3 f0 ⟨by decide, by decide⟩ (show rg (D 2103 i2) from Rp_rg r3 2103 i2) f1 f2 h3 g16 r3))) (fun c17 => ?_) (fun c17 => ?_)
          · refine ok (m_iconst (q := 106) rfl rfl rfl) ?_
            exact ok (m_reti rfl rfl) (ok_i r15 ⟨by decide, by decide⟩)
          · refine ok (o' := mr d P_X7_unfitness 89 [some (am_r (some (A 14 i0))), some (am_r (some (A 10 i1))), some (am_r (some (A 11 i2))), some (am_i (wz a3)), some (am_r (some (A 16 (w_fhX D i0 4 (D 2103 i2) i1 i2 a3))))] [] s14) (by rw [nr_s (Int.not_lt.mp c17)]; try rfl) ?_
            refine ok (m_aload_n (q := 90) rfl rfl rfl rfl) ?_
            refine ok (m_gft (t := 11) (q := 93) rfl rfl rfl r15 rfl f2 rfl rfl rfl) ?_
            refine ok (m_aload (q := 95) rfl rfl rfl rfl) ?_
            refine ok (m_gft (t := 16) (q := 98) rfl rfl rfl r15 rfl ((fg_fhX (D := D) i0 4 (D 2103 i2) i1 i2 a3 f0 ⟨by decide, by decide⟩ (show rg (D 2103 i2) from Rp_rg r3 2103 i2) f1 f2 h3 g16 r3) (Int.not_lt.mp c17)) rfl rfl rfl) ?_
            refine okp (m_cmpge (qt := 105) (qf := 101) rfl rfl (show rg (D 2104 i2) from Rp_rg r15 2104 i2) (show rg (D 2603 (w_fhX D i0 4 (D 2103 i2) i1 i2 a3)) from Rp_rg r15 2603 (w_fhX D i0 4 (D 2103 i2) i1 i2 a3)) rfl rfl) (fun c18 => ?_) (fun c18 => ?_)
            · refine ok (m_iconst (q := 106) rfl rfl rfl) ?_
              exact ok (m_reti rfl rfl) (ok_i r15 ⟨by decide, by decide⟩)
            · refine ok (m_iconst (q := 102) rfl rfl rfl) ?_
              refine ok (m_goto (q := 106) rfl rfl rfl) ?_
              exact ok (m_reti rfl rfl) (ok_i r15 ⟨by decide, by decide⟩)
        · replace hp := iq c13 hp
          refine ok (m_aload_n (q := 62) rfl rfl rfl rfl) ?_
          refine ok (m_gft (t := 14) (q := 65) rfl rfl rfl r3 rfl f0 rfl rfl rfl) ?_
          refine okp (m_ifne (qt := 70) (qf := 68) rfl rfl (show rg (D 2411 i0) from Rp_rg r3 2411 i0) rfl rfl) (fun c19 => ?_) (fun c19 => ?_)
          · refine ok (m_iconst (q := 69) rfl rfl rfl) ?_
            exact ok (m_reti rfl rfl) (ok_i r3 ⟨by decide, by decide⟩)
          · replace hp := iq c19 hp
            refine ok (m_aload_n (q := 71) rfl rfl rfl rfl) ?_
            refine ok (m_iconst (q := 72) rfl rfl rfl) ?_
            refine ok (m_aload_n (q := 73) rfl rfl rfl rfl) ?_
            refine ok (m_gft (t := 11) (q := 76) rfl rfl rfl r3 rfl f2 rfl rfl rfl) ?_
            refine ok (m_aload_n (q := 77) rfl rfl rfl rfl) ?_
            refine ok (m_aload_n (q := 78) rfl rfl rfl rfl) ?_
            refine ok (m_iload_n (q := 79) rfl rfl rfl rfl) ?_
            have g22 := hp
            refine oke (e_cr (x_cv (q := 82) rfl rfl rfl rfl rfl rfl rfl rfl rfl rfl (is_ty r3 rfl f0)) (ev_X7_firstHolding (D := D) i0 4 (D 2103 i2) i1 i2 a3 f0 ⟨by decide, by decide⟩ (show rg (D 2103 i2) from Rp_rg r3 2103 i2) f1 f2 h3 g22) (Nat.le_trans (by decide) hd) r3) (fun s20 r21 => ?_)
            refine ok (m_astore (q := 84) (lo' := [some (am_r (some (A 14 i0))), some (am_r (some (A 10 i1))), some (am_r (some (A 11 i2))), some (am_i (wz a3)), some (am_r (nr A 16 (w_fhX D i0 4 (D 2103 i2) i1 i2 a3)))]) rfl rfl rfl rfl rfl) ?_
            refine ok (m_aload (q := 86) rfl rfl rfl rfl) ?_
            refine okp ((m_ifnull (qt := 105) (qf := 89) rfl rfl rfl rfl).trans (ifn_n r21 rfl (fg_fhX (D := D) i0 4 (D 2103 i2) i1 i2 a3 f0 ⟨by decide, by decide⟩ (show rg (D 2103 i2) from Rp_rg r3 2103 i2) f1 f2 h3 g22 r3))) (fun c23 => ?_) (fun c23 => ?_)
            · refine ok (m_iconst (q := 106) rfl rfl rfl) ?_
              exact ok (m_reti rfl rfl) (ok_i r21 ⟨by decide, by decide⟩)
            · refine ok (o' := mr d P_X7_unfitness 89 [some (am_r (some (A 14 i0))), some (am_r (some (A 10 i1))), some (am_r (some (A 11 i2))), some (am_i (wz a3)), some (am_r (some (A 16 (w_fhX D i0 4 (D 2103 i2) i1 i2 a3))))] [] s20) (by rw [nr_s (Int.not_lt.mp c23)]; try rfl) ?_
              refine ok (m_aload_n (q := 90) rfl rfl rfl rfl) ?_
              refine ok (m_gft (t := 11) (q := 93) rfl rfl rfl r21 rfl f2 rfl rfl rfl) ?_
              refine ok (m_aload (q := 95) rfl rfl rfl rfl) ?_
              refine ok (m_gft (t := 16) (q := 98) rfl rfl rfl r21 rfl ((fg_fhX (D := D) i0 4 (D 2103 i2) i1 i2 a3 f0 ⟨by decide, by decide⟩ (show rg (D 2103 i2) from Rp_rg r3 2103 i2) f1 f2 h3 g22 r3) (Int.not_lt.mp c23)) rfl rfl rfl) ?_
              refine okp (m_cmpge (qt := 105) (qf := 101) rfl rfl (show rg (D 2104 i2) from Rp_rg r21 2104 i2) (show rg (D 2603 (w_fhX D i0 4 (D 2103 i2) i1 i2 a3)) from Rp_rg r21 2603 (w_fhX D i0 4 (D 2103 i2) i1 i2 a3)) rfl rfl) (fun c24 => ?_) (fun c24 => ?_)
              · refine ok (m_iconst (q := 106) rfl rfl rfl) ?_
                exact ok (m_reti rfl rfl) (ok_i r21 ⟨by decide, by decide⟩)
              · refine ok (m_iconst (q := 102) rfl rfl rfl) ?_
                refine ok (m_goto (q := 106) rfl rfl rfl) ?_
                exact ok (m_reti rfl rfl) (ok_i r21 ⟨by decide, by decide⟩)
    · refine ok (m_iconst (q := 41) rfl rfl rfl) ?_
      exact ok (m_reti rfl rfl) (ok_i r3 ⟨by decide, by decide⟩)
  · refine ok (m_iconst (q := 15) rfl rfl rfl) ?_
    exact ok (m_reti rfl rfl) (ok_i hr ⟨by decide, by decide⟩)
def p_fhM (D : aD) (what _ p s d : Int) : Prop := Inv D ∧ (what = 0 ∨ what = 4) ∧ (0 ≤ s ∧ s < D 70 1) ∧ (0 ≤ p ∧ p < D 70 3) ∧ 0 ≤ d ∧ d ≤ 999
noncomputable def w_fhM (D : aD) (what which p s d : Int) : Int := if fh D (w_inForce D d) what which s p d = -1 then -1 else 30 * w_inForce D d + fh D (w_inForce D d) what which s p d
theorem K_fhM {F : aD} {what which p s d : Int} (hp : p_fhM D what which p s d) (h1 : rg what) (h2 : rg which) (hF : ∀ c, c ≠ 105 → F c = D c) (hf : ∀ j, 0 ≤ j → j < 6 → F 105 j = fct D s p d j) : K_X12_firstOf_94 (n + 2) A F what which (w_inForce D d) (30 * w_inForce D d) (w_fhM D what which p s d) F := by
  obtain ⟨hI, hk, hs, hq, hd⟩ := hp
  have hc := hI.rb.1
  have hn := hI.rb.2.1
  have hb := inForce_b (D := D) (d := d)
  have e5 : ∀ z, w_fhM D what which p s z = if fh D (w_inForce D z) what which s p z = -1 then -1 else 30 * w_inForce D z + fh D (w_inForce D z) what which s p z := fun _ => rfl
  rw [e5]
  generalize w_inForce D d = r at *
  by_cases cr : r = -1
  · refine rl_X12_firstOf_94 _ _ _ _ h1 h2 (rgb (by omega) (by omega)) (rgb (by omega) (by omega)) ?_
    rw [if_pos cr]; unfold fh; rw [if_pos cr, if_pos rfl]; exact ⟨rfl, rfl⟩
  obtain ⟨hB1, hB2, hB3, hB4⟩ := (hI.rb.2.2.1 r (by omega) (by omega)).2
  have ev : (if fh D r what which s p d = -1 then -1 else 30 * r + fh D r what which s p d) = if fsi (fhP D r what which (fct D s p d)) 0 (D 92 r) = -1 then -1 else 30 * r + fsi (fhP D r what which (fct D s p d)) 0 (D 92 r) := by unfold fh; rw [if_neg cr]
  rw [ev]
  have K := dn_ind (K := fun j => K_X12_firstOf_94 (n + 2) A F what which r (30 * r + j) (if fsi (fhP D r what which (fct D s p d)) j (D 92 r) = -1 then -1 else 30 * r + fsi (fhP D r what which (fct D s p d)) j (D 92 r)) F) (lo := 0) (N := D 92 r) ?_ ?_ 0 (by omega) (by omega)
  · rw [Int.add_zero] at K; exact K
  · refine rl_X12_firstOf_94 _ _ _ _ h1 h2 (rgb (by omega) (by omega)) (rgb (by omega) (by omega)) ?_
    rw [if_neg cr, hF 92 (by decide), wr_id (z := 30 * r) (by omega) (by omega), wr_id (by omega) (by omega), if_pos (Int.le_refl _), fsi_end (Int.le_refl _), if_pos rfl]; exact ⟨⟨by omega, by omega⟩, rfl, rfl⟩
  · intro j j0 j1 ih
    have hS := hB4 j j0 j1
    refine rl_X12_firstOf_94 _ _ _ _ h1 h2 (rgb (by omega) (by omega)) (rgb (by omega) (by omega)) ?_
    rw [if_neg cr, hF 92 (by decide), hF 94 (by decide), hF 95 (by decide), hF 98 (by decide), wr_id (z := 30 * r) (by omega) (by omega), wr_id (z := 30 * r + D 92 r) (by omega) (by omega), if_neg (by omega), wr_id (z := 30 * r + j + 1) (by omega) (by omega), Int.add_assoc]
    refine ⟨⟨by omega, by omega⟩, ⟨by omega, by omega⟩, ?_⟩
    by_cases c1 : D 94 (30 * r + j) = what
    · rw [if_pos c1]
      by_cases c2 : D 95 (30 * r + j) = which
      · rw [if_pos c2]
        have hC := hS.2.2.2.2.2.2.2.2.2 (by omega)
        rcases hC with ⟨q1, q2⟩ | ⟨q1, φ, q2, q3⟩
        · rw [if_pos q2, fsi_t j1 (fhP_t ⟨c1, c2, Or.inl q2⟩), if_neg (by omega)]; exact ⟨rfl, rfl⟩
        · have hk1 := HM_k q3
          rw [if_neg (by omega)]
          have q3' : HM F (F 70 27) 40 (D 98 (30 * r + j)) φ := by
            rw [hF 70 (by decide)]
            exact HM_cg (Int.le_refl _) (fun i _ _ => ⟨by rw [hF 99 (by decide)], by rw [hF 100 (by decide)], by rw [hF 101 (by decide)], by rw [hF 102 (by decide)], by rw [hF 103 (by decide)], by rw [hF 104 (by decide)]⟩) _ _ _ q3
          refine ⟨⟨⟨φ, q3'⟩, by rw [hF 70 (by decide)]; omega⟩, ?_⟩
          rw [w_hM_eq q3', HM_six _ _ _ q3 _ (fct D s p d) hf]
          by_cases c3 : φ (fct D s p d) = true
          · rw [if_pos c3, if_neg (by decide), fsi_t j1 (fhP_t ⟨c1, c2, Or.inr ⟨φ, q3, c3⟩⟩), if_neg (by omega)]; exact ⟨rfl, rfl⟩
          · rw [if_neg c3, if_pos rfl, fsi_f j1 (fhP_f (fun q => ?_))]
            · exact ih
            · rcases q.2.2 with z | ⟨ψ, z1, z2⟩
              · omega
              · rw [HM_fun _ _ _ _ z1 q3] at z2; exact c3 z2
      · rw [if_neg c2, fsi_f j1 (fhP_f (fun q => c2 q.2.1))]; exact ih
    · rw [if_neg c1, fsi_f j1 (fhP_f (fun q => c1 q.1))]; exact ih
theorem fct_cg {F : aD} (hm : Sm F D) (s p d : Int) : fct F s p d = fct D s p d := by
  funext j; unfold fct v_X12_ageOn; rw [hm 79 rfl, hm 78 rfl, hm 75 rfl, hm 77 rfl, hm 71 rfl, hm 72 rfl]
theorem fh_cg {F : aD} (hm : Sm F D) (r a b s p d : Int) : fh F r a b s p d = fh D r a b s p d := by
  have e2 : fhP F r a b (fct D s p d) = fhP D r a b (fct D s p d) := by
    funext j
    have e3 : cT F (30 * r + j) (fct D s p d) ↔ cT D (30 * r + j) (fct D s p d) := by
      unfold cT
      rw [hm 98 rfl, hm 70 rfl]
      have e4 : ∀ φ, HM F (D 70 27) 40 (D 98 (30 * r + j)) φ ↔ HM D (D 70 27) 40 (D 98 (30 * r + j)) φ := fun φ =>
        ⟨HM_cg (Int.le_refl _) (fun i _ _ => ⟨by rw [hm 99 rfl], by rw [hm 100 rfl], by rw [hm 101 rfl], by rw [hm 102 rfl], by rw [hm 103 rfl], by rw [hm 104 rfl]⟩) _ _ _, HM_cg (Int.le_refl _) (fun i _ _ => ⟨by rw [hm 99 rfl], by rw [hm 100 rfl], by rw [hm 101 rfl], by rw [hm 102 rfl], by rw [hm 103 rfl], by rw [hm 104 rfl]⟩) _ _ _⟩
      simp only [e4]
    by_cases q : D 94 (30 * r + j) = a ∧ D 95 (30 * r + j) = b ∧ cT D (30 * r + j) (fct D s p d)
    · rw [fhP_t q, fhP_t (by rw [hm 94 rfl, hm 95 rfl, e3]; exact q)]
    · rw [fhP_f q, fhP_f (by rw [hm 94 rfl, hm 95 rfl, e3]; exact q)]
  unfold fh; rw [fct_cg hm, e2, hm 92 rfl]
theorem ev_X12_firstOf (what which p s d : Int) (h1 : rg what) (h2 : rg which) (h3 : rg p) (h4 : rg s) (h5 : rg d) (hp : p_fhM D what which p s d) : Ev 1 41 175 [am_r (some 70), am_i (wz what), am_i (wz which), am_i (wz p), am_i (wz s), am_i (wz d)] A D (ri (w_fhM D what which p s d)) A D := by
  refine Ev_pure (n := 1) (m := 2) (by decide) (fun F hF => ?_)
  have hm := Sm_le hF
  have hpF : p_fhM F what which p s d := by
    obtain ⟨a1, a2, a3, a4, a5⟩ := hp
    refine ⟨Inv_cg hm a1, ?_⟩
    rw [hm 70 rfl]; exact ⟨a2, a3, a4, a5⟩
  have ex : w_fhM F what which p s d = w_fhM D what which p s d := by unfold w_fhM; rw [if_cg hm, fh_cg hm]
  obtain ⟨hI, hk, hs, hq, hd⟩ := id hpF
  have hc := hI.iv.ct; unfold I_ct at hc
  have hsv := hI.iv.sv s hs.1 hs.2
  have hpl := hI.iv.pl p hq.1 hq.2
  have hb := inForce_b (D := F) (d := d)
  have hr := hI.rb.1
  refine ⟨upF F 105 0 (fct F s p d), ?_, fun c hc => ?_⟩
  · have K := K_fhM (n := 0) (A := A) (F := upF F 105 0 (fct F s p d)) hpF h1 h2 (fun c hc => upF_c hc) (fun j j0 j1 => by have := upF_i (D := F) (c := 105) (z := 0) (g := fct F s p d) j0 j1; rw [Int.zero_add] at this; exact this)
    rw [ex] at K
    refine rl_X12_firstOf what which p s d h1 h2 h3 h4 h5 ⟨hI.rb, ⟨by omega, by omega⟩, ⟨by omega, by omega⟩, ⟨by omega, by omega⟩, ⟨by omega, by omega⟩, ⟨by omega, by omega⟩, ?_⟩
    have e : upF F 105 0 (fct F s p d) = up (up (up (up (up (up F 105 0 (F 79 p)) 105 1 (F 78 p)) 105 2 (F 75 (F 77 p))) 105 3 (v_X12_ageOn F s d)) 105 4 (w_bits F (F 72 s))) 105 5 d := rfl
    rw [wr_id (by omega) (by omega)]
    rw [e] at K ⊢
    exact K
  · rw [upF_c (fun q => by rw [q] at hc; cases hc)]; exact hF c hc
abbrev P_X12_fitOf : Nat → Option am_E := am_fy tb_X12_fitOf
noncomputable def v_X12_fitOf (D : aD) (a1 : Int) (a2 : Int) (a3 : Int) : Int := if o_and (D 80 a2) (D 72 a1) = D 80 a2 then if max (D 81 a2) (v_X12_tells D a3 3 (D 78 a2) 0) ≤ v_X12_ageOn D a1 a3 then if D 82 a2 = (-1) then if w_fhM D 4 (D 78 a2) a2 a1 a3 = (-1) then 0 else if D 96 (w_fhM D 4 (D 78 a2) a2 a1 a3) ≤ D 79 a2 then 0 else 4 else if D 82 a2 = D 73 a1 then if w_fhM D 4 (D 78 a2) a2 a1 a3 = (-1) then 0 else if D 96 (w_fhM D 4 (D 78 a2) a2 a1 a3) ≤ D 79 a2 then 0 else 4 else if w_last D (w_inForce D a3) 5 0 = (-1) then 3 else if w_fhM D 4 (D 78 a2) a2 a1 a3 = (-1) then 0 else if D 96 (w_fhM D 4 (D 78 a2) a2 a1 a3) ≤ D 79 a2 then 0 else 4 else 2 else 1
def p_X12_fitOf (D : aD) (a1 : Int) (a2 : Int) (a3 : Int) : Prop := (0 ≤ a2 ∧ a2 < 30) ∧ (0 ≤ a1 ∧ a1 < 24) ∧ (if o_and (D 80 a2) (D 72 a1) = D 80 a2 then (p_X12_ageOn D a1 a3) ∧ (p_X12_tells D a3 3 (D 78 a2) 0) ∧ (if max (D 81 a2) (v_X12_tells D a3 3 (D 78 a2) 0) ≤ v_X12_ageOn D a1 a3 then (if D 82 a2 = (-1) then (p_fhM D 4 (D 78 a2) a2 a1 a3) ∧ (if w_fhM D 4 (D 78 a2) a2 a1 a3 = (-1) then True else (0 ≤ w_fhM D 4 (D 78 a2) a2 a1 a3 ∧ w_fhM D 4 (D 78 a2) a2 a1 a3 < 270)) else (if D 82 a2 = D 73 a1 then (p_fhM D 4 (D 78 a2) a2 a1 a3) ∧ (if w_fhM D 4 (D 78 a2) a2 a1 a3 = (-1) then True else (0 ≤ w_fhM D 4 (D 78 a2) a2 a1 a3 ∧ w_fhM D 4 (D 78 a2) a2 a1 a3 < 270)) else (p_inv1 D a3) ∧ (p_last D (w_inForce D a3) 5 0) ∧ (if w_last D (w_inForce D a3) 5 0 = (-1) then True else (p_fhM D 4 (D 78 a2) a2 a1 a3) ∧ (if w_fhM D 4 (D 78 a2) a2 a1 a3 = (-1) then True else (0 ≤ w_fhM D 4 (D 78 a2) a2 a1 a3 ∧ w_fhM D 4 (D 78 a2) a2 a1 a3 < 270))))) else True) else True)
set_option maxRecDepth 100000 in
theorem ev_X12_fitOf {A : aA} {D : aD} (a1 : Int) (a2 : Int) (a3 : Int) (h1 : rg a1) (h2 : rg a2) (h3 : rg a3) (hp : p_X12_fitOf D a1 a2 a3) : Ev (1) 42 178 [am_r (some 70), am_i (wz a1), am_i (wz a2), am_i (wz a3)] A D (ri (v_X12_fitOf D a1 a2 a3)) A D := by
  unfold p_X12_fitOf at hp
  unfold v_X12_fitOf
  refine Ev_of (c := 41) (P := P_X12_fitOf) (lo := [some (am_r (some 70)), some (am_i (wz a1)), some (am_i (wz a2)), some (am_i (wz a3)), none]) rfl rfl rfl (fun d hd s hr => ?_)
  refine ok (m_aload_n (q := 1) rfl rfl rfl rfl) ?_
  refine ok (m_gfc (q := 4) rfl rfl rfl hr rfl rfl rfl) ?_
  refine ok (m_iload_n (q := 5) rfl rfl rfl rfl) ?_
  obtain ⟨g1, hp⟩ := hp
  refine ok (m_ials (q := 6) rfl rfl rfl hr rfl rfl g1 rfl) ?_
  refine ok (m_aload_n (q := 7) rfl rfl rfl rfl) ?_
  refine ok (m_gfc (q := 10) rfl rfl rfl hr rfl rfl rfl) ?_
  refine ok (m_iload_n (q := 11) rfl rfl rfl rfl) ?_
  obtain ⟨g2, hp⟩ := hp
  refine ok (m_ials (q := 12) rfl rfl rfl hr rfl rfl g2 rfl) ?_
  refine ok (m_iand (q := 13) rfl rfl rfl) ?_
  refine ok (m_aload_n (q := 14) rfl rfl rfl rfl) ?_
  refine ok (m_gfc (q := 17) rfl rfl rfl hr rfl rfl rfl) ?_
  refine ok (m_iload_n (q := 18) rfl rfl rfl rfl) ?_
  refine ok (m_ials (q := 19) rfl rfl rfl hr rfl rfl g1 rfl) ?_
  refine okp (m_cmpeq (qt := 24) (qf := 22) rfl rfl (rg_o _) (Rp_rg hr 80 a2) rfl rfl) (fun c3 => ?_) (fun c3 => ?_)
  · replace hp := ip c3 hp
    refine ok (m_aload_n (q := 25) rfl rfl rfl rfl) ?_
    refine ok (m_iload_n (q := 26) rfl rfl rfl rfl) ?_
    refine ok (m_iload_n (q := 27) rfl rfl rfl rfl) ?_
    obtain ⟨g6, hp⟩ := hp
    refine oke (e_ci (x_cv (q := 30) rfl rfl rfl rfl rfl rfl rfl rfl rfl rfl (is_st hr rfl rfl)) (ev_X12_ageOn (D := D) a1 a3 h1 h3 g6) (Nat.le_trans (by decide) hd) hr) (fun s4 r5 => ?_)
    refine ok (m_aload_n (q := 31) rfl rfl rfl rfl) ?_
    refine ok (m_gfc (q := 34) rfl rfl rfl r5 rfl rfl rfl) ?_
    refine ok (m_iload_n (q := 35) rfl rfl rfl rfl) ?_
    refine ok (m_ials (q := 36) rfl rfl rfl r5 rfl rfl g1 rfl) ?_
    refine ok (m_aload_n (q := 37) rfl rfl rfl rfl) ?_
    refine ok (m_iload_n (q := 38) rfl rfl rfl rfl) ?_
    refine ok (m_iconst (q := 39) rfl rfl rfl) ?_
    refine ok (m_aload_n (q := 40) rfl rfl rfl rfl) ?_
    refine ok (m_gfc (q := 43) rfl rfl rfl r5 rfl rfl rfl) ?_
    refine ok (m_iload_n (q := 44) rfl rfl rfl rfl) ?_
    refine ok (m_ials (q := 45) rfl rfl rfl r5 rfl rfl g1 rfl) ?_
    refine ok (m_iconst (q := 46) rfl rfl rfl) ?_
    obtain ⟨g9, hp⟩ := hp
    refine oke (e_ci (x_cv (q := 49) rfl rfl rfl rfl rfl rfl rfl rfl rfl rfl (is_st r5 rfl rfl)) (ev_X12_tells (D := D) a3 3 (D 78 a2) 0 h3 ⟨by decide, by decide⟩ (Rp_rg r5 78 a2) ⟨by decide, by decide⟩ g9) (Nat.le_trans (by decide) hd) r5) (fun s7 r8 => ?_)
    refine ok (m_max (q := 52) rfl rfl rfl (Rp_rg r5 81 a2) (Ev_rg (ev_X12_tells (D := D) a3 3 (D 78 a2) 0 h3 ⟨by decide, by decide⟩ (Rp_rg r5 78 a2) ⟨by decide, by decide⟩ g9) r5) rfl) ?_
    refine okp (m_cmpge (qt := 57) (qf := 55) rfl rfl (Ev_rg (ev_X12_ageOn (D := D) a1 a3 h1 h3 g6) hr) (rg_max (Rp_rg r5 81 a2) (Ev_rg (ev_X12_tells (D := D) a3 3 (D 78 a2) 0 h3 ⟨by decide, by decide⟩ (Rp_rg r5 78 a2) ⟨by decide, by decide⟩ g9) r5)) rfl rfl) (fun c10 => ?_) (fun c10 => ?_)
    · replace hp := ip c10 hp
      refine ok (m_aload_n (q := 58) rfl rfl rfl rfl) ?_
      refine ok (m_gfc (q := 61) rfl rfl rfl r8 rfl rfl rfl) ?_
      refine ok (m_iload_n (q := 62) rfl rfl rfl rfl) ?_
      refine ok (m_ials (q := 63) rfl rfl rfl r8 rfl rfl g1 rfl) ?_
      refine ok (m_iconst (q := 64) rfl rfl rfl) ?_
      refine okp (m_cmpeq (qt := 99) (qf := 67) rfl rfl (Rp_rg r8 82 a2) ⟨by decide, by decide⟩ rfl rfl) (fun c11 => ?_) (fun c11 => ?_)
      · replace hp := ip c11 hp
        refine ok (m_aload_n (q := 100) rfl rfl rfl rfl) ?_
        refine ok (m_iconst (q := 101) rfl rfl rfl) ?_
        refine ok (m_aload_n (q := 102) rfl rfl rfl rfl) ?_
        refine ok (m_gfc (q := 105) rfl rfl rfl r8 rfl rfl rfl) ?_
        refine ok (m_iload_n (q := 106) rfl rfl rfl rfl) ?_
        refine ok (m_ials (q := 107) rfl rfl rfl r8 rfl rfl g1 rfl) ?_
        refine ok (m_iload_n (q := 108) rfl rfl rfl rfl) ?_
        refine ok (m_iload_n (q := 109) rfl rfl rfl rfl) ?_
        refine ok (m_iload_n (q := 110) rfl rfl rfl rfl) ?_
        obtain ⟨g14, hp⟩ := hp
        refine oke (e_ci (x_cv (q := 113) rfl rfl rfl rfl rfl rfl rfl rfl rfl rfl (is_st r8 rfl rfl)) (ev_X12_firstOf (D := D) 4 (D 78 a2) a2 a1 a3 ⟨by decide, by decide⟩ (Rp_rg r8 78 a2) h2 h1 h3 g14) (Nat.le_trans (by decide) hd) r8) (fun s12 r13 => ?_)
        refine ok (m_istore (q := 115) (lo' := [some (am_r (some 70)), some (am_i (wz a1)), some (am_i (wz a2)), some (am_i (wz a3)), some (am_i (wz (w_fhM D 4 (D 78 a2) a2 a1 a3)))]) rfl rfl rfl rfl rfl) ?_
        refine ok (m_iload (q := 117) rfl rfl rfl rfl) ?_
        refine ok (m_iconst (q := 118) rfl rfl rfl) ?_
        refine okp (m_cmpeq (qt := 141) (qf := 121) rfl rfl (Ev_rg (ev_X12_firstOf (D := D) 4 (D 78 a2) a2 a1 a3 ⟨by decide, by decide⟩ (Rp_rg r8 78 a2) h2 h1 h3 g14) r8) ⟨by decide, by decide⟩ rfl rfl) (fun c15 => ?_) (fun c15 => ?_)
        · refine ok (m_iconst (q := 142) rfl rfl rfl) ?_
          exact ok (m_reti rfl rfl) (ok_i r13 ⟨by decide, by decide⟩)
        · replace hp := iq c15 hp
          refine ok (m_aload_n (q := 122) rfl rfl rfl rfl) ?_
          refine ok (m_gfc (q := 125) rfl rfl rfl r13 rfl rfl rfl) ?_
          refine ok (m_iload_n (q := 126) rfl rfl rfl rfl) ?_
          refine ok (m_ials (q := 127) rfl rfl rfl r13 rfl rfl g1 rfl) ?_
          refine ok (m_aload_n (q := 128) rfl rfl rfl rfl) ?_
          refine ok (m_gfc (q := 131) rfl rfl rfl r13 rfl rfl rfl) ?_
          refine ok (m_iload (q := 133) rfl rfl rfl rfl) ?_
          have g16 := hp
          refine ok (m_ials (q := 134) rfl rfl rfl r13 rfl rfl g16 rfl) ?_
          refine okp (m_cmpge (qt := 141) (qf := 137) rfl rfl (Rp_rg r13 79 a2) (Rp_rg r13 96 (w_fhM D 4 (D 78 a2) a2 a1 a3)) rfl rfl) (fun c17 => ?_) (fun c17 => ?_)
          · refine ok (m_iconst (q := 142) rfl rfl rfl) ?_
            exact ok (m_reti rfl rfl) (ok_i r13 ⟨by decide, by decide⟩)
          · refine ok (m_iconst (q := 138) rfl rfl rfl) ?_
            refine ok (m_goto (q := 142) rfl rfl rfl) ?_
            exact ok (m_reti rfl rfl) (ok_i r13 ⟨by decide, by decide⟩)
      · replace hp := iq c11 hp
        refine ok (m_aload_n (q := 68) rfl rfl rfl rfl) ?_
        refine ok (m_gfc (q := 71) rfl rfl rfl r8 rfl rfl rfl) ?_
        refine ok (m_iload_n (q := 72) rfl rfl rfl rfl) ?_
        refine ok (m_ials (q := 73) rfl rfl rfl r8 rfl rfl g1 rfl) ?_
        refine ok (m_aload_n (q := 74) rfl rfl rfl rfl) ?_
        refine ok (m_gfc (q := 77) rfl rfl rfl r8 rfl rfl rfl) ?_
        refine ok (m_iload_n (q := 78) rfl rfl rfl rfl) ?_
        refine ok (m_ials (q := 79) rfl rfl rfl r8 rfl rfl g2 rfl) ?_
        refine okp (m_cmpeq (qt := 99) (qf := 82) rfl rfl (Rp_rg r8 82 a2) (Rp_rg r8 73 a1) rfl rfl) (fun c18 => ?_) (fun c18 => ?_)
        · replace hp := ip c18 hp
          refine ok (m_aload_n (q := 100) rfl rfl rfl rfl) ?_
          refine ok (m_iconst (q := 101) rfl rfl rfl) ?_
          refine ok (m_aload_n (q := 102) rfl rfl rfl rfl) ?_
          refine ok (m_gfc (q := 105) rfl rfl rfl r8 rfl rfl rfl) ?_
          refine ok (m_iload_n (q := 106) rfl rfl rfl rfl) ?_
          refine ok (m_ials (q := 107) rfl rfl rfl r8 rfl rfl g1 rfl) ?_
          refine ok (m_iload_n (q := 108) rfl rfl rfl rfl) ?_
          refine ok (m_iload_n (q := 109) rfl rfl rfl rfl) ?_
          refine ok (m_iload_n (q := 110) rfl rfl rfl rfl) ?_
          obtain ⟨g21, hp⟩ := hp
          refine oke (e_ci (x_cv (q := 113) rfl rfl rfl rfl rfl rfl rfl rfl rfl rfl (is_st r8 rfl rfl)) (ev_X12_firstOf (D := D) 4 (D 78 a2) a2 a1 a3 ⟨by decide, by decide⟩ (Rp_rg r8 78 a2) h2 h1 h3 g21) (Nat.le_trans (by decide) hd) r8) (fun s19 r20 => ?_)
          refine ok (m_istore (q := 115) (lo' := [some (am_r (some 70)), some (am_i (wz a1)), some (am_i (wz a2)), some (am_i (wz a3)), some (am_i (wz (w_fhM D 4 (D 78 a2) a2 a1 a3)))]) rfl rfl rfl rfl rfl) ?_
          refine ok (m_iload (q := 117) rfl rfl rfl rfl) ?_
          refine ok (m_iconst (q := 118) rfl rfl rfl) ?_
          refine okp (m_cmpeq (qt := 141) (qf := 121) rfl rfl (Ev_rg (ev_X12_firstOf (D := D) 4 (D 78 a2) a2 a1 a3 ⟨by decide, by decide⟩ (Rp_rg r8 78 a2) h2 h1 h3 g21) r8) ⟨by decide, by decide⟩ rfl rfl) (fun c22 => ?_) (fun c22 => ?_)
          · refine ok (m_iconst (q := 142) rfl rfl rfl) ?_
            exact ok (m_reti rfl rfl) (ok_i r20 ⟨by decide, by decide⟩)
          · replace hp := iq c22 hp
            refine ok (m_aload_n (q := 122) rfl rfl rfl rfl) ?_
            refine ok (m_gfc (q := 125) rfl rfl rfl r20 rfl rfl rfl) ?_
            refine ok (m_iload_n (q := 126) rfl rfl rfl rfl) ?_
            refine ok (m_ials (q := 127) rfl rfl rfl r20 rfl rfl g1 rfl) ?_
            refine ok (m_aload_n (q := 128) rfl rfl rfl rfl) ?_
            refine ok (m_gfc (q := 131) rfl rfl rfl r20 rfl rfl rfl) ?_
            refine ok (m_iload (q := 133) rfl rfl rfl rfl) ?_
            have g23 := hp
            refine ok (m_ials (q := 134) rfl rfl rfl r20 rfl rfl g23 rfl) ?_
            refine okp (m_cmpge (qt := 141) (qf := 137) rfl rfl (Rp_rg r20 79 a2) (Rp_rg r20 96 (w_fhM D 4 (D 78 a2) a2 a1 a3)) rfl rfl) (fun c24 => ?_) (fun c24 => ?_)
            · refine ok (m_iconst (q := 142) rfl rfl rfl) ?_
              exact ok (m_reti rfl rfl) (ok_i r20 ⟨by decide, by decide⟩)
            · refine ok (m_iconst (q := 138) rfl rfl rfl) ?_
              refine ok (m_goto (q := 142) rfl rfl rfl) ?_
              exact ok (m_reti rfl rfl) (ok_i r20 ⟨by decide, by decide⟩)
        · replace hp := iq c18 hp
          refine ok (m_aload_n (q := 83) rfl rfl rfl rfl) ?_
          refine ok (m_aload_n (q := 84) rfl rfl rfl rfl) ?_
          refine ok (m_iload_n (q := 85) rfl rfl rfl rfl) ?_
          obtain ⟨g27, hp⟩ := hp
          refine oke (e_ci (x_cv (q := 88) rfl rfl rfl rfl rfl rfl rfl rfl rfl rfl (is_st r8 rfl rfl)) (ev_X12_inForce (D := D) a3 h3 g27) (Nat.le_trans (by decide) hd) r8) (fun s25 r26 => ?_)
          refine ok (m_iconst (q := 89) rfl rfl rfl) ?_
          refine ok (m_iconst (q := 90) rfl rfl rfl) ?_
          obtain ⟨g30, hp⟩ := hp
          refine oke (e_ci (x_cv (q := 93) rfl rfl rfl rfl rfl rfl rfl rfl rfl rfl (is_st r26 rfl rfl)) (ev_X12_last (D := D) (w_inForce D a3) 5 0 (Ev_rg (ev_X12_inForce (D := D) a3 h3 g27) r8) ⟨by decide, by decide⟩ ⟨by decide, by decide⟩ g30) (Nat.le_trans (by decide) hd) r26) (fun s28 r29 => ?_)
          refine ok (m_iconst (q := 94) rfl rfl rfl) ?_
          refine okp (m_cmpne (qt := 99) (qf := 97) rfl rfl (Ev_rg (ev_X12_last (D := D) (w_inForce D a3) 5 0 (Ev_rg (ev_X12_inForce (D := D) a3 h3 g27) r8) ⟨by decide, by decide⟩ ⟨by decide, by decide⟩ g30) r26) ⟨by decide, by decide⟩ rfl rfl) (fun c31 => ?_) (fun c31 => ?_)
          · refine ok (m_iconst (q := 98) rfl rfl rfl) ?_
            exact ok (m_reti rfl rfl) (ok_i r29 ⟨by decide, by decide⟩)
          · replace hp := iq c31 hp
            refine ok (m_aload_n (q := 100) rfl rfl rfl rfl) ?_
            refine ok (m_iconst (q := 101) rfl rfl rfl) ?_
            refine ok (m_aload_n (q := 102) rfl rfl rfl rfl) ?_
            refine ok (m_gfc (q := 105) rfl rfl rfl r29 rfl rfl rfl) ?_
            refine ok (m_iload_n (q := 106) rfl rfl rfl rfl) ?_
            refine ok (m_ials (q := 107) rfl rfl rfl r29 rfl rfl g1 rfl) ?_
            refine ok (m_iload_n (q := 108) rfl rfl rfl rfl) ?_
            refine ok (m_iload_n (q := 109) rfl rfl rfl rfl) ?_
            refine ok (m_iload_n (q := 110) rfl rfl rfl rfl) ?_
            obtain ⟨g34, hp⟩ := hp
            refine oke (e_ci (x_cv (q := 113) rfl rfl rfl rfl rfl rfl rfl rfl rfl rfl (is_st r29 rfl rfl)) (ev_X12_firstOf (D := D) 4 (D 78 a2) a2 a1 a3 ⟨by decide, by decide⟩ (Rp_rg r29 78 a2) h2 h1 h3 g34) (Nat.le_trans (by decide) hd) r29) (fun s32 r33 => ?_)
            refine ok (m_istore (q := 115) (lo' := [some (am_r (some 70)), some (am_i (wz a1)), some (am_i (wz a2)), some (am_i (wz a3)), some (am_i (wz (w_fhM D 4 (D 78 a2) a2 a1 a3)))]) rfl rfl rfl rfl rfl) ?_
            refine ok (m_iload (q := 117) rfl rfl rfl rfl) ?_
            refine ok (m_iconst (q := 118) rfl rfl rfl) ?_
            refine okp (m_cmpeq (qt := 141) (qf := 121) rfl rfl (Ev_rg (ev_X12_firstOf (D := D) 4 (D 78 a2) a2 a1 a3 ⟨by decide, by decide⟩ (Rp_rg r29 78 a2) h2 h1 h3 g34) r29) ⟨by decide, by decide⟩ rfl rfl) (fun c35 => ?_) (fun c35 => ?_)
            · refine ok (m_iconst (q := 142) rfl rfl rfl) ?_
              exact ok (m_reti rfl rfl) (ok_i r33 ⟨by decide, by decide⟩)
            · replace hp := iq c35 hp
              refine ok (m_aload_n (q := 122) rfl rfl rfl rfl) ?_
              refine ok (m_gfc (q := 125) rfl rfl rfl r33 rfl rfl rfl) ?_
              refine ok (m_iload_n (q := 126) rfl rfl rfl rfl) ?_
              refine ok (m_ials (q := 127) rfl rfl rfl r33 rfl rfl g1 rfl) ?_
              refine ok (m_aload_n (q := 128) rfl rfl rfl rfl) ?_
              refine ok (m_gfc (q := 131) rfl rfl rfl r33 rfl rfl rfl) ?_
              refine ok (m_iload (q := 133) rfl rfl rfl rfl) ?_
              have g36 := hp
              refine ok (m_ials (q := 134) rfl rfl rfl r33 rfl rfl g36 rfl) ?_
              refine okp (m_cmpge (qt := 141) (qf := 137) rfl rfl (Rp_rg r33 79 a2) (Rp_rg r33 96 (w_fhM D 4 (D 78 a2) a2 a1 a3)) rfl rfl) (fun c37 => ?_) (fun c37 => ?_)
              · refine ok (m_iconst (q := 142) rfl rfl rfl) ?_
                exact ok (m_reti rfl rfl) (ok_i r33 ⟨by decide, by decide⟩)
              · refine ok (m_iconst (q := 138) rfl rfl rfl) ?_
                refine ok (m_goto (q := 142) rfl rfl rfl) ?_
                exact ok (m_reti rfl rfl) (ok_i r33 ⟨by decide, by decide⟩)
    · refine ok (m_iconst (q := 56) rfl rfl rfl) ?_
      exact ok (m_reti rfl rfl) (ok_i r8 ⟨by decide, by decide⟩)
  · refine ok (m_iconst (q := 23) rfl rfl rfl) ?_
    exact ok (m_reti rfl rfl) (ok_i hr ⟨by decide, by decide⟩)
abbrev P_X12_feeOf : Nat → Option am_E := am_fy tb_X12_feeOf
noncomputable def v_X12_feeOf (D : aD) (a1 : Int) (a2 : Int) : Int := if w_fhM D 0 a2 (D 84 a1) (D 83 a1) (D 85 a1) = (-1) then 0 else wr ((D 96 (w_fhM D 0 a2 (D 84 a1) (D 83 a1) (D 85 a1))) + (wr ((wr ((D 79 (D 84 a1)) * (D 97 (w_fhM D 0 a2 (D 84 a1) (D 83 a1) (D 85 a1))))).tdiv 100)))
def p_X12_feeOf (D : aD) (a1 : Int) (a2 : Int) : Prop := (0 ≤ a1 ∧ a1 < 60) ∧ (p_fhM D 0 a2 (D 84 a1) (D 83 a1) (D 85 a1)) ∧ (if w_fhM D 0 a2 (D 84 a1) (D 83 a1) (D 85 a1) = (-1) then True else (0 ≤ w_fhM D 0 a2 (D 84 a1) (D 83 a1) (D 85 a1) ∧ w_fhM D 0 a2 (D 84 a1) (D 83 a1) (D 85 a1) < 270) ∧ (0 ≤ D 84 a1 ∧ D 84 a1 < 30))
set_option maxRecDepth 100000 in
theorem ev_X12_feeOf {A : aA} {D : aD} (a1 : Int) (a2 : Int) (h1 : rg a1) (h2 : rg a2) (hp : p_X12_feeOf D a1 a2) : Ev (1) 42 146 [am_r (some 70), am_i (wz a1), am_i (wz a2)] A D (ri (v_X12_feeOf D a1 a2)) A D := by
  unfold p_X12_feeOf at hp
  unfold v_X12_feeOf
  refine Ev_of (c := 41) (P := P_X12_feeOf) (lo := [some (am_r (some 70)), some (am_i (wz a1)), some (am_i (wz a2)), none]) rfl rfl rfl (fun d hd s hr => ?_)
  refine ok (m_aload_n (q := 1) rfl rfl rfl rfl) ?_
  refine ok (m_iconst (q := 2) rfl rfl rfl) ?_
  refine ok (m_iload_n (q := 3) rfl rfl rfl rfl) ?_
  refine ok (m_aload_n (q := 4) rfl rfl rfl rfl) ?_
  refine ok (m_gfc (q := 7) rfl rfl rfl hr rfl rfl rfl) ?_
  refine ok (m_iload_n (q := 8) rfl rfl rfl rfl) ?_
  obtain ⟨g1, hp⟩ := hp
  refine ok (m_ials (q := 9) rfl rfl rfl hr rfl rfl g1 rfl) ?_
  refine ok (m_aload_n (q := 10) rfl rfl rfl rfl) ?_
  refine ok (m_gfc (q := 13) rfl rfl rfl hr rfl rfl rfl) ?_
  refine ok (m_iload_n (q := 14) rfl rfl rfl rfl) ?_
  refine ok (m_ials (q := 15) rfl rfl rfl hr rfl rfl g1 rfl) ?_
  refine ok (m_aload_n (q := 16) rfl rfl rfl rfl) ?_
  refine ok (m_gfc (q := 19) rfl rfl rfl hr rfl rfl rfl) ?_
  refine ok (m_iload_n (q := 20) rfl rfl rfl rfl) ?_
  refine ok (m_ials (q := 21) rfl rfl rfl hr rfl rfl g1 rfl) ?_
  obtain ⟨g4, hp⟩ := hp
  refine oke (e_ci (x_cv (q := 24) rfl rfl rfl rfl rfl rfl rfl rfl rfl rfl (is_st hr rfl rfl)) (ev_X12_firstOf (D := D) 0 a2 (D 84 a1) (D 83 a1) (D 85 a1) ⟨by decide, by decide⟩ h2 (Rp_rg hr 84 a1) (Rp_rg hr 83 a1) (Rp_rg hr 85 a1) g4) (Nat.le_trans (by decide) hd) hr) (fun s2 r3 => ?_)
  refine ok (m_istore_n (q := 25) (lo' := [some (am_r (some 70)), some (am_i (wz a1)), some (am_i (wz a2)), some (am_i (wz (w_fhM D 0 a2 (D 84 a1) (D 83 a1) (D 85 a1))))]) rfl rfl rfl rfl rfl) ?_
  refine ok (m_iload_n (q := 26) rfl rfl rfl rfl) ?_
  refine ok (m_iconst (q := 27) rfl rfl rfl) ?_
  refine okp (m_cmpne (qt := 34) (qf := 30) rfl rfl (Ev_rg (ev_X12_firstOf (D := D) 0 a2 (D 84 a1) (D 83 a1) (D 85 a1) ⟨by decide, by decide⟩ h2 (Rp_rg hr 84 a1) (Rp_rg hr 83 a1) (Rp_rg hr 85 a1) g4) hr) ⟨by decide, by decide⟩ rfl rfl) (fun c5 => ?_) (fun c5 => ?_)
  · refine ok (m_iconst (q := 31) rfl rfl rfl) ?_
    refine ok (m_goto (q := 62) rfl rfl rfl) ?_
    exact ok (m_reti rfl rfl) (ok_i r3 ⟨by decide, by decide⟩)
  · replace hp := iq c5 hp
    refine ok (m_aload_n (q := 35) rfl rfl rfl rfl) ?_
    refine ok (m_gfc (q := 38) rfl rfl rfl r3 rfl rfl rfl) ?_
    refine ok (m_iload_n (q := 39) rfl rfl rfl rfl) ?_
    obtain ⟨g6, hp⟩ := hp
    refine ok (m_ials (q := 40) rfl rfl rfl r3 rfl rfl g6 rfl) ?_
    refine ok (m_aload_n (q := 41) rfl rfl rfl rfl) ?_
    refine ok (m_gfc (q := 44) rfl rfl rfl r3 rfl rfl rfl) ?_
    refine ok (m_aload_n (q := 45) rfl rfl rfl rfl) ?_
    refine ok (m_gfc (q := 48) rfl rfl rfl r3 rfl rfl rfl) ?_
    refine ok (m_iload_n (q := 49) rfl rfl rfl rfl) ?_
    refine ok (m_ials (q := 50) rfl rfl rfl r3 rfl rfl g1 rfl) ?_
    have g7 := hp
    refine ok (m_ials (q := 51) rfl rfl rfl r3 rfl rfl g7 rfl) ?_
    refine ok (m_aload_n (q := 52) rfl rfl rfl rfl) ?_
    refine ok (m_gfc (q := 55) rfl rfl rfl r3 rfl rfl rfl) ?_
    refine ok (m_iload_n (q := 56) rfl rfl rfl rfl) ?_
    refine ok (m_ials (q := 57) rfl rfl rfl r3 rfl rfl g6 rfl) ?_
    refine ok (m_imul (q := 58) rfl rfl rfl) ?_
    refine ok (m_bipush (q := 60) rfl rfl rfl) ?_
    refine ok (m_idiv (q := 61) rfl rfl (rg_wr _) ⟨by decide, by decide⟩ (by decide) rfl) ?_
    refine ok (m_iadd (q := 62) rfl rfl rfl) ?_
    exact ok (m_reti rfl rfl) (ok_i r3 (rg_wr _))
abbrev P_X12_backOf : Nat → Option am_E := am_fy tb_X12_backOf
noncomputable def v_X12_backOf (D : aD) (a1 : Int) : Int := if D 88 a1 = (-1) then 0 else if w_last D (w_inForce D (D 85 a1)) 2 0 = (-1) then 0 else if wr ((D 88 a1) - (D 85 a1)) ≤ D 97 (w_last D (w_inForce D (D 85 a1)) 2 0) then wr ((wr ((v_X12_feeOf D a1 0) * (D 96 (w_last D (w_inForce D (D 85 a1)) 2 0)))).tdiv 100) else 0
def p_X12_backOf (D : aD) (a1 : Int) : Prop := (0 ≤ a1 ∧ a1 < 60) ∧ (p_inv1 D (D 85 a1)) ∧ (p_last D (w_inForce D (D 85 a1)) 2 0) ∧ (if D 88 a1 = (-1) then True else (if w_last D (w_inForce D (D 85 a1)) 2 0 = (-1) then True else (0 ≤ w_last D (w_inForce D (D 85 a1)) 2 0 ∧ w_last D (w_inForce D (D 85 a1)) 2 0 < 270) ∧ (if wr ((D 88 a1) - (D 85 a1)) ≤ D 97 (w_last D (w_inForce D (D 85 a1)) 2 0) then (p_X12_feeOf D a1 0) else True)))
set_option maxRecDepth 100000 in
theorem ev_X12_backOf {A : aA} {D : aD} (a1 : Int) (h1 : rg a1) (hp : p_X12_backOf D a1) : Ev (1) 43 147 [am_r (some 70), am_i (wz a1)] A D (ri (v_X12_backOf D a1)) A D := by
  unfold p_X12_backOf at hp
  unfold v_X12_backOf
  refine Ev_of (c := 42) (P := P_X12_backOf) (lo := [some (am_r (some 70)), some (am_i (wz a1)), none]) rfl rfl rfl (fun d hd s hr => ?_)
  refine ok (m_aload_n (q := 1) rfl rfl rfl rfl) ?_
  refine ok (m_aload_n (q := 2) rfl rfl rfl rfl) ?_
  refine ok (m_aload_n (q := 3) rfl rfl rfl rfl) ?_
  refine ok (m_gfc (q := 6) rfl rfl rfl hr rfl rfl rfl) ?_
  refine ok (m_iload_n (q := 7) rfl rfl rfl rfl) ?_
  obtain ⟨g1, hp⟩ := hp
  refine ok (m_ials (q := 8) rfl rfl rfl hr rfl rfl g1 rfl) ?_
  obtain ⟨g4, hp⟩ := hp
  refine oke (e_ci (x_cv (q := 11) rfl rfl rfl rfl rfl rfl rfl rfl rfl rfl (is_st hr rfl rfl)) (ev_X12_inForce (D := D) (D 85 a1) (Rp_rg hr 85 a1) g4) (Nat.le_trans (by decide) hd) hr) (fun s2 r3 => ?_)
  refine ok (m_iconst (q := 12) rfl rfl rfl) ?_
  refine ok (m_iconst (q := 13) rfl rfl rfl) ?_
  obtain ⟨g7, hp⟩ := hp
  refine oke (e_ci (x_cv (q := 16) rfl rfl rfl rfl rfl rfl rfl rfl rfl rfl (is_st r3 rfl rfl)) (ev_X12_last (D := D) (w_inForce D (D 85 a1)) 2 0 (Ev_rg (ev_X12_inForce (D := D) (D 85 a1) (Rp_rg hr 85 a1) g4) hr) ⟨by decide, by decide⟩ ⟨by decide, by decide⟩ g7) (Nat.le_trans (by decide) hd) r3) (fun s5 r6 => ?_)
  refine ok (m_istore_n (q := 17) (lo' := [some (am_r (some 70)), some (am_i (wz a1)), some (am_i (wz (w_last D (w_inForce D (D 85 a1)) 2 0)))]) rfl rfl rfl rfl rfl) ?_
  refine ok (m_aload_n (q := 18) rfl rfl rfl rfl) ?_
  refine ok (m_gfc (q := 21) rfl rfl rfl r6 rfl rfl rfl) ?_
  refine ok (m_iload_n (q := 22) rfl rfl rfl rfl) ?_
  refine ok (m_ials (q := 23) rfl rfl rfl r6 rfl rfl g1 rfl) ?_
  refine ok (m_iconst (q := 24) rfl rfl rfl) ?_
  refine okp (m_cmpeq (qt := 54) (qf := 27) rfl rfl (Rp_rg r6 88 a1) ⟨by decide, by decide⟩ rfl rfl) (fun c8 => ?_) (fun c8 => ?_)
  · refine ok (m_iconst (q := 55) rfl rfl rfl) ?_
    refine ok (m_goto (q := 74) rfl rfl rfl) ?_
    exact ok (m_reti rfl rfl) (ok_i r6 ⟨by decide, by decide⟩)
  · replace hp := iq c8 hp
    refine ok (m_iload_n (q := 28) rfl rfl rfl rfl) ?_
    refine ok (m_iconst (q := 29) rfl rfl rfl) ?_
    refine okp (m_cmpeq (qt := 54) (qf := 32) rfl rfl (Ev_rg (ev_X12_last (D := D) (w_inForce D (D 85 a1)) 2 0 (Ev_rg (ev_X12_inForce (D := D) (D 85 a1) (Rp_rg hr 85 a1) g4) hr) ⟨by decide, by decide⟩ ⟨by decide, by decide⟩ g7) r3) ⟨by decide, by decide⟩ rfl rfl) (fun c9 => ?_) (fun c9 => ?_)
    · refine ok (m_iconst (q := 55) rfl rfl rfl) ?_
      refine ok (m_goto (q := 74) rfl rfl rfl) ?_
      exact ok (m_reti rfl rfl) (ok_i r6 ⟨by decide, by decide⟩)
    · replace hp := iq c9 hp
      refine ok (m_aload_n (q := 33) rfl rfl rfl rfl) ?_
      refine ok (m_gfc (q := 36) rfl rfl rfl r6 rfl rfl rfl) ?_
      refine ok (m_iload_n (q := 37) rfl rfl rfl rfl) ?_
      refine ok (m_ials (q := 38) rfl rfl rfl r6 rfl rfl g1 rfl) ?_
      refine ok (m_aload_n (q := 39) rfl rfl rfl rfl) ?_
      refine ok (m_gfc (q := 42) rfl rfl rfl r6 rfl rfl rfl) ?_
      refine ok (m_iload_n (q := 43) rfl rfl rfl rfl) ?_
      refine ok (m_ials (q := 44) rfl rfl rfl r6 rfl rfl g1 rfl) ?_
      refine ok (m_isub (q := 45) rfl rfl rfl) ?_
      refine ok (m_aload_n (q := 46) rfl rfl rfl rfl) ?_
      refine ok (m_gfc (q := 49) rfl rfl rfl r6 rfl rfl rfl) ?_
      refine ok (m_iload_n (q := 50) rfl rfl rfl rfl) ?_
      obtain ⟨g10, hp⟩ := hp
      refine ok (m_ials (q := 51) rfl rfl rfl r6 rfl rfl g10 rfl) ?_
      refine okp (m_cmple (qt := 58) (qf := 54) rfl rfl (rg_wr _) (Rp_rg r6 97 (w_last D (w_inForce D (D 85 a1)) 2 0)) rfl rfl) (fun c11 => ?_) (fun c11 => ?_)
      · replace hp := ip c11 hp
        refine ok (m_aload_n (q := 59) rfl rfl rfl rfl) ?_
        refine ok (m_iload_n (q := 60) rfl rfl rfl rfl) ?_
        refine ok (m_iconst (q := 61) rfl rfl rfl) ?_
        have g14 := hp
        refine oke (e_ci (x_cv (q := 64) rfl rfl rfl rfl rfl rfl rfl rfl rfl rfl (is_st r6 rfl rfl)) (ev_X12_feeOf (D := D) a1 0 h1 ⟨by decide, by decide⟩ g14) (Nat.le_trans (by decide) hd) r6) (fun s12 r13 => ?_)
        refine ok (m_aload_n (q := 65) rfl rfl rfl rfl) ?_
        refine ok (m_gfc (q := 68) rfl rfl rfl r13 rfl rfl rfl) ?_
        refine ok (m_iload_n (q := 69) rfl rfl rfl rfl) ?_
        refine ok (m_ials (q := 70) rfl rfl rfl r13 rfl rfl g10 rfl) ?_
        refine ok (m_imul (q := 71) rfl rfl rfl) ?_
        refine ok (m_bipush (q := 73) rfl rfl rfl) ?_
        refine ok (m_idiv (q := 74) rfl rfl (rg_wr _) ⟨by decide, by decide⟩ (by decide) rfl) ?_
        exact ok (m_reti rfl rfl) (ok_i r13 (rg_wr _))
      · refine ok (m_iconst (q := 55) rfl rfl rfl) ?_
        refine ok (m_goto (q := 74) rfl rfl rfl) ?_
        exact ok (m_reti rfl rfl) (ok_i r6 ⟨by decide, by decide⟩)
abbrev P_X12_owedOf : Nat → Option am_E := am_fy tb_X12_owedOf
def v_X12_owedOf (D : aD) (a1 : Int) : Int := if D 88 a1 = (-1) then 0 else if D 90 a1 = 0 then 0 else if D 90 a1 = 4 then 0 else wr (-(wr ((wr ((D 79 (D 84 a1)) * (max 0 (wr ((v_X12_tells D (D 88 a1) 1 0 30) - (D 89 a1)))))).tdiv 30)))
def p_X12_owedOf (D : aD) (a1 : Int) : Prop := (0 ≤ a1 ∧ a1 < 60) ∧ (if D 88 a1 = (-1) then True else (if D 90 a1 = 0 then True else (if D 90 a1 = 4 then True else (p_X12_tells D (D 88 a1) 1 0 30) ∧ (0 ≤ D 84 a1 ∧ D 84 a1 < 30))))
set_option maxRecDepth 100000 in
theorem ev_X12_owedOf {n : Nat} {A : aA} {D : aD} (a1 : Int) (h1 : rg a1) (hp : p_X12_owedOf D a1) : Ev (n) 3 148 [am_r (some 70), am_i (wz a1)] A D (ri (v_X12_owedOf D a1)) A D := by
  unfold p_X12_owedOf at hp
  unfold v_X12_owedOf
  refine Ev_of (c := 2) (P := P_X12_owedOf) (lo := [some (am_r (some 70)), some (am_i (wz a1)), none]) rfl rfl rfl (fun d hd s hr => ?_)
  refine ok (m_aload_n (q := 1) rfl rfl rfl rfl) ?_
  refine ok (m_gfc (q := 4) rfl rfl rfl hr rfl rfl rfl) ?_
  refine ok (m_iload_n (q := 5) rfl rfl rfl rfl) ?_
  obtain ⟨g1, hp⟩ := hp
  refine ok (m_ials (q := 6) rfl rfl rfl hr rfl rfl g1 rfl) ?_
  refine ok (m_iconst (q := 7) rfl rfl rfl) ?_
  refine okp (m_cmpeq (qt := 29) (qf := 10) rfl rfl (Rp_rg hr 88 a1) ⟨by decide, by decide⟩ rfl rfl) (fun c2 => ?_) (fun c2 => ?_)
  · refine ok (m_iconst (q := 30) rfl rfl rfl) ?_
    exact ok (m_reti rfl rfl) (ok_i hr ⟨by decide, by decide⟩)
  · replace hp := iq c2 hp
    refine ok (m_aload_n (q := 11) rfl rfl rfl rfl) ?_
    refine ok (m_gfc (q := 14) rfl rfl rfl hr rfl rfl rfl) ?_
    refine ok (m_iload_n (q := 15) rfl rfl rfl rfl) ?_
    refine ok (m_ials (q := 16) rfl rfl rfl hr rfl rfl g1 rfl) ?_
    refine okp (m_ifeq (qt := 29) (qf := 19) rfl rfl (Rp_rg hr 90 a1) rfl rfl) (fun c3 => ?_) (fun c3 => ?_)
    · refine ok (m_iconst (q := 30) rfl rfl rfl) ?_
      exact ok (m_reti rfl rfl) (ok_i hr ⟨by decide, by decide⟩)
    · replace hp := iq c3 hp
      refine ok (m_aload_n (q := 20) rfl rfl rfl rfl) ?_
      refine ok (m_gfc (q := 23) rfl rfl rfl hr rfl rfl rfl) ?_
      refine ok (m_iload_n (q := 24) rfl rfl rfl rfl) ?_
      refine ok (m_ials (q := 25) rfl rfl rfl hr rfl rfl g1 rfl) ?_
      refine ok (m_iconst (q := 26) rfl rfl rfl) ?_
      refine okp (m_cmpne (qt := 31) (qf := 29) rfl rfl (Rp_rg hr 90 a1) ⟨by decide, by decide⟩ rfl rfl) (fun c4 => ?_) (fun c4 => ?_)
      · refine ok (m_iconst (q := 30) rfl rfl rfl) ?_
        exact ok (m_reti rfl rfl) (ok_i hr ⟨by decide, by decide⟩)
      · replace hp := iq c4 hp
        refine ok (m_iconst (q := 32) rfl rfl rfl) ?_
        refine ok (m_aload_n (q := 33) rfl rfl rfl rfl) ?_
        refine ok (m_aload_n (q := 34) rfl rfl rfl rfl) ?_
        refine ok (m_gfc (q := 37) rfl rfl rfl hr rfl rfl rfl) ?_
        refine ok (m_iload_n (q := 38) rfl rfl rfl rfl) ?_
        refine ok (m_ials (q := 39) rfl rfl rfl hr rfl rfl g1 rfl) ?_
        refine ok (m_iconst (q := 40) rfl rfl rfl) ?_
        refine ok (m_iconst (q := 41) rfl rfl rfl) ?_
        refine ok (m_bipush (q := 43) rfl rfl rfl) ?_
        obtain ⟨g7, hp⟩ := hp
        refine oke (e_ci (x_cv (q := 46) rfl rfl rfl rfl rfl rfl rfl rfl rfl rfl (is_st hr rfl rfl)) (ev_X12_tells (D := D) (D 88 a1) 1 0 30 (Rp_rg hr 88 a1) ⟨by decide, by decide⟩ ⟨by decide, by decide⟩ ⟨by decide, by decide⟩ g7) (Nat.le_trans (by decide) hd) hr) (fun s5 r6 => ?_)
        refine ok (m_aload_n (q := 47) rfl rfl rfl rfl) ?_
        refine ok (m_gfc (q := 50) rfl rfl rfl r6 rfl rfl rfl) ?_
        refine ok (m_iload_n (q := 51) rfl rfl rfl rfl) ?_
        refine ok (m_ials (q := 52) rfl rfl rfl r6 rfl rfl g1 rfl) ?_
        refine ok (m_isub (q := 53) rfl rfl rfl) ?_
        refine ok (m_max (q := 56) rfl rfl rfl ⟨by decide, by decide⟩ (rg_wr _) rfl) ?_
        refine ok (m_istore_n (q := 57) (lo' := [some (am_r (some 70)), some (am_i (wz a1)), some (am_i (wz (max 0 (wr ((v_X12_tells D (D 88 a1) 1 0 30) - (D 89 a1))))))]) rfl rfl rfl rfl rfl) ?_
        refine ok (m_aload_n (q := 58) rfl rfl rfl rfl) ?_
        refine ok (m_gfc (q := 61) rfl rfl rfl r6 rfl rfl rfl) ?_
        refine ok (m_aload_n (q := 62) rfl rfl rfl rfl) ?_
        refine ok (m_gfc (q := 65) rfl rfl rfl r6 rfl rfl rfl) ?_
        refine ok (m_iload_n (q := 66) rfl rfl rfl rfl) ?_
        refine ok (m_ials (q := 67) rfl rfl rfl r6 rfl rfl g1 rfl) ?_
        have g8 := hp
        refine ok (m_ials (q := 68) rfl rfl rfl r6 rfl rfl g8 rfl) ?_
        refine ok (m_iload_n (q := 69) rfl rfl rfl rfl) ?_
        refine ok (m_imul (q := 70) rfl rfl rfl) ?_
        refine ok (m_bipush (q := 72) rfl rfl rfl) ?_
        refine ok (m_idiv (q := 73) rfl rfl (rg_wr _) ⟨by decide, by decide⟩ (by decide) rfl) ?_
        refine ok (m_ineg (q := 74) rfl rfl rfl) ?_
        exact ok (m_reti rfl rfl) (ok_i r6 (rg_wr _))
abbrev P_X12_placed : Nat → Option am_E := am_fy tb_X12_placed
noncomputable def v_X12_placed (D : aD) (a1 : Int) (a2 : Int) : Int := if v_X12_isPlacing D a1 = 0 then (-2000000000) else if a2 = 0 then D 83 a1 else if a2 = 1 then D 84 a1 else if a2 = 2 then D 85 a1 else if a2 = 3 then D 88 a1 else if a2 = 4 then if D 88 a1 = (-1) then (-1) else D 90 a1 else if a2 = 5 then D 86 a1 else if a2 = 6 then if D 91 a1 = 5000 then (-1) else D 91 a1 else if a2 = 7 then if D 87 a1 = 5000 then (-1) else D 87 a1 else if a2 = 8 then v_X12_feeOf D a1 0 else if a2 = 9 then v_X12_feeOf D a1 1 else if a2 = 10 then v_X12_backOf D a1 else if a2 = 11 then v_X12_owedOf D a1 else (-2000000000)
def p_X12_placed (D : aD) (a1 : Int) (a2 : Int) : Prop := (if v_X12_isPlacing D a1 = 0 then True else (if a2 = 0 then (0 ≤ a1 ∧ a1 < 60) else (if a2 = 1 then (0 ≤ a1 ∧ a1 < 60) else (if a2 = 2 then (0 ≤ a1 ∧ a1 < 60) else (if a2 = 3 then (0 ≤ a1 ∧ a1 < 60) else (if a2 = 4 then (0 ≤ a1 ∧ a1 < 60) else (if a2 = 5 then (0 ≤ a1 ∧ a1 < 60) else (if a2 = 6 then (0 ≤ a1 ∧ a1 < 60) else (if a2 = 7 then (0 ≤ a1 ∧ a1 < 60) else (if a2 = 8 then (p_X12_feeOf D a1 0) else (if a2 = 9 then (p_X12_feeOf D a1 1) else (if a2 = 10 then (p_X12_backOf D a1) else (if a2 = 11 then (p_X12_owedOf D a1) else True)))))))))))))
set_option maxRecDepth 100000 in
theorem ev_X12_placed {A : aA} {D : aD} (a1 : Int) (a2 : Int) (h1 : rg a1) (h2 : rg a2) (hp : p_X12_placed D a1 a2) : Ev (1) 44 149 [am_r (some 70), am_i (wz a1), am_i (wz a2)] A D (ri (v_X12_placed D a1 a2)) A D := by
  unfold p_X12_placed at hp
  unfold v_X12_placed
  refine Ev_of (c := 43) (P := P_X12_placed) (lo := [some (am_r (some 70)), some (am_i (wz a1)), some (am_i (wz a2))]) rfl rfl rfl (fun d hd s hr => ?_)
  refine ok (m_aload_n (q := 1) rfl rfl rfl rfl) ?_
  refine ok (m_iload_n (q := 2) rfl rfl rfl rfl) ?_
  refine oke (e_ci (x_cv (q := 5) rfl rfl rfl rfl rfl rfl rfl rfl rfl rfl (is_st hr rfl rfl)) (ev_X12_isPlacing (D := D) a1 h1) (Nat.le_trans (by decide) hd) hr) (fun s1 r2 => ?_)
  refine okp (m_ifne (qt := 12) (qf := 8) rfl rfl (Ev_rg (ev_X12_isPlacing (D := D) a1 h1) hr) rfl rfl) (fun c3 => ?_) (fun c3 => ?_)
  · refine ok (m_ldc_w (q := 11) rfl rfl rfl) ?_
    exact ok (m_reti rfl rfl) (ok_i r2 ⟨by decide, by decide⟩)
  · replace hp := iq c3 hp
    refine ok (m_iload_n (q := 13) rfl rfl rfl rfl) ?_
    refine ok (m_tsw (z := 0) (qs := [76, 83, 90, 97, 104, 125, 132, 155, 178, 185, 192, 198]) (qd := 204) rfl rfl h2 rfl rfl rfl rfl) ?_
    refine okp (rfl) (fun c4 => ?_) (fun c4 => ?_)
    · replace hp := ip c4 hp
      refine ok (m_aload_n (q := 77) rfl rfl rfl rfl) ?_
      refine ok (m_gfc (q := 80) rfl rfl rfl r2 rfl rfl rfl) ?_
      refine ok (m_iload_n (q := 81) rfl rfl rfl rfl) ?_
      have g5 := hp
      refine ok (m_ials (q := 82) rfl rfl rfl r2 rfl rfl g5 rfl) ?_
      exact ok (m_reti rfl rfl) (ok_i r2 (Rp_rg r2 83 a1))
    · replace hp := iq c4 hp
      refine okp (rfl) (fun c6 => ?_) (fun c6 => ?_)
      · replace hp := ip c6 hp
        refine ok (m_aload_n (q := 84) rfl rfl rfl rfl) ?_
        refine ok (m_gfc (q := 87) rfl rfl rfl r2 rfl rfl rfl) ?_
        refine ok (m_iload_n (q := 88) rfl rfl rfl rfl) ?_
        have g7 := hp
        refine ok (m_ials (q := 89) rfl rfl rfl r2 rfl rfl g7 rfl) ?_
        exact ok (m_reti rfl rfl) (ok_i r2 (Rp_rg r2 84 a1))
      · replace hp := iq c6 hp
        refine okp (rfl) (fun c8 => ?_) (fun c8 => ?_)
        · replace hp := ip c8 hp
          refine ok (m_aload_n (q := 91) rfl rfl rfl rfl) ?_
          refine ok (m_gfc (q := 94) rfl rfl rfl r2 rfl rfl rfl) ?_
          refine ok (m_iload_n (q := 95) rfl rfl rfl rfl) ?_
          have g9 := hp
          refine ok (m_ials (q := 96) rfl rfl rfl r2 rfl rfl g9 rfl) ?_
          exact ok (m_reti rfl rfl) (ok_i r2 (Rp_rg r2 85 a1))
        · replace hp := iq c8 hp
          refine okp (rfl) (fun c10 => ?_) (fun c10 => ?_)
          · replace hp := ip c10 hp
            refine ok (m_aload_n (q := 98) rfl rfl rfl rfl) ?_
            refine ok (m_gfc (q := 101) rfl rfl rfl r2 rfl rfl rfl) ?_
            refine ok (m_iload_n (q := 102) rfl rfl rfl rfl) ?_
            have g11 := hp
            refine ok (m_ials (q := 103) rfl rfl rfl r2 rfl rfl g11 rfl) ?_
            exact ok (m_reti rfl rfl) (ok_i r2 (Rp_rg r2 88 a1))
          · replace hp := iq c10 hp
            refine okp (rfl) (fun c12 => ?_) (fun c12 => ?_)
            · replace hp := ip c12 hp
              refine ok (m_aload_n (q := 105) rfl rfl rfl rfl) ?_
              refine ok (m_gfc (q := 108) rfl rfl rfl r2 rfl rfl rfl) ?_
              refine ok (m_iload_n (q := 109) rfl rfl rfl rfl) ?_
              have g13 := hp
              refine ok (m_ials (q := 110) rfl rfl rfl r2 rfl rfl g13 rfl) ?_
              refine ok (m_iconst (q := 111) rfl rfl rfl) ?_
              refine okp (m_cmpne (qt := 118) (qf := 114) rfl rfl (Rp_rg r2 88 a1) ⟨by decide, by decide⟩ rfl rfl) (fun c14 => ?_) (fun c14 => ?_)
              · refine ok (m_iconst (q := 115) rfl rfl rfl) ?_
                refine ok (m_goto (q := 124) rfl rfl rfl) ?_
                exact ok (m_reti rfl rfl) (ok_i r2 ⟨by decide, by decide⟩)
              · refine ok (m_aload_n (q := 119) rfl rfl rfl rfl) ?_
                refine ok (m_gfc (q := 122) rfl rfl rfl r2 rfl rfl rfl) ?_
                refine ok (m_iload_n (q := 123) rfl rfl rfl rfl) ?_
                refine ok (m_ials (q := 124) rfl rfl rfl r2 rfl rfl g13 rfl) ?_
                exact ok (m_reti rfl rfl) (ok_i r2 (Rp_rg r2 90 a1))
            · replace hp := iq c12 hp
              refine okp (rfl) (fun c15 => ?_) (fun c15 => ?_)
              · replace hp := ip c15 hp
                refine ok (m_aload_n (q := 126) rfl rfl rfl rfl) ?_
                refine ok (m_gfc (q := 129) rfl rfl rfl r2 rfl rfl rfl) ?_
                refine ok (m_iload_n (q := 130) rfl rfl rfl rfl) ?_
                have g16 := hp
                refine ok (m_ials (q := 131) rfl rfl rfl r2 rfl rfl g16 rfl) ?_
                exact ok (m_reti rfl rfl) (ok_i r2 (Rp_rg r2 86 a1))
              · replace hp := iq c15 hp
                refine okp (rfl) (fun c17 => ?_) (fun c17 => ?_)
                · replace hp := ip c17 hp
                  refine ok (m_aload_n (q := 133) rfl rfl rfl rfl) ?_
                  refine ok (m_gfc (q := 136) rfl rfl rfl r2 rfl rfl rfl) ?_
                  refine ok (m_iload_n (q := 137) rfl rfl rfl rfl) ?_
                  have g18 := hp
                  refine ok (m_ials (q := 138) rfl rfl rfl r2 rfl rfl g18 rfl) ?_
                  refine ok (m_sipush (q := 141) rfl rfl rfl) ?_
                  refine okp (m_cmpne (qt := 148) (qf := 144) rfl rfl (Rp_rg r2 91 a1) ⟨by decide, by decide⟩ rfl rfl) (fun c19 => ?_) (fun c19 => ?_)
                  · refine ok (m_iconst (q := 145) rfl rfl rfl) ?_
                    refine ok (m_goto (q := 154) rfl rfl rfl) ?_
                    exact ok (m_reti rfl rfl) (ok_i r2 ⟨by decide, by decide⟩)
                  · refine ok (m_aload_n (q := 149) rfl rfl rfl rfl) ?_
                    refine ok (m_gfc (q := 152) rfl rfl rfl r2 rfl rfl rfl) ?_
                    refine ok (m_iload_n (q := 153) rfl rfl rfl rfl) ?_
                    refine ok (m_ials (q := 154) rfl rfl rfl r2 rfl rfl g18 rfl) ?_
                    exact ok (m_reti rfl rfl) (ok_i r2 (Rp_rg r2 91 a1))
                · replace hp := iq c17 hp
                  refine okp (rfl) (fun c20 => ?_) (fun c20 => ?_)
                  · replace hp := ip c20 hp
                    refine ok (m_aload_n (q := 156) rfl rfl rfl rfl) ?_
                    refine ok (m_gfc (q := 159) rfl rfl rfl r2 rfl rfl rfl) ?_
                    refine ok (m_iload_n (q := 160) rfl rfl rfl rfl) ?_
                    have g21 := hp
                    refine ok (m_ials (q := 161) rfl rfl rfl r2 rfl rfl g21 rfl) ?_
                    refine ok (m_sipush (q := 164) rfl rfl rfl) ?_
                    refine okp (m_cmpne (qt := 171) (qf := 167) rfl rfl (Rp_rg r2 87 a1) ⟨by decide, by decide⟩ rfl rfl) (fun c22 => ?_) (fun c22 => ?_)
                    · refine ok (m_iconst (q := 168) rfl rfl rfl) ?_
                      refine ok (m_goto (q := 177) rfl rfl rfl) ?_
                      exact ok (m_reti rfl rfl) (ok_i r2 ⟨by decide, by decide⟩)
                    · refine ok (m_aload_n (q := 172) rfl rfl rfl rfl) ?_
                      refine ok (m_gfc (q := 175) rfl rfl rfl r2 rfl rfl rfl) ?_
                      refine ok (m_iload_n (q := 176) rfl rfl rfl rfl) ?_
                      refine ok (m_ials (q := 177) rfl rfl rfl r2 rfl rfl g21 rfl) ?_
                      exact ok (m_reti rfl rfl) (ok_i r2 (Rp_rg r2 87 a1))
                  · replace hp := iq c20 hp
                    refine okp (rfl) (fun c23 => ?_) (fun c23 => ?_)
                    · replace hp := ip c23 hp
                      refine ok (m_aload_n (q := 179) rfl rfl rfl rfl) ?_
                      refine ok (m_iload_n (q := 180) rfl rfl rfl rfl) ?_
                      refine ok (m_iconst (q := 181) rfl rfl rfl) ?_
                      have g26 := hp
                      refine oke (e_ci (x_cv (q := 184) rfl rfl rfl rfl rfl rfl rfl rfl rfl rfl (is_st r2 rfl rfl)) (ev_X12_feeOf (D := D) a1 0 h1 ⟨by decide, by decide⟩ g26) (Nat.le_trans (by decide) hd) r2) (fun s24 r25 => ?_)
                      exact ok (m_reti rfl rfl) (ok_i r25 (Ev_rg (ev_X12_feeOf (D := D) a1 0 h1 ⟨by decide, by decide⟩ g26) r2))
                    · replace hp := iq c23 hp
                      refine okp (rfl) (fun c27 => ?_) (fun c27 => ?_)
                      · replace hp := ip c27 hp
                        refine ok (m_aload_n (q := 186) rfl rfl rfl rfl) ?_
                        refine ok (m_iload_n (q := 187) rfl rfl rfl rfl) ?_
                        refine ok (m_iconst (q := 188) rfl rfl rfl) ?_
                        have g30 := hp
                        refine oke (e_ci (x_cv (q := 191) rfl rfl rfl rfl rfl rfl rfl rfl rfl rfl (is_st r2 rfl rfl)) (ev_X12_feeOf (D := D) a1 1 h1 ⟨by decide, by decide⟩ g30) (Nat.le_trans (by decide) hd) r2) (fun s28 r29 => ?_)
                        exact ok (m_reti rfl rfl) (ok_i r29 (Ev_rg (ev_X12_feeOf (D := D) a1 1 h1 ⟨by decide, by decide⟩ g30) r2))
                      · replace hp := iq c27 hp
                        refine okp (rfl) (fun c31 => ?_) (fun c31 => ?_)
                        · replace hp := ip c31 hp
                          refine ok (m_aload_n (q := 193) rfl rfl rfl rfl) ?_
                          refine ok (m_iload_n (q := 194) rfl rfl rfl rfl) ?_
                          have g34 := hp
                          refine oke (e_ci (x_cv (q := 197) rfl rfl rfl rfl rfl rfl rfl rfl rfl rfl (is_st r2 rfl rfl)) (ev_X12_backOf (D := D) a1 h1 g34) (Nat.le_trans (by decide) hd) r2) (fun s32 r33 => ?_)
                          exact ok (m_reti rfl rfl) (ok_i r33 (Ev_rg (ev_X12_backOf (D := D) a1 h1 g34) r2))
                        · replace hp := iq c31 hp
                          refine okp (rfl) (fun c35 => ?_) (fun c35 => ?_)
                          · replace hp := ip c35 hp
                            refine ok (m_aload_n (q := 199) rfl rfl rfl rfl) ?_
                            refine ok (m_iload_n (q := 200) rfl rfl rfl rfl) ?_
                            have g38 := hp
                            refine oke (e_ci (x_cv (q := 203) rfl rfl rfl rfl rfl rfl rfl rfl rfl rfl (is_st r2 rfl rfl)) (ev_X12_owedOf (D := D) a1 h1 g38) (Nat.le_trans (by decide) hd) r2) (fun s36 r37 => ?_)
                            exact ok (m_reti rfl rfl) (ok_i r37 (Ev_rg (ev_X12_owedOf (D := D) a1 h1 g38) r2))
                          · refine ok (m_ldc_w (q := 207) rfl rfl rfl) ?_
                            exact ok (m_reti rfl rfl) (ok_i r2 ⟨by decide, by decide⟩)
abbrev P_X12_law : Nat → Option am_E := am_fy tb_X12_law
def v_X12_law (D : aD) (a1 : Int) (a2 : Int) : Int := if v_X12_isDay D a1 = 0 then (-1) else if a2 = 0 then v_X12_tells D a1 1 0 30 else if a2 = 1 then v_X12_tells D a1 2 0 0 else if a2 = 2 then if w_last D (w_inForce D a1) 2 0 = (-1) then 0 else D 97 (w_last D (w_inForce D a1) 2 0) else if a2 = 3 then v_X12_tells D a1 7 0 0 else if a2 = 4 then v_X12_tells D a1 8 0 3 else if a2 = 5 then if w_last D (w_inForce D a1) 5 0 = (-1) then v_X12_one D 0 else v_X12_one D 1 else if a2 = 6 then if w_inForce D a1 = (-1) then 0 else D 92 (w_inForce D a1) else if a2 = 7 then w_inForce D a1 else if v_X12_isIn D a2 10 15 = 0 then (-1) else v_X12_tells D a1 3 (wr (a2 - 10)) 0
def p_X12_law (D : aD) (a1 : Int) (a2 : Int) : Prop := (if v_X12_isDay D a1 = 0 then True else (p_inv1 D a1) ∧ (if a2 = 0 then (p_X12_tells D a1 1 0 30) else (if a2 = 1 then (p_X12_tells D a1 2 0 0) else (if a2 = 2 then (p_last D (w_inForce D a1) 2 0) ∧ (if w_last D (w_inForce D a1) 2 0 = (-1) then True else (0 ≤ w_last D (w_inForce D a1) 2 0 ∧ w_last D (w_inForce D a1) 2 0 < 270)) else (if a2 = 3 then (p_X12_tells D a1 7 0 0) else (if a2 = 4 then (p_X12_tells D a1 8 0 3) else (if a2 = 5 then (p_last D (w_inForce D a1) 5 0) else (if a2 = 6 then (if w_inForce D a1 = (-1) then True else (0 ≤ w_inForce D a1 ∧ w_inForce D a1 < 9)) else (if a2 = 7 then True else (if v_X12_isIn D a2 10 15 = 0 then True else (p_X12_tells D a1 3 (wr (a2 - 10)) 0)))))))))))
set_option maxRecDepth 100000 in
theorem ev_X12_law {n : Nat} {A : aA} {D : aD} (a1 : Int) (a2 : Int) (h1 : rg a1) (h2 : rg a2) (hp : p_X12_law D a1 a2) : Ev (n) 3 177 [am_r (some 70), am_i (wz a1), am_i (wz a2)] A D (ri (v_X12_law D a1 a2)) A D := by
  unfold p_X12_law at hp
  unfold v_X12_law
  refine Ev_of (c := 2) (P := P_X12_law) (lo := [some (am_r (some 70)), some (am_i (wz a1)), some (am_i (wz a2)), none]) rfl rfl rfl (fun d hd s hr => ?_)
  refine ok (m_iload_n (q := 1) rfl rfl rfl rfl) ?_
  refine oke (e_ci (x_cs (q := 4) rfl rfl rfl rfl rfl rfl rfl rfl rfl) (ev_X12_isDay (D := D) a1 h1) (Nat.le_trans (by decide) hd) hr) (fun s1 r2 => ?_)
  refine okp (m_ifne (qt := 9) (qf := 7) rfl rfl (Ev_rg (ev_X12_isDay (D := D) a1 h1) hr) rfl rfl) (fun c3 => ?_) (fun c3 => ?_)
  · refine ok (m_iconst (q := 8) rfl rfl rfl) ?_
    exact ok (m_reti rfl rfl) (ok_i r2 ⟨by decide, by decide⟩)
  · replace hp := iq c3 hp
    refine ok (m_aload_n (q := 10) rfl rfl rfl rfl) ?_
    refine ok (m_iload_n (q := 11) rfl rfl rfl rfl) ?_
    obtain ⟨g6, hp⟩ := hp
    refine oke (e_ci (x_cv (q := 14) rfl rfl rfl rfl rfl rfl rfl rfl rfl rfl (is_st r2 rfl rfl)) (ev_X12_inForce (D := D) a1 h1 g6) (Nat.le_trans (by decide) hd) r2) (fun s4 r5 => ?_)
    refine ok (m_istore_n (q := 15) (lo' := [some (am_r (some 70)), some (am_i (wz a1)), some (am_i (wz a2)), some (am_i (wz (w_inForce D a1)))]) rfl rfl rfl rfl rfl) ?_
    refine ok (m_iload_n (q := 16) rfl rfl rfl rfl) ?_
    refine ok (m_tsw (z := 0) (qs := [64, 74, 83, 111, 121, 131, 151, 167]) (qd := 169) rfl rfl h2 rfl rfl rfl rfl) ?_
    refine okp (rfl) (fun c13 => ?_) (fun c13 => ?_)
    · replace hp := ip c13 hp
      refine ok (m_aload_n (q := 65) rfl rfl rfl rfl) ?_
      refine ok (m_iload_n (q := 66) rfl rfl rfl rfl) ?_
      refine ok (m_iconst (q := 67) rfl rfl rfl) ?_
      refine ok (m_iconst (q := 68) rfl rfl rfl) ?_
      refine ok (m_bipush (q := 70) rfl rfl rfl) ?_
      have g16 := hp
      refine oke (e_ci (x_cv (q := 73) rfl rfl rfl rfl rfl rfl rfl rfl rfl rfl (is_st r5 rfl rfl)) (ev_X12_tells (D := D) a1 1 0 30 h1 ⟨by decide, by decide⟩ ⟨by decide, by decide⟩ ⟨by decide, by decide⟩ g16) (Nat.le_trans (by decide) hd) r5) (fun s14 r15 => ?_)
      exact ok (m_reti rfl rfl) (ok_i r15 (Ev_rg (ev_X12_tells (D := D) a1 1 0 30 h1 ⟨by decide, by decide⟩ ⟨by decide, by decide⟩ ⟨by decide, by decide⟩ g16) r5))
    · replace hp := iq c13 hp
      refine okp (rfl) (fun c17 => ?_) (fun c17 => ?_)
      · replace hp := ip c17 hp
        refine ok (m_aload_n (q := 75) rfl rfl rfl rfl) ?_
        refine ok (m_iload_n (q := 76) rfl rfl rfl rfl) ?_
        refine ok (m_iconst (q := 77) rfl rfl rfl) ?_
        refine ok (m_iconst (q := 78) rfl rfl rfl) ?_
        refine ok (m_iconst (q := 79) rfl rfl rfl) ?_
        have g20 := hp
        refine oke (e_ci (x_cv (q := 82) rfl rfl rfl rfl rfl rfl rfl rfl rfl rfl (is_st r5 rfl rfl)) (ev_X12_tells (D := D) a1 2 0 0 h1 ⟨by decide, by decide⟩ ⟨by decide, by decide⟩ ⟨by decide, by decide⟩ g20) (Nat.le_trans (by decide) hd) r5) (fun s18 r19 => ?_)
        exact ok (m_reti rfl rfl) (ok_i r19 (Ev_rg (ev_X12_tells (D := D) a1 2 0 0 h1 ⟨by decide, by decide⟩ ⟨by decide, by decide⟩ ⟨by decide, by decide⟩ g20) r5))
      · replace hp := iq c17 hp
        refine okp (rfl) (fun c21 => ?_) (fun c21 => ?_)
        · replace hp := ip c21 hp
          refine ok (m_aload_n (q := 84) rfl rfl rfl rfl) ?_
          refine ok (m_iload_n (q := 85) rfl rfl rfl rfl) ?_
          refine ok (m_iconst (q := 86) rfl rfl rfl) ?_
          refine ok (m_iconst (q := 87) rfl rfl rfl) ?_
          obtain ⟨g24, hp⟩ := hp
          refine oke (e_ci (x_cv (q := 90) rfl rfl rfl rfl rfl rfl rfl rfl rfl rfl (is_st r5 rfl rfl)) (ev_X12_last (D := D) (w_inForce D a1) 2 0 (Ev_rg (ev_X12_inForce (D := D) a1 h1 g6) r2) ⟨by decide, by decide⟩ ⟨by decide, by decide⟩ g24) (Nat.le_trans (by decide) hd) r5) (fun s22 r23 => ?_)
          refine ok (m_iconst (q := 91) rfl rfl rfl) ?_
          refine okp (m_cmpne (qt := 98) (qf := 94) rfl rfl (Ev_rg (ev_X12_last (D := D) (w_inForce D a1) 2 0 (Ev_rg (ev_X12_inForce (D := D) a1 h1 g6) r2) ⟨by decide, by decide⟩ ⟨by decide, by decide⟩ g24) r5) ⟨by decide, by decide⟩ rfl rfl) (fun c25 => ?_) (fun c25 => ?_)
          · refine ok (m_iconst (q := 95) rfl rfl rfl) ?_
            refine ok (m_goto (q := 110) rfl rfl rfl) ?_
            exact ok (m_reti rfl rfl) (ok_i r23 ⟨by decide, by decide⟩)
          · replace hp := iq c25 hp
            refine ok (m_aload_n (q := 99) rfl rfl rfl rfl) ?_
            refine ok (m_gfc (q := 102) rfl rfl rfl r23 rfl rfl rfl) ?_
            refine ok (m_aload_n (q := 103) rfl rfl rfl rfl) ?_
            refine ok (m_iload_n (q := 104) rfl rfl rfl rfl) ?_
            refine ok (m_iconst (q := 105) rfl rfl rfl) ?_
            refine ok (m_iconst (q := 106) rfl rfl rfl) ?_
            refine oke (e_ci (x_cv (q := 109) rfl rfl rfl rfl rfl rfl rfl rfl rfl rfl (is_st r23 rfl rfl)) (ev_X12_last (D := D) (w_inForce D a1) 2 0 (Ev_rg (ev_X12_inForce (D := D) a1 h1 g6) r2) ⟨by decide, by decide⟩ ⟨by decide, by decide⟩ g24) (Nat.le_trans (by decide) hd) r23) (fun s26 r27 => ?_)
            have g28 := hp
            refine ok (m_ials (q := 110) rfl rfl rfl r27 rfl rfl g28 rfl) ?_
            exact ok (m_reti rfl rfl) (ok_i r27 (Rp_rg r27 97 (w_last D (w_inForce D a1) 2 0)))
        · replace hp := iq c21 hp
          refine okp (rfl) (fun c29 => ?_) (fun c29 => ?_)
          · replace hp := ip c29 hp
            refine ok (m_aload_n (q := 112) rfl rfl rfl rfl) ?_
            refine ok (m_iload_n (q := 113) rfl rfl rfl rfl) ?_
            refine ok (m_bipush (q := 115) rfl rfl rfl) ?_
            refine ok (m_iconst (q := 116) rfl rfl rfl) ?_
            refine ok (m_iconst (q := 117) rfl rfl rfl) ?_
            have g32 := hp
            refine oke (e_ci (x_cv (q := 120) rfl rfl rfl rfl rfl rfl rfl rfl rfl rfl (is_st r5 rfl rfl)) (ev_X12_tells (D := D) a1 7 0 0 h1 ⟨by decide, by decide⟩ ⟨by decide, by decide⟩ ⟨by decide, by decide⟩ g32) (Nat.le_trans (by decide) hd) r5) (fun s30 r31 => ?_)
            exact ok (m_reti rfl rfl) (ok_i r31 (Ev_rg (ev_X12_tells (D := D) a1 7 0 0 h1 ⟨by decide, by decide⟩ ⟨by decide, by decide⟩ ⟨by decide, by decide⟩ g32) r5))
          · replace hp := iq c29 hp
            refine okp (rfl) (fun c33 => ?_) (fun c33 => ?_)
            · replace hp := ip c33 hp
              refine ok (m_aload_n (q := 122) rfl rfl rfl rfl) ?_
              refine ok (m_iload_n (q := 123) rfl rfl rfl rfl) ?_
              refine ok (m_bipush (q := 125) rfl rfl rfl) ?_
              refine ok (m_iconst (q := 126) rfl rfl rfl) ?_
              refine ok (m_iconst (q := 127) rfl rfl rfl) ?_
              have g36 := hp
              refine oke (e_ci (x_cv (q := 130) rfl rfl rfl rfl rfl rfl rfl rfl rfl rfl (is_st r5 rfl rfl)) (ev_X12_tells (D := D) a1 8 0 3 h1 ⟨by decide, by decide⟩ ⟨by decide, by decide⟩ ⟨by decide, by decide⟩ g36) (Nat.le_trans (by decide) hd) r5) (fun s34 r35 => ?_)
              exact ok (m_reti rfl rfl) (ok_i r35 (Ev_rg (ev_X12_tells (D := D) a1 8 0 3 h1 ⟨by decide, by decide⟩ ⟨by decide, by decide⟩ ⟨by decide, by decide⟩ g36) r5))
            · replace hp := iq c33 hp
              refine okp (rfl) (fun c37 => ?_) (fun c37 => ?_)
              · replace hp := ip c37 hp
                refine ok (m_aload_n (q := 132) rfl rfl rfl rfl) ?_
                refine ok (m_iload_n (q := 133) rfl rfl rfl rfl) ?_
                refine ok (m_iconst (q := 134) rfl rfl rfl) ?_
                refine ok (m_iconst (q := 135) rfl rfl rfl) ?_
                have g40 := hp
                refine oke (e_ci (x_cv (q := 138) rfl rfl rfl rfl rfl rfl rfl rfl rfl rfl (is_st r5 rfl rfl)) (ev_X12_last (D := D) (w_inForce D a1) 5 0 (Ev_rg (ev_X12_inForce (D := D) a1 h1 g6) r2) ⟨by decide, by decide⟩ ⟨by decide, by decide⟩ g40) (Nat.le_trans (by decide) hd) r5) (fun s38 r39 => ?_)
                refine ok (m_iconst (q := 139) rfl rfl rfl) ?_
                refine okp (m_cmpeq (qt := 146) (qf := 142) rfl rfl (Ev_rg (ev_X12_last (D := D) (w_inForce D a1) 5 0 (Ev_rg (ev_X12_inForce (D := D) a1 h1 g6) r2) ⟨by decide, by decide⟩ ⟨by decide, by decide⟩ g40) r5) ⟨by decide, by decide⟩ rfl rfl) (fun c41 => ?_) (fun c41 => ?_)
                · refine ok (m_iconst (q := 147) rfl rfl rfl) ?_
                  refine oke (e_ci (x_cs (q := 150) rfl rfl rfl rfl rfl rfl rfl rfl rfl) (ev_X12_one (D := D) 0 ⟨by decide, by decide⟩ ⟨by decide, by decide⟩) (Nat.le_trans (by decide) hd) r39) (fun s42 r43 => ?_)
                  exact ok (m_reti rfl rfl) (ok_i r43 (Ev_rg (ev_X12_one (D := D) 0 ⟨by decide, by decide⟩ ⟨by decide, by decide⟩) r39))
                · refine ok (m_iconst (q := 143) rfl rfl rfl) ?_
                  refine ok (m_goto (q := 147) rfl rfl rfl) ?_
                  refine oke (e_ci (x_cs (q := 150) rfl rfl rfl rfl rfl rfl rfl rfl rfl) (ev_X12_one (D := D) 1 ⟨by decide, by decide⟩ ⟨by decide, by decide⟩) (Nat.le_trans (by decide) hd) r39) (fun s44 r45 => ?_)
                  exact ok (m_reti rfl rfl) (ok_i r45 (Ev_rg (ev_X12_one (D := D) 1 ⟨by decide, by decide⟩ ⟨by decide, by decide⟩) r39))
              · replace hp := iq c37 hp
                refine okp (rfl) (fun c46 => ?_) (fun c46 => ?_)
                · replace hp := ip c46 hp
                  refine ok (m_iload_n (q := 152) rfl rfl rfl rfl) ?_
                  refine ok (m_iconst (q := 153) rfl rfl rfl) ?_
                  refine okp (m_cmpne (qt := 160) (qf := 156) rfl rfl (Ev_rg (ev_X12_inForce (D := D) a1 h1 g6) r2) ⟨by decide, by decide⟩ rfl rfl) (fun c47 => ?_) (fun c47 => ?_)
                  · refine ok (m_iconst (q := 157) rfl rfl rfl) ?_
                    refine ok (m_goto (q := 166) rfl rfl rfl) ?_
                    exact ok (m_reti rfl rfl) (ok_i r5 ⟨by decide, by decide⟩)
                  · replace hp := iq c47 hp
                    refine ok (m_aload_n (q := 161) rfl rfl rfl rfl) ?_
                    refine ok (m_gfc (q := 164) rfl rfl rfl r5 rfl rfl rfl) ?_
                    refine ok (m_iload_n (q := 165) rfl rfl rfl rfl) ?_
                    have g48 := hp
                    refine ok (m_ials (q := 166) rfl rfl rfl r5 rfl rfl g48 rfl) ?_
                    exact ok (m_reti rfl rfl) (ok_i r5 (Rp_rg r5 92 (w_inForce D a1)))
                · replace hp := iq c46 hp
                  refine okp (rfl) (fun c49 => ?_) (fun c49 => ?_)
                  · refine ok (m_iload_n (q := 168) rfl rfl rfl rfl) ?_
                    exact ok (m_reti rfl rfl) (ok_i r5 (Ev_rg (ev_X12_inForce (D := D) a1 h1 g6) r2))
                  · replace hp := iq c49 hp
                    refine ok (m_iload_n (q := 170) rfl rfl rfl rfl) ?_
                    refine ok (m_bipush (q := 172) rfl rfl rfl) ?_
                    refine ok (m_bipush (q := 174) rfl rfl rfl) ?_
                    refine oke (e_ci (x_cs (q := 177) rfl rfl rfl rfl rfl rfl rfl rfl rfl) (ev_X12_isIn (D := D) a2 10 15 h2 ⟨by decide, by decide⟩ ⟨by decide, by decide⟩) (Nat.le_trans (by decide) hd) r5) (fun s7 r8 => ?_)
                    refine okp (m_ifeq (qt := 194) (qf := 180) rfl rfl (Ev_rg (ev_X12_isIn (D := D) a2 10 15 h2 ⟨by decide, by decide⟩ ⟨by decide, by decide⟩) r5) rfl rfl) (fun c9 => ?_) (fun c9 => ?_)
                    · refine ok (m_iconst (q := 195) rfl rfl rfl) ?_
                      exact ok (m_reti rfl rfl) (ok_i r8 ⟨by decide, by decide⟩)
                    · replace hp := iq c9 hp
                      refine ok (m_aload_n (q := 181) rfl rfl rfl rfl) ?_
                      refine ok (m_iload_n (q := 182) rfl rfl rfl rfl) ?_
                      refine ok (m_iconst (q := 183) rfl rfl rfl) ?_
                      refine ok (m_iload_n (q := 184) rfl rfl rfl rfl) ?_
                      refine ok (m_bipush (q := 186) rfl rfl rfl) ?_
                      refine ok (m_isub (q := 187) rfl rfl rfl) ?_
                      refine ok (m_iconst (q := 188) rfl rfl rfl) ?_
                      have g12 := hp
                      refine oke (e_ci (x_cv (q := 191) rfl rfl rfl rfl rfl rfl rfl rfl rfl rfl (is_st r8 rfl rfl)) (ev_X12_tells (D := D) a1 3 (wr (a2 - 10)) 0 h1 ⟨by decide, by decide⟩ (rg_wr _) ⟨by decide, by decide⟩ g12) (Nat.le_trans (by decide) hd) r8) (fun s10 r11 => ?_)
                      refine ok (m_goto (q := 195) rfl rfl rfl) ?_
                      exact ok (m_reti rfl rfl) (ok_i r11 (Ev_rg (ev_X12_tells (D := D) a1 3 (wr (a2 - 10)) 0 h1 ⟨by decide, by decide⟩ (rg_wr _) ⟨by decide, by decide⟩ g12) r8))
abbrev P_X12_fit : Nat → Option am_E := am_fy tb_X12_fit
noncomputable def v_X12_fit (D : aD) (a1 : Int) (a2 : Int) (a3 : Int) : Int := if v_X12_isServant D a1 = 0 then (-1) else if v_X12_isPlace D a2 = 0 then (-1) else if v_X12_isDay D a3 = 0 then (-1) else v_X12_fitOf D a1 a2 a3
def p_X12_fit (D : aD) (a1 : Int) (a2 : Int) (a3 : Int) : Prop := (if v_X12_isServant D a1 = 0 then True else (if v_X12_isPlace D a2 = 0 then True else (if v_X12_isDay D a3 = 0 then True else (p_X12_fitOf D a1 a2 a3))))
set_option maxRecDepth 100000 in
theorem ev_X12_fit {A : aA} {D : aD} (a1 : Int) (a2 : Int) (a3 : Int) (h1 : rg a1) (h2 : rg a2) (h3 : rg a3) (hp : p_X12_fit D a1 a2 a3) : Ev (1) 43 179 [am_r (some 70), am_i (wz a1), am_i (wz a2), am_i (wz a3)] A D (ri (v_X12_fit D a1 a2 a3)) A D := by
  unfold p_X12_fit at hp
  unfold v_X12_fit
  refine Ev_of (c := 42) (P := P_X12_fit) (lo := [some (am_r (some 70)), some (am_i (wz a1)), some (am_i (wz a2)), some (am_i (wz a3))]) rfl rfl rfl (fun d hd s hr => ?_)
  refine ok (m_aload_n (q := 1) rfl rfl rfl rfl) ?_
  refine ok (m_iload_n (q := 2) rfl rfl rfl rfl) ?_
  refine oke (e_ci (x_cv (q := 5) rfl rfl rfl rfl rfl rfl rfl rfl rfl rfl (is_st hr rfl rfl)) (ev_X12_isServant (D := D) a1 h1) (Nat.le_trans (by decide) hd) hr) (fun s1 r2 => ?_)
  refine okp (m_ifeq (qt := 33) (qf := 8) rfl rfl (Ev_rg (ev_X12_isServant (D := D) a1 h1) hr) rfl rfl) (fun c3 => ?_) (fun c3 => ?_)
  · refine ok (m_iconst (q := 34) rfl rfl rfl) ?_
    exact ok (m_reti rfl rfl) (ok_i r2 ⟨by decide, by decide⟩)
  · replace hp := iq c3 hp
    refine ok (m_aload_n (q := 9) rfl rfl rfl rfl) ?_
    refine ok (m_iload_n (q := 10) rfl rfl rfl rfl) ?_
    refine oke (e_ci (x_cv (q := 13) rfl rfl rfl rfl rfl rfl rfl rfl rfl rfl (is_st r2 rfl rfl)) (ev_X12_isPlace (D := D) a2 h2) (Nat.le_trans (by decide) hd) r2) (fun s4 r5 => ?_)
    refine okp (m_ifeq (qt := 33) (qf := 16) rfl rfl (Ev_rg (ev_X12_isPlace (D := D) a2 h2) r2) rfl rfl) (fun c6 => ?_) (fun c6 => ?_)
    · refine ok (m_iconst (q := 34) rfl rfl rfl) ?_
      exact ok (m_reti rfl rfl) (ok_i r5 ⟨by decide, by decide⟩)
    · replace hp := iq c6 hp
      refine ok (m_iload_n (q := 17) rfl rfl rfl rfl) ?_
      refine oke (e_ci (x_cs (q := 20) rfl rfl rfl rfl rfl rfl rfl rfl rfl) (ev_X12_isDay (D := D) a3 h3) (Nat.le_trans (by decide) hd) r5) (fun s7 r8 => ?_)
      refine okp (m_ifeq (qt := 33) (qf := 23) rfl rfl (Ev_rg (ev_X12_isDay (D := D) a3 h3) r5) rfl rfl) (fun c9 => ?_) (fun c9 => ?_)
      · refine ok (m_iconst (q := 34) rfl rfl rfl) ?_
        exact ok (m_reti rfl rfl) (ok_i r8 ⟨by decide, by decide⟩)
      · replace hp := iq c9 hp
        refine ok (m_aload_n (q := 24) rfl rfl rfl rfl) ?_
        refine ok (m_iload_n (q := 25) rfl rfl rfl rfl) ?_
        refine ok (m_iload_n (q := 26) rfl rfl rfl rfl) ?_
        refine ok (m_iload_n (q := 27) rfl rfl rfl rfl) ?_
        have g12 := hp
        refine oke (e_ci (x_cv (q := 30) rfl rfl rfl rfl rfl rfl rfl rfl rfl rfl (is_st r8 rfl rfl)) (ev_X12_fitOf (D := D) a1 a2 a3 h1 h2 h3 g12) (Nat.le_trans (by decide) hd) r8) (fun s10 r11 => ?_)
        refine ok (m_goto (q := 34) rfl rfl rfl) ?_
        exact ok (m_reti rfl rfl) (ok_i r11 (Ev_rg (ev_X12_fitOf (D := D) a1 a2 a3 h1 h2 h3 g12) r8))
abbrev P_X11_feeOf : Nat → Option am_E := am_fy tb_X11_feeOf
noncomputable def v_X11_feeOf (D : aD) (i1 : Int) (a2 : Int) : Int := v_X7_fee D (w_bookOf D (D 2503 i1)) a2 (D 2501 i1) (D 2502 i1) (D 2503 i1)
def p_X11_feeOf (D : aD) (i1 : Int) (a2 : Int) : Prop := (p_inv1 D (D 2503 i1)) ∧ (p_X7_fee D (w_bookOf D (D 2503 i1)) a2 (D 2501 i1) (D 2502 i1) (D 2503 i1))
set_option maxRecDepth 100000 in
theorem ev_X11_feeOf {A : aA} {D : aD} (i1 : Int) (a2 : Int) (f1 : D 915 i1 = 1) (h2 : rg a2) (hp : p_X11_feeOf D i1 a2) : Ev (1) 7 114 [am_r (some 32), am_r (some (A 15 i1)), am_i (wz a2)] A D (ri (v_X11_feeOf D i1 a2)) A D := by
  unfold p_X11_feeOf at hp
  unfold v_X11_feeOf
  refine Ev_of (c := 6) (P := P_X11_feeOf) (lo := [some (am_r (some 32)), some (am_r (some (A 15 i1))), some (am_i (wz a2))]) rfl rfl rfl (fun d hd s hr => ?_)
  refine ok (m_aload_n (q := 1) rfl rfl rfl rfl) ?_
  refine ok (m_aload_n (q := 2) rfl rfl rfl rfl) ?_
  refine ok (m_gft (t := 15) (q := 5) rfl rfl rfl hr rfl f1 rfl rfl rfl) ?_
  obtain ⟨g3, hp⟩ := hp
  refine oke (e_cr (x_cv (q := 8) rfl rfl rfl rfl rfl rfl rfl rfl rfl rfl (is_st hr rfl rfl)) (ev_X11_bookOf (D := D) (D 2503 i1) (show rg (D 2503 i1) from Rp_rg hr 2503 i1) g3) (Nat.le_trans (by decide) hd) hr) (fun s1 r2 => ?_)
  refine ok (m_iload_n (q := 9) rfl rfl rfl rfl) ?_
  refine ok (m_aload_n (q := 10) rfl rfl rfl rfl) ?_
  have f_4 : D 910 (D 2501 i1) = 1 := Rp_f15_10 (D := D) (i := i1) r2 f1
  refine ok (m_gfx (t := 15) (q := 13) (r := some (A 10 (D 2501 i1))) rfl rfl rfl r2 rfl f1 rfl rfl rfl) ?_
  refine ok (m_aload_n (q := 14) rfl rfl rfl rfl) ?_
  have f_5 : D 911 (D 2502 i1) = 1 := Rp_f15_11 (D := D) (i := i1) r2 f1
  refine ok (m_gfx (t := 15) (q := 17) (r := some (A 11 (D 2502 i1))) rfl rfl rfl r2 rfl f1 rfl rfl rfl) ?_
  refine ok (m_aload_n (q := 18) rfl rfl rfl rfl) ?_
  refine ok (m_gft (t := 15) (q := 21) rfl rfl rfl r2 rfl f1 rfl rfl rfl) ?_
  have g8 := hp
  refine oke (e_ci (x_cv (q := 24) rfl rfl rfl rfl rfl rfl rfl rfl rfl rfl (is_ty r2 rfl (fg_bookOf (D := D) (D 2503 i1) (show rg (D 2503 i1) from Rp_rg hr 2503 i1) g3 hr))) (ev_X7_fee (D := D) (w_bookOf D (D 2503 i1)) a2 (D 2501 i1) (D 2502 i1) (D 2503 i1) (fg_bookOf (D := D) (D 2503 i1) (show rg (D 2503 i1) from Rp_rg hr 2503 i1) g3 hr) h2 f_4 f_5 (show rg (D 2503 i1) from Rp_rg r2 2503 i1) g8) (Nat.le_trans (by decide) hd) r2) (fun s6 r7 => ?_)
  exact ok (m_reti rfl rfl) (ok_i r7 (Ev_rg (ev_X7_fee (D := D) (w_bookOf D (D 2503 i1)) a2 (D 2501 i1) (D 2502 i1) (D 2503 i1) (fg_bookOf (D := D) (D 2503 i1) (show rg (D 2503 i1) from Rp_rg hr 2503 i1) g3 hr) h2 f_4 f_5 (show rg (D 2503 i1) from Rp_rg r2 2503 i1) g8) r2))
abbrev P_X11_givenBack : Nat → Option am_E := am_fy tb_X11_givenBack
noncomputable def v_X11_givenBack (D : aD) (i1 : Int) : Int := if D 2505 i1 = (-1) then 0 else if wr ((D 2505 i1) - (D 2503 i1)) ≤ D 2408 (w_bookOf D (D 2503 i1)) then wr ((wr ((v_X11_feeOf D i1 0) * (D 2407 (w_bookOf D (D 2503 i1))))).tdiv 100) else 0
def p_X11_givenBack (D : aD) (i1 : Int) : Prop := (p_inv1 D (D 2503 i1)) ∧ (if D 2505 i1 = (-1) then True else (if wr ((D 2505 i1) - (D 2503 i1)) ≤ D 2408 (w_bookOf D (D 2503 i1)) then (p_X11_feeOf D i1 0) else True))
set_option maxRecDepth 100000 in
theorem ev_X11_givenBack {A : aA} {D : aD} (i1 : Int) (f1 : D 915 i1 = 1) (hp : p_X11_givenBack D i1) : Ev (1) 8 115 [am_r (some 32), am_r (some (A 15 i1))] A D (ri (v_X11_givenBack D i1)) A D := by
  unfold p_X11_givenBack at hp
  unfold v_X11_givenBack
  refine Ev_of (c := 7) (P := P_X11_givenBack) (lo := [some (am_r (some 32)), some (am_r (some (A 15 i1))), none]) rfl rfl rfl (fun d hd s hr => ?_)
  refine ok (m_aload_n (q := 1) rfl rfl rfl rfl) ?_
  refine ok (m_aload_n (q := 2) rfl rfl rfl rfl) ?_
  refine ok (m_gft (t := 15) (q := 5) rfl rfl rfl hr rfl f1 rfl rfl rfl) ?_
  obtain ⟨g3, hp⟩ := hp
  refine oke (e_cr (x_cv (q := 8) rfl rfl rfl rfl rfl rfl rfl rfl rfl rfl (is_st hr rfl rfl)) (ev_X11_bookOf (D := D) (D 2503 i1) (show rg (D 2503 i1) from Rp_rg hr 2503 i1) g3) (Nat.le_trans (by decide) hd) hr) (fun s1 r2 => ?_)
  refine ok (m_astore_n (q := 9) (lo' := [some (am_r (some 32)), some (am_r (some (A 15 i1))), some (am_r (some (A 14 (w_bookOf D (D 2503 i1)))))]) rfl rfl rfl rfl rfl) ?_
  refine ok (m_aload_n (q := 10) rfl rfl rfl rfl) ?_
  refine ok (m_gft (t := 15) (q := 13) rfl rfl rfl r2 rfl f1 rfl rfl rfl) ?_
  refine ok (m_iconst (q := 14) rfl rfl rfl) ?_
  refine okp (m_cmpeq (qt := 33) (qf := 17) rfl rfl (show rg (D 2505 i1) from Rp_rg r2 2505 i1) ⟨by decide, by decide⟩ rfl rfl) (fun c4 => ?_) (fun c4 => ?_)
  · refine ok (m_iconst (q := 34) rfl rfl rfl) ?_
    exact ok (m_reti rfl rfl) (ok_i r2 ⟨by decide, by decide⟩)
  · replace hp := iq c4 hp
    refine ok (m_aload_n (q := 18) rfl rfl rfl rfl) ?_
    refine ok (m_gft (t := 15) (q := 21) rfl rfl rfl r2 rfl f1 rfl rfl rfl) ?_
    refine ok (m_aload_n (q := 22) rfl rfl rfl rfl) ?_
    refine ok (m_gft (t := 15) (q := 25) rfl rfl rfl r2 rfl f1 rfl rfl rfl) ?_
    refine ok (m_isub (q := 26) rfl rfl rfl) ?_
    refine ok (m_aload_n (q := 27) rfl rfl rfl rfl) ?_
    refine ok (m_gft (t := 14) (q := 30) rfl rfl rfl r2 rfl (fg_bookOf (D := D) (D 2503 i1) (show rg (D 2503 i1) from Rp_rg hr 2503 i1) g3 hr) rfl rfl rfl) ?_
    refine okp (m_cmple (qt := 35) (qf := 33) rfl rfl (rg_wr _) (show rg (D 2408 (w_bookOf D (D 2503 i1))) from Rp_rg r2 2408 (w_bookOf D (D 2503 i1))) rfl rfl) (fun c5 => ?_) (fun c5 => ?_)
    · replace hp := ip c5 hp
      refine ok (m_aload_n (q := 36) rfl rfl rfl rfl) ?_
      refine ok (m_aload_n (q := 37) rfl rfl rfl rfl) ?_
      refine ok (m_iconst (q := 38) rfl rfl rfl) ?_
      have g8 := hp
      refine oke (e_ci (x_cv (q := 41) rfl rfl rfl rfl rfl rfl rfl rfl rfl rfl (is_st r2 rfl rfl)) (ev_X11_feeOf (D := D) i1 0 f1 ⟨by decide, by decide⟩ g8) (Nat.le_trans (by decide) hd) r2) (fun s6 r7 => ?_)
      refine ok (m_aload_n (q := 42) rfl rfl rfl rfl) ?_
      refine ok (m_gft (t := 14) (q := 45) rfl rfl rfl r7 rfl (fg_bookOf (D := D) (D 2503 i1) (show rg (D 2503 i1) from Rp_rg hr 2503 i1) g3 hr) rfl rfl rfl) ?_
      refine ok (m_imul (q := 46) rfl rfl rfl) ?_
      refine ok (m_bipush (q := 48) rfl rfl rfl) ?_
      refine ok (m_idiv (q := 49) rfl rfl (rg_wr _) ⟨by decide, by decide⟩ (by decide) rfl) ?_
      exact ok (m_reti rfl rfl) (ok_i r7 (rg_wr _))
    · refine ok (m_iconst (q := 34) rfl rfl rfl) ?_
      exact ok (m_reti rfl rfl) (ok_i r2 ⟨by decide, by decide⟩)
abbrev P_X11_owed : Nat → Option am_E := am_fy tb_X11_owed
def v_X11_owed (D : aD) (i1 : Int) : Int := if D 2505 i1 = (-1) then 0 else if D 2508 i1 = 0 then 0 else if D 2508 i1 = 4 then 0 else wr (-(wr ((wr ((D 2104 (D 2502 i1)) * (max 0 (wr ((D 2406 (w_bookOf D (D 2505 i1))) - (D 2507 i1)))))).tdiv 30)))
def p_X11_owed (D : aD) (i1 : Int) : Prop := (if D 2505 i1 = (-1) then True else (if D 2508 i1 = 0 then True else (if D 2508 i1 = 4 then True else (p_inv1 D (D 2505 i1)))))
set_option maxRecDepth 100000 in
theorem ev_X11_owed {n : Nat} {A : aA} {D : aD} (i1 : Int) (f1 : D 915 i1 = 1) (hp : p_X11_owed D i1) : Ev (n) 6 116 [am_r (some 32), am_r (some (A 15 i1))] A D (ri (v_X11_owed D i1)) A D := by
  unfold p_X11_owed at hp
  unfold v_X11_owed
  refine Ev_of (c := 5) (P := P_X11_owed) (lo := [some (am_r (some 32)), some (am_r (some (A 15 i1))), none]) rfl rfl rfl (fun d hd s hr => ?_)
  refine ok (m_aload_n (q := 1) rfl rfl rfl rfl) ?_
  refine ok (m_gft (t := 15) (q := 4) rfl rfl rfl hr rfl f1 rfl rfl rfl) ?_
  refine ok (m_iconst (q := 5) rfl rfl rfl) ?_
  refine okp (m_cmpeq (qt := 23) (qf := 8) rfl rfl (show rg (D 2505 i1) from Rp_rg hr 2505 i1) ⟨by decide, by decide⟩ rfl rfl) (fun c1 => ?_) (fun c1 => ?_)
  · refine ok (m_iconst (q := 24) rfl rfl rfl) ?_
    exact ok (m_reti rfl rfl) (ok_i hr ⟨by decide, by decide⟩)
  · replace hp := iq c1 hp
    refine ok (m_aload_n (q := 9) rfl rfl rfl rfl) ?_
    refine ok (m_gft (t := 15) (q := 12) rfl rfl rfl hr rfl f1 rfl rfl rfl) ?_
    refine okp (m_ifeq (qt := 23) (qf := 15) rfl rfl (show rg (D 2508 i1) from Rp_rg hr 2508 i1) rfl rfl) (fun c2 => ?_) (fun c2 => ?_)
    · refine ok (m_iconst (q := 24) rfl rfl rfl) ?_
      exact ok (m_reti rfl rfl) (ok_i hr ⟨by decide, by decide⟩)
    · replace hp := iq c2 hp
      refine ok (m_aload_n (q := 16) rfl rfl rfl rfl) ?_
      refine ok (m_gft (t := 15) (q := 19) rfl rfl rfl hr rfl f1 rfl rfl rfl) ?_
      refine ok (m_iconst (q := 20) rfl rfl rfl) ?_
      refine okp (m_cmpne (qt := 25) (qf := 23) rfl rfl (show rg (D 2508 i1) from Rp_rg hr 2508 i1) ⟨by decide, by decide⟩ rfl rfl) (fun c3 => ?_) (fun c3 => ?_)
      · refine ok (m_iconst (q := 24) rfl rfl rfl) ?_
        exact ok (m_reti rfl rfl) (ok_i hr ⟨by decide, by decide⟩)
      · replace hp := iq c3 hp
        refine ok (m_iconst (q := 26) rfl rfl rfl) ?_
        refine ok (m_aload_n (q := 27) rfl rfl rfl rfl) ?_
        refine ok (m_aload_n (q := 28) rfl rfl rfl rfl) ?_
        refine ok (m_gft (t := 15) (q := 31) rfl rfl rfl hr rfl f1 rfl rfl rfl) ?_
        have g6 := hp
        refine oke (e_cr (x_cv (q := 34) rfl rfl rfl rfl rfl rfl rfl rfl rfl rfl (is_st hr rfl rfl)) (ev_X11_bookOf (D := D) (D 2505 i1) (show rg (D 2505 i1) from Rp_rg hr 2505 i1) g6) (Nat.le_trans (by decide) hd) hr) (fun s4 r5 => ?_)
        refine ok (m_gft (t := 14) (q := 37) rfl rfl rfl r5 rfl (fg_bookOf (D := D) (D 2505 i1) (show rg (D 2505 i1) from Rp_rg hr 2505 i1) g6 hr) rfl rfl rfl) ?_
        refine ok (m_aload_n (q := 38) rfl rfl rfl rfl) ?_
        refine ok (m_gft (t := 15) (q := 41) rfl rfl rfl r5 rfl f1 rfl rfl rfl) ?_
        refine ok (m_isub (q := 42) rfl rfl rfl) ?_
        refine ok (m_max (q := 45) rfl rfl rfl ⟨by decide, by decide⟩ (rg_wr _) rfl) ?_
        refine ok (m_istore_n (q := 46) (lo' := [some (am_r (some 32)), some (am_r (some (A 15 i1))), some (am_i (wz (max 0 (wr ((D 2406 (w_bookOf D (D 2505 i1))) - (D 2507 i1))))))]) rfl rfl rfl rfl rfl) ?_
        refine ok (m_aload_n (q := 47) rfl rfl rfl rfl) ?_
        have f_7 : D 911 (D 2502 i1) = 1 := Rp_f15_11 (D := D) (i := i1) r5 f1
        refine ok (m_gfx (t := 15) (q := 50) (r := some (A 11 (D 2502 i1))) rfl rfl rfl r5 rfl f1 rfl rfl rfl) ?_
        refine ok (m_gft (t := 11) (q := 53) rfl rfl rfl r5 rfl f_7 rfl rfl rfl) ?_
        refine ok (m_iload_n (q := 54) rfl rfl rfl rfl) ?_
        refine ok (m_imul (q := 55) rfl rfl rfl) ?_
        refine ok (m_bipush (q := 57) rfl rfl rfl) ?_
        refine ok (m_idiv (q := 58) rfl rfl (rg_wr _) ⟨by decide, by decide⟩ (by decide) rfl) ?_
        refine ok (m_ineg (q := 59) rfl rfl rfl) ?_
        exact ok (m_reti rfl rfl) (ok_i r5 (rg_wr _))
abbrev P_X11_placed : Nat → Option am_E := am_fy tb_X11_placed
noncomputable def v_X11_placed (D : aD) (a1 : Int) (a2 : Int) : Int := if v_X11_isPlacing D a1 = 0 then (-2000000000) else if a2 = 0 then D 2000 (D 2501 a1) else if a2 = 1 then D 2100 (D 2502 a1) else if a2 = 2 then D 2503 a1 else if a2 = 3 then D 2505 a1 else if a2 = 4 then D 2508 a1 else if a2 = 5 then D 2504 a1 else if a2 = 6 then D 2506 a1 else if a2 = 7 then D 2509 a1 else if a2 = 8 then v_X11_feeOf D a1 0 else if a2 = 9 then v_X11_feeOf D a1 1 else if a2 = 10 then v_X11_givenBack D a1 else if a2 = 11 then v_X11_owed D a1 else (-2000000000)
def p_X11_placed (D : aD) (a1 : Int) (a2 : Int) : Prop := (if v_X11_isPlacing D a1 = 0 then True else (0 ≤ a1 ∧ a1 < D 1002 5) ∧ (if a2 = 0 then True else (if a2 = 1 then True else (if a2 = 2 then True else (if a2 = 3 then True else (if a2 = 4 then True else (if a2 = 5 then True else (if a2 = 6 then True else (if a2 = 7 then True else (if a2 = 8 then (p_X11_feeOf D a1 0) else (if a2 = 9 then (p_X11_feeOf D a1 1) else (if a2 = 10 then (p_X11_givenBack D a1) else (if a2 = 11 then (p_X11_owed D a1) else True)))))))))))))
set_option maxRecDepth 100000 in
theorem ev_X11_placed {A : aA} {D : aD} (a1 : Int) (a2 : Int) (h1 : rg a1) (h2 : rg a2) (hp : p_X11_placed D a1 a2) : Ev (1) 9 82 [am_r (some 32), am_i (wz a1), am_i (wz a2)] A D (ri (v_X11_placed D a1 a2)) A D := by
  unfold p_X11_placed at hp
  unfold v_X11_placed
  refine Ev_of (c := 8) (P := P_X11_placed) (lo := [some (am_r (some 32)), some (am_i (wz a1)), some (am_i (wz a2)), none]) rfl rfl rfl (fun d hd s hr => ?_)
  refine ok (m_aload_n (q := 1) rfl rfl rfl rfl) ?_
  refine ok (m_iload_n (q := 2) rfl rfl rfl rfl) ?_
  refine oke (e_ci (x_cv (q := 5) rfl rfl rfl rfl rfl rfl rfl rfl rfl rfl (is_st hr rfl rfl)) (ev_X11_isPlacing (D := D) a1 h1) (Nat.le_trans (by decide) hd) hr) (fun s1 r2 => ?_)
  refine okp (m_ifne (qt := 11) (qf := 8) rfl rfl (Ev_rg (ev_X11_isPlacing (D := D) a1 h1) hr) rfl rfl) (fun c3 => ?_) (fun c3 => ?_)
  · refine ok (m_ldci (q := 10) rfl rfl rfl) ?_
    exact ok (m_reti rfl rfl) (ok_i r2 ⟨by decide, by decide⟩)
  · replace hp := iq c3 hp
    refine ok (m_aload_n (q := 12) rfl rfl rfl rfl) ?_
    refine ok (m_gfc (q := 15) rfl rfl rfl r2 rfl rfl rfl) ?_
    have f_4 := Rp_fx0_5 r2
    refine ok (m_gfy (q := 18) rfl rfl rfl r2 rfl rfl rfl) ?_
    refine ok (m_iload_n (q := 19) rfl rfl rfl rfl) ?_
    obtain ⟨g7, hp⟩ := hp
    have f_8 := Rp_el5 (D := D) r2 g7
    refine oke (e_cr (x_cv (q := 22) rfl rfl rfl rfl rfl rfl rfl rfl rfl rfl (is_ty r2 rfl f_4)) (ev_get5 a1 g7) (Nat.le_trans (by decide) hd) r2) (fun s5 r6 => ?_)
    refine ok (m_cast (q := 25) rfl rfl rfl (isN_ty r6 rfl f_8)) ?_
    refine ok (m_astore_n (q := 26) (lo' := [some (am_r (some 32)), some (am_i (wz a1)), some (am_i (wz a2)), some (am_r (some (A 15 a1)))]) rfl rfl rfl rfl rfl) ?_
    refine ok (m_iload_n (q := 27) rfl rfl rfl rfl) ?_
    refine ok (m_tsw (z := 0) (qs := [88, 96, 104, 109, 114, 119, 124, 129, 134, 141, 148, 154]) (qd := 160) rfl rfl h2 rfl rfl rfl rfl) ?_
    refine okp (rfl) (fun c9 => ?_) (fun c9 => ?_)
    · refine ok (m_aload_n (q := 89) rfl rfl rfl rfl) ?_
      have f_10 : D 910 (D 2501 a1) = 1 := Rp_f15_10 (D := D) (i := a1) r6 f_8
      refine ok (m_gfx (t := 15) (q := 92) (r := some (A 10 (D 2501 a1))) rfl rfl rfl r6 rfl f_8 rfl rfl rfl) ?_
      refine ok (m_gft (t := 10) (q := 95) rfl rfl rfl r6 rfl f_10 rfl rfl rfl) ?_
      exact ok (m_reti rfl rfl) (ok_i r6 (show rg (D 2000 (D 2501 a1)) from Rp_rg r6 2000 (D 2501 a1)))
    · replace hp := iq c9 hp
      refine okp (rfl) (fun c11 => ?_) (fun c11 => ?_)
      · refine ok (m_aload_n (q := 97) rfl rfl rfl rfl) ?_
        have f_12 : D 911 (D 2502 a1) = 1 := Rp_f15_11 (D := D) (i := a1) r6 f_8
        refine ok (m_gfx (t := 15) (q := 100) (r := some (A 11 (D 2502 a1))) rfl rfl rfl r6 rfl f_8 rfl rfl rfl) ?_
        refine ok (m_gft (t := 11) (q := 103) rfl rfl rfl r6 rfl f_12 rfl rfl rfl) ?_
        exact ok (m_reti rfl rfl) (ok_i r6 (show rg (D 2100 (D 2502 a1)) from Rp_rg r6 2100 (D 2502 a1)))
      · replace hp := iq c11 hp
        refine okp (rfl) (fun c13 => ?_) (fun c13 => ?_)
        · refine ok (m_aload_n (q := 105) rfl rfl rfl rfl) ?_
          refine ok (m_gft (t := 15) (q := 108) rfl rfl rfl r6 rfl f_8 rfl rfl rfl) ?_
          exact ok (m_reti rfl rfl) (ok_i r6 (show rg (D 2503 a1) from Rp_rg r6 2503 a1))
        · replace hp := iq c13 hp
          refine okp (rfl) (fun c14 => ?_) (fun c14 => ?_)
          · refine ok (m_aload_n (q := 110) rfl rfl rfl rfl) ?_
            refine ok (m_gft (t := 15) (q := 113) rfl rfl rfl r6 rfl f_8 rfl rfl rfl) ?_
            exact ok (m_reti rfl rfl) (ok_i r6 (show rg (D 2505 a1) from Rp_rg r6 2505 a1))
          · replace hp := iq c14 hp
            refine okp (rfl) (fun c15 => ?_) (fun c15 => ?_)
            · refine ok (m_aload_n (q := 115) rfl rfl rfl rfl) ?_
              refine ok (m_gft (t := 15) (q := 118) rfl rfl rfl r6 rfl f_8 rfl rfl rfl) ?_
              exact ok (m_reti rfl rfl) (ok_i r6 (show rg (D 2508 a1) from Rp_rg r6 2508 a1))
            · replace hp := iq c15 hp
              refine okp (rfl) (fun c16 => ?_) (fun c16 => ?_)
              · refine ok (m_aload_n (q := 120) rfl rfl rfl rfl) ?_
                refine ok (m_gft (t := 15) (q := 123) rfl rfl rfl r6 rfl f_8 rfl rfl rfl) ?_
                exact ok (m_reti rfl rfl) (ok_i r6 (show rg (D 2504 a1) from Rp_rg r6 2504 a1))
              · replace hp := iq c16 hp
                refine okp (rfl) (fun c17 => ?_) (fun c17 => ?_)
                · refine ok (m_aload_n (q := 125) rfl rfl rfl rfl) ?_
                  refine ok (m_gft (t := 15) (q := 128) rfl rfl rfl r6 rfl f_8 rfl rfl rfl) ?_
                  exact ok (m_reti rfl rfl) (ok_i r6 (show rg (D 2506 a1) from Rp_rg r6 2506 a1))
                · replace hp := iq c17 hp
                  refine okp (rfl) (fun c18 => ?_) (fun c18 => ?_)
                  · refine ok (m_aload_n (q := 130) rfl rfl rfl rfl) ?_
                    refine ok (m_gft (t := 15) (q := 133) rfl rfl rfl r6 rfl f_8 rfl rfl rfl) ?_
                    exact ok (m_reti rfl rfl) (ok_i r6 (show rg (D 2509 a1) from Rp_rg r6 2509 a1))
                  · replace hp := iq c18 hp
                    refine okp (rfl) (fun c19 => ?_) (fun c19 => ?_)
                    · replace hp := ip c19 hp
                      refine ok (m_aload_n (q := 135) rfl rfl rfl rfl) ?_
                      refine ok (m_aload_n (q := 136) rfl rfl rfl rfl) ?_
                      refine ok (m_iconst (q := 137) rfl rfl rfl) ?_
                      have g22 := hp
                      refine oke (e_ci (x_cv (q := 140) rfl rfl rfl rfl rfl rfl rfl rfl rfl rfl (is_st r6 rfl rfl)) (ev_X11_feeOf (D := D) a1 0 f_8 ⟨by decide, by decide⟩ g22) (Nat.le_trans (by decide) hd) r6) (fun s20 r21 => ?_)
                      exact ok (m_reti rfl rfl) (ok_i r21 (Ev_rg (ev_X11_feeOf (D := D) a1 0 f_8 ⟨by decide, by decide⟩ g22) r6))
                    · replace hp := iq c19 hp
                      refine okp (rfl) (fun c23 => ?_) (fun c23 => ?_)
                      · replace hp := ip c23 hp
                        refine ok (m_aload_n (q := 142) rfl rfl rfl rfl) ?_
                        refine ok (m_aload_n (q := 143) rfl rfl rfl rfl) ?_
                        refine ok (m_iconst (q := 144) rfl rfl rfl) ?_
                        have g26 := hp
                        refine oke (e_ci (x_cv (q := 147) rfl rfl rfl rfl rfl rfl rfl rfl rfl rfl (is_st r6 rfl rfl)) (ev_X11_feeOf (D := D) a1 1 f_8 ⟨by decide, by decide⟩ g26) (Nat.le_trans (by decide) hd) r6) (fun s24 r25 => ?_)
                        exact ok (m_reti rfl rfl) (ok_i r25 (Ev_rg (ev_X11_feeOf (D := D) a1 1 f_8 ⟨by decide, by decide⟩ g26) r6))
                      · replace hp := iq c23 hp
                        refine okp (rfl) (fun c27 => ?_) (fun c27 => ?_)
                        · replace hp := ip c27 hp
                          refine ok (m_aload_n (q := 149) rfl rfl rfl rfl) ?_
                          refine ok (m_aload_n (q := 150) rfl rfl rfl rfl) ?_
                          have g30 := hp
                          refine oke (e_ci (x_cv (q := 153) rfl rfl rfl rfl rfl rfl rfl rfl rfl rfl (is_st r6 rfl rfl)) (ev_X11_givenBack (D := D) a1 f_8 g30) (Nat.le_trans (by decide) hd) r6) (fun s28 r29 => ?_)
                          exact ok (m_reti rfl rfl) (ok_i r29 (Ev_rg (ev_X11_givenBack (D := D) a1 f_8 g30) r6))
                        · replace hp := iq c27 hp
                          refine okp (rfl) (fun c31 => ?_) (fun c31 => ?_)
                          · replace hp := ip c31 hp
                            refine ok (m_aload_n (q := 155) rfl rfl rfl rfl) ?_
                            refine ok (m_aload_n (q := 156) rfl rfl rfl rfl) ?_
                            have g34 := hp
                            refine oke (e_ci (x_cv (q := 159) rfl rfl rfl rfl rfl rfl rfl rfl rfl rfl (is_st r6 rfl rfl)) (ev_X11_owed (D := D) a1 f_8 g34) (Nat.le_trans (by decide) hd) r6) (fun s32 r33 => ?_)
                            exact ok (m_reti rfl rfl) (ok_i r33 (Ev_rg (ev_X11_owed (D := D) a1 f_8 g34) r6))
                          · refine ok (m_ldci (q := 162) rfl rfl rfl) ?_
                            exact ok (m_reti rfl rfl) (ok_i r6 ⟨by decide, by decide⟩)
abbrev P_X11_law : Nat → Option am_E := am_fy tb_X11_law
def v_X11_law (D : aD) (a1 : Int) (a2 : Int) : Int := if v_X11_isDay D a1 = 0 then (-1) else if a2 = 0 then D 2406 (w_bookOf D a1) else if a2 = 1 then D 2407 (w_bookOf D a1) else if a2 = 2 then D 2408 (w_bookOf D a1) else if a2 = 3 then D 2409 (w_bookOf D a1) else if a2 = 4 then D 2410 (w_bookOf D a1) else if a2 = 5 then if D 2411 (w_bookOf D a1) = 0 then 0 else 1 else if a2 = 6 then D 1002 (8 + (w_bookOf D a1)) else if a2 = 7 then D 2400 (w_bookOf D a1) else if v_X11_between D a2 10 15 = 0 then (-1) else D 3301 (1024 * (w_bookOf D a1) + (wr (a2 - 10)))
def p_X11_law (D : aD) (a1 : Int) (a2 : Int) : Prop := (if v_X11_isDay D a1 = 0 then True else (p_inv1 D a1) ∧ (if a2 = 0 then True else (if a2 = 1 then True else (if a2 = 2 then True else (if a2 = 3 then True else (if a2 = 4 then True else (if a2 = 5 then True else (if a2 = 6 then True else (if a2 = 7 then True else (if v_X11_between D a2 10 15 = 0 then True else (0 ≤ wr (a2 - 10) ∧ wr (a2 - 10) < D 3300 (w_bookOf D a1))))))))))))
set_option maxRecDepth 100000 in
theorem ev_X11_law {n : Nat} {A : aA} {D : aD} (a1 : Int) (a2 : Int) (h1 : rg a1) (h2 : rg a2) (hp : p_X11_law D a1 a2) : Ev (n) 6 87 [am_r (some 32), am_i (wz a1), am_i (wz a2)] A D (ri (v_X11_law D a1 a2)) A D := by
  unfold p_X11_law at hp
  unfold v_X11_law
  refine Ev_of (c := 5) (P := P_X11_law) (lo := [some (am_r (some 32)), some (am_i (wz a1)), some (am_i (wz a2)), none]) rfl rfl rfl (fun d hd s hr => ?_)
  refine ok (m_iload_n (q := 1) rfl rfl rfl rfl) ?_
  refine oke (e_ci (x_cs (q := 4) rfl rfl rfl rfl rfl rfl rfl rfl rfl) (ev_X11_isDay (D := D) a1 h1) (Nat.le_trans (by decide) hd) hr) (fun s1 r2 => ?_)
  refine okp (m_ifne (qt := 9) (qf := 7) rfl rfl (Ev_rg (ev_X11_isDay (D := D) a1 h1) hr) rfl rfl) (fun c3 => ?_) (fun c3 => ?_)
  · refine ok (m_iconst (q := 8) rfl rfl rfl) ?_
    exact ok (m_reti rfl rfl) (ok_i r2 ⟨by decide, by decide⟩)
  · replace hp := iq c3 hp
    refine ok (m_aload_n (q := 10) rfl rfl rfl rfl) ?_
    refine ok (m_iload_n (q := 11) rfl rfl rfl rfl) ?_
    obtain ⟨g6, hp⟩ := hp
    refine oke (e_cr (x_cv (q := 14) rfl rfl rfl rfl rfl rfl rfl rfl rfl rfl (is_st r2 rfl rfl)) (ev_X11_bookOf (D := D) a1 h1 g6) (Nat.le_trans (by decide) hd) r2) (fun s4 r5 => ?_)
    refine ok (m_astore_n (q := 15) (lo' := [some (am_r (some 32)), some (am_i (wz a1)), some (am_i (wz a2)), some (am_r (some (A 14 (w_bookOf D a1))))]) rfl rfl rfl rfl rfl) ?_
    refine ok (m_iload_n (q := 16) rfl rfl rfl rfl) ?_
    refine ok (m_tsw (z := 0) (qs := [64, 69, 74, 79, 84, 89, 102, 110]) (qd := 115) rfl rfl h2 rfl rfl rfl rfl) ?_
    refine okp (rfl) (fun c12 => ?_) (fun c12 => ?_)
    · refine ok (m_aload_n (q := 65) rfl rfl rfl rfl) ?_
      refine ok (m_gft (t := 14) (q := 68) rfl rfl rfl r5 rfl (fg_bookOf (D := D) a1 h1 g6 r2) rfl rfl rfl) ?_
      exact ok (m_reti rfl rfl) (ok_i r5 (show rg (D 2406 (w_bookOf D a1)) from Rp_rg r5 2406 (w_bookOf D a1)))
    · replace hp := iq c12 hp
      refine okp (rfl) (fun c13 => ?_) (fun c13 => ?_)
      · refine ok (m_aload_n (q := 70) rfl rfl rfl rfl) ?_
        refine ok (m_gft (t := 14) (q := 73) rfl rfl rfl r5 rfl (fg_bookOf (D := D) a1 h1 g6 r2) rfl rfl rfl) ?_
        exact ok (m_reti rfl rfl) (ok_i r5 (show rg (D 2407 (w_bookOf D a1)) from Rp_rg r5 2407 (w_bookOf D a1)))
      · replace hp := iq c13 hp
        refine okp (rfl) (fun c14 => ?_) (fun c14 => ?_)
        · refine ok (m_aload_n (q := 75) rfl rfl rfl rfl) ?_
          refine ok (m_gft (t := 14) (q := 78) rfl rfl rfl r5 rfl (fg_bookOf (D := D) a1 h1 g6 r2) rfl rfl rfl) ?_
          exact ok (m_reti rfl rfl) (ok_i r5 (show rg (D 2408 (w_bookOf D a1)) from Rp_rg r5 2408 (w_bookOf D a1)))
        · replace hp := iq c14 hp
          refine okp (rfl) (fun c15 => ?_) (fun c15 => ?_)
          · refine ok (m_aload_n (q := 80) rfl rfl rfl rfl) ?_
            refine ok (m_gft (t := 14) (q := 83) rfl rfl rfl r5 rfl (fg_bookOf (D := D) a1 h1 g6 r2) rfl rfl rfl) ?_
            exact ok (m_reti rfl rfl) (ok_i r5 (show rg (D 2409 (w_bookOf D a1)) from Rp_rg r5 2409 (w_bookOf D a1)))
          · replace hp := iq c15 hp
            refine okp (rfl) (fun c16 => ?_) (fun c16 => ?_)
            · refine ok (m_aload_n (q := 85) rfl rfl rfl rfl) ?_
              refine ok (m_gft (t := 14) (q := 88) rfl rfl rfl r5 rfl (fg_bookOf (D := D) a1 h1 g6 r2) rfl rfl rfl) ?_
              exact ok (m_reti rfl rfl) (ok_i r5 (show rg (D 2410 (w_bookOf D a1)) from Rp_rg r5 2410 (w_bookOf D a1)))
            · replace hp := iq c16 hp
              refine okp (rfl) (fun c17 => ?_) (fun c17 => ?_)
              · refine ok (m_aload_n (q := 90) rfl rfl rfl rfl) ?_
                refine ok (m_gft (t := 14) (q := 93) rfl rfl rfl r5 rfl (fg_bookOf (D := D) a1 h1 g6 r2) rfl rfl rfl) ?_
                refine okp (m_ifeq (qt := 100) (qf := 96) rfl rfl (show rg (D 2411 (w_bookOf D a1)) from Rp_rg r5 2411 (w_bookOf D a1)) rfl rfl) (fun c18 => ?_) (fun c18 => ?_)
                · refine ok (m_iconst (q := 101) rfl rfl rfl) ?_
                  exact ok (m_reti rfl rfl) (ok_i r5 ⟨by decide, by decide⟩)
                · refine ok (m_iconst (q := 97) rfl rfl rfl) ?_
                  refine ok (m_goto (q := 101) rfl rfl rfl) ?_
                  exact ok (m_reti rfl rfl) (ok_i r5 ⟨by decide, by decide⟩)
              · replace hp := iq c17 hp
                refine okp (rfl) (fun c19 => ?_) (fun c19 => ?_)
                · refine ok (m_aload_n (q := 103) rfl rfl rfl rfl) ?_
                  have f_20 := Rp_f14_0 (D := D) (i := w_bookOf D a1) r5 (fg_bookOf (D := D) a1 h1 g6 r2)
                  refine ok (m_gfx (t := 14) (q := 106) (r := some (A 0 (8 + (w_bookOf D a1)))) rfl rfl rfl r5 rfl (fg_bookOf (D := D) a1 h1 g6 r2) rfl rfl rfl) ?_
                  refine oke (e_ci (x_cv (q := 109) rfl rfl rfl rfl rfl rfl rfl rfl rfl rfl (is_ty r5 rfl f_20)) (ev_size (8 + (w_bookOf D a1)) f_20) (Nat.le_trans (by decide) hd) r5) (fun s21 r22 => ?_)
                  exact ok (m_reti rfl rfl) (ok_i r22 (show rg (D 1002 (8 + (w_bookOf D a1))) from Rp_rg r5 1002 (8 + (w_bookOf D a1))))
                · replace hp := iq c19 hp
                  refine okp (rfl) (fun c23 => ?_) (fun c23 => ?_)
                  · refine ok (m_aload_n (q := 111) rfl rfl rfl rfl) ?_
                    refine ok (m_gft (t := 14) (q := 114) rfl rfl rfl r5 rfl (fg_bookOf (D := D) a1 h1 g6 r2) rfl rfl rfl) ?_
                    exact ok (m_reti rfl rfl) (ok_i r5 (show rg (D 2400 (w_bookOf D a1)) from Rp_rg r5 2400 (w_bookOf D a1)))
                  · replace hp := iq c23 hp
                    refine ok (m_iload_n (q := 116) rfl rfl rfl rfl) ?_
                    refine ok (m_bipush (q := 118) rfl rfl rfl) ?_
                    refine ok (m_bipush (q := 120) rfl rfl rfl) ?_
                    refine oke (e_ci (x_cs (q := 123) rfl rfl rfl rfl rfl rfl rfl rfl rfl) (ev_X11_between (D := D) a2 10 15 h2 ⟨by decide, by decide⟩ ⟨by decide, by decide⟩) (Nat.le_trans (by decide) hd) r5) (fun s7 r8 => ?_)
                    refine okp (m_ifeq (qt := 138) (qf := 126) rfl rfl (Ev_rg (ev_X11_between (D := D) a2 10 15 h2 ⟨by decide, by decide⟩ ⟨by decide, by decide⟩) r5) rfl rfl) (fun c9 => ?_) (fun c9 => ?_)
                    · refine ok (m_iconst (q := 139) rfl rfl rfl) ?_
                      exact ok (m_reti rfl rfl) (ok_i r8 ⟨by decide, by decide⟩)
                    · replace hp := iq c9 hp
                      refine ok (m_aload_n (q := 127) rfl rfl rfl rfl) ?_
                      have f_10 := Rp_f14_23 (D := D) (i := w_bookOf D a1) r8 (fg_bookOf (D := D) a1 h1 g6 r2)
                      refine ok (m_gfx (t := 14) (q := 130) (r := some (A 23 (w_bookOf D a1))) rfl rfl rfl r8 rfl (fg_bookOf (D := D) a1 h1 g6 r2) rfl rfl rfl) ?_
                      refine ok (m_iload_n (q := 131) rfl rfl rfl rfl) ?_
                      refine ok (m_bipush (q := 133) rfl rfl rfl) ?_
                      refine ok (m_isub (q := 134) rfl rfl rfl) ?_
                      have g11 := hp
                      refine ok (m_ialt (t := 23) (q := 135) rfl rfl rfl r8 rfl f_10 rfl rfl rfl g11 rfl) ?_
                      refine ok (m_goto (q := 139) rfl rfl rfl) ?_
                      exact ok (m_reti rfl rfl) (ok_i r8 (show rg (D 3301 (1024 * (w_bookOf D a1) + (wr (a2 - 10)))) from Rp_rg r8 3301 (1024 * (w_bookOf D a1) + (wr (a2 - 10)))))
abbrev P_X11_fit : Nat → Option am_E := am_fy tb_X11_fit
noncomputable def v_X11_fit (D : aD) (a1 : Int) (a2 : Int) (a3 : Int) : Int := if v_X11_isServant D a1 = 0 then (-1) else if v_X11_isPlace D a2 = 0 then (-1) else if v_X11_isDay D a3 = 0 then (-1) else v_X7_unfitness D (w_bookOf D a3) a1 a2 a3
def p_X11_fit (D : aD) (a1 : Int) (a2 : Int) (a3 : Int) : Prop := (if v_X11_isServant D a1 = 0 then True else (if v_X11_isPlace D a2 = 0 then True else (if v_X11_isDay D a3 = 0 then True else (p_inv1 D a3) ∧ (0 ≤ a1 ∧ a1 < D 1002 0) ∧ (0 ≤ a2 ∧ a2 < D 1002 1) ∧ (p_X7_unfitness D (w_bookOf D a3) a1 a2 a3))))
set_option maxRecDepth 100000 in
theorem ev_X11_fit {A : aA} {D : aD} (a1 : Int) (a2 : Int) (a3 : Int) (h1 : rg a1) (h2 : rg a2) (h3 : rg a3) (hp : p_X11_fit D a1 a2 a3) : Ev (1) 7 88 [am_r (some 32), am_i (wz a1), am_i (wz a2), am_i (wz a3)] A D (ri (v_X11_fit D a1 a2 a3)) A D := by
  unfold p_X11_fit at hp
  unfold v_X11_fit
  refine Ev_of (c := 6) (P := P_X11_fit) (lo := [some (am_r (some 32)), some (am_i (wz a1)), some (am_i (wz a2)), some (am_i (wz a3))]) rfl rfl rfl (fun d hd s hr => ?_)
  refine ok (m_aload_n (q := 1) rfl rfl rfl rfl) ?_
  refine ok (m_iload_n (q := 2) rfl rfl rfl rfl) ?_
  refine oke (e_ci (x_cv (q := 5) rfl rfl rfl rfl rfl rfl rfl rfl rfl rfl (is_st hr rfl rfl)) (ev_X11_isServant (D := D) a1 h1) (Nat.le_trans (by decide) hd) hr) (fun s1 r2 => ?_)
  refine okp (m_ifeq (qt := 23) (qf := 8) rfl rfl (Ev_rg (ev_X11_isServant (D := D) a1 h1) hr) rfl rfl) (fun c3 => ?_) (fun c3 => ?_)
  · refine ok (m_iconst (q := 24) rfl rfl rfl) ?_
    exact ok (m_reti rfl rfl) (ok_i r2 ⟨by decide, by decide⟩)
  · replace hp := iq c3 hp
    refine ok (m_aload_n (q := 9) rfl rfl rfl rfl) ?_
    refine ok (m_iload_n (q := 10) rfl rfl rfl rfl) ?_
    refine oke (e_ci (x_cv (q := 13) rfl rfl rfl rfl rfl rfl rfl rfl rfl rfl (is_st r2 rfl rfl)) (ev_X11_isPlace (D := D) a2 h2) (Nat.le_trans (by decide) hd) r2) (fun s4 r5 => ?_)
    refine okp (m_ifeq (qt := 23) (qf := 16) rfl rfl (Ev_rg (ev_X11_isPlace (D := D) a2 h2) r2) rfl rfl) (fun c6 => ?_) (fun c6 => ?_)
    · refine ok (m_iconst (q := 24) rfl rfl rfl) ?_
      exact ok (m_reti rfl rfl) (ok_i r5 ⟨by decide, by decide⟩)
    · replace hp := iq c6 hp
      refine ok (m_iload_n (q := 17) rfl rfl rfl rfl) ?_
      refine oke (e_ci (x_cs (q := 20) rfl rfl rfl rfl rfl rfl rfl rfl rfl) (ev_X11_isDay (D := D) a3 h3) (Nat.le_trans (by decide) hd) r5) (fun s7 r8 => ?_)
      refine okp (m_ifne (qt := 25) (qf := 23) rfl rfl (Ev_rg (ev_X11_isDay (D := D) a3 h3) r5) rfl rfl) (fun c9 => ?_) (fun c9 => ?_)
      · refine ok (m_iconst (q := 24) rfl rfl rfl) ?_
        exact ok (m_reti rfl rfl) (ok_i r8 ⟨by decide, by decide⟩)
      · replace hp := iq c9 hp
        refine ok (m_aload_n (q := 26) rfl rfl rfl rfl) ?_
        refine ok (m_iload_n (q := 27) rfl rfl rfl rfl) ?_
        obtain ⟨g12, hp⟩ := hp
        refine oke (e_cr (x_cv (q := 30) rfl rfl rfl rfl rfl rfl rfl rfl rfl rfl (is_st r8 rfl rfl)) (ev_X11_bookOf (D := D) a3 h3 g12) (Nat.le_trans (by decide) hd) r8) (fun s10 r11 => ?_)
        refine ok (m_aload_n (q := 31) rfl rfl rfl rfl) ?_
        have f_13 := Rp_fx0_0 r11
        refine ok (m_gfy (q := 34) rfl rfl rfl r11 rfl rfl rfl) ?_
        refine ok (m_iload_n (q := 35) rfl rfl rfl rfl) ?_
        obtain ⟨g16, hp⟩ := hp
        have f_17 := Rp_el0 (D := D) r11 g16
        refine oke (e_cr (x_cv (q := 38) rfl rfl rfl rfl rfl rfl rfl rfl rfl rfl (is_ty r11 rfl f_13)) (ev_get0 a1 g16) (Nat.le_trans (by decide) hd) r11) (fun s14 r15 => ?_)
        refine ok (m_cast (q := 41) rfl rfl rfl (isN_ty r15 rfl f_17)) ?_
        refine ok (m_aload_n (q := 42) rfl rfl rfl rfl) ?_
        have f_18 := Rp_fx0_1 r15
        refine ok (m_gfy (q := 45) rfl rfl rfl r15 rfl rfl rfl) ?_
        refine ok (m_iload_n (q := 46) rfl rfl rfl rfl) ?_
        obtain ⟨g21, hp⟩ := hp
        have f_22 := Rp_el1 (D := D) r15 g21
        refine oke (e_cr (x_cv (q := 49) rfl rfl rfl rfl rfl rfl rfl rfl rfl rfl (is_ty r15 rfl f_18)) (ev_get1 a2 g21) (Nat.le_trans (by decide) hd) r15) (fun s19 r20 => ?_)
        refine ok (m_cast (q := 52) rfl rfl rfl (isN_ty r20 rfl f_22)) ?_
        refine ok (m_iload_n (q := 53) rfl rfl rfl rfl) ?_
        have g25 := hp
        refine oke (e_ci (x_cv (q := 56) rfl rfl rfl rfl rfl rfl rfl rfl rfl rfl (is_ty r20 rfl (fg_bookOf (D := D) a3 h3 g12 r8))) (ev_X7_unfitness (D := D) (w_bookOf D a3) a1 a2 a3 (fg_bookOf (D := D) a3 h3 g12 r8) f_17 f_22 h3 g25) (Nat.le_trans (by decide) hd) r20) (fun s23 r24 => ?_)
        exact ok (m_reti rfl rfl) (ok_i r24 (Ev_rg (ev_X7_unfitness (D := D) (w_bookOf D a3) a1 a2 a3 (fg_bookOf (D := D) a3 h3 g12 r8) f_17 f_22 h3 g25) r20))
end Fh
