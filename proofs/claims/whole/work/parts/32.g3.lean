/-! Days: stretches on which nothing changes; false characters; days served. -/
section G3
variable {n : Nat} {A : aA} {D : aD}
abbrev P_X3_nextChange : Nat → Option am_E := am_fy tb_X3_nextChange
def K_X3_nextChange_8 (n : Nat) (A : aA) (D : aD) (a1 : Int) (a2 : Int) (a3 : Int) (a4 : Int) (a5 : Int) (x : Int) (D' : aD) : Prop := Lp n 4 P_X3_nextChange 8 [some (am_r (some 50)), some (am_i (wz a1)), some (am_i (wz a2)), some (am_i (wz a3)), some (am_i (wz a4)), some (am_i (wz a5)), none, none] [] A D (ri x) A D'
set_option maxRecDepth 100000 in
theorem rl_X3_nextChange {n : Nat} {A : aA} {D D' : aD} (a1 : Int) (a2 : Int) (a3 : Int) (h1 : rg a1) (h2 : rg a2) (h3 : rg a3) {x : Int} (hp : K_X3_nextChange_8 (n) A D a1 a2 a3 1000 0 x D') : Ev (n) (5) 24 [am_r (some 50), am_i (wz a1), am_i (wz a2), am_i (wz a3)] A D (ri x) A D' := by
  refine Ev_of (c := 4) (P := P_X3_nextChange) (lo := [some (am_r (some 50)), some (am_i (wz a1)), some (am_i (wz a2)), some (am_i (wz a3)), none, none, none, none]) rfl rfl rfl (fun d hd s hr => ?_)
  refine ok (m_sipush (q := 3) rfl rfl rfl) ?_
  refine ok (m_istore (q := 5) (lo' := [some (am_r (some 50)), some (am_i (wz a1)), some (am_i (wz a2)), some (am_i (wz a3)), some (am_i (wz 1000)), none, none, none]) rfl rfl rfl rfl rfl) ?_
  refine ok (m_iconst (q := 6) rfl rfl rfl) ?_
  refine ok (m_istore (q := 8) (lo' := [some (am_r (some 50)), some (am_i (wz a1)), some (am_i (wz a2)), some (am_i (wz a3)), some (am_i (wz 1000)), some (am_i (wz 0)), none, none]) rfl rfl rfl rfl rfl) ?_
  exact hp d hd _ hr
set_option maxRecDepth 100000 in
theorem rl_X3_nextChange_8 {n : Nat} {A : aA} {D D' : aD} (a1 : Int) (a2 : Int) (a3 : Int) (a4 : Int) (a5 : Int) (h1 : rg a1) (h2 : rg a2) (h3 : rg a3) (h4 : rg a4) (h5 : rg a5) {x : Int} (hp : (if D 1002 5 ≤ a5 then (x = a4 ∧ D' = D) else (0 ≤ a5 ∧ a5 < D 1002 5) ∧ (if D 2000 (D 2501 a5) = a1 then (if v_X5_isKnownBy D a5 a3 = 0 then K_X3_nextChange_8 (n) A D a1 a2 a3 a4 (wr (a5 + 1)) x D' else (if D 2503 a5 ≤ a2 then (if v_X5_endAsKnown D a5 a3 ≤ a2 then K_X3_nextChange_8 (n) A D a1 a2 a3 a4 (wr (a5 + 1)) x D' else K_X3_nextChange_8 (n) A D a1 a2 a3 (min a4 (v_X5_endAsKnown D a5 a3)) (wr (a5 + 1)) x D') else (if v_X5_endAsKnown D a5 a3 ≤ a2 then K_X3_nextChange_8 (n) A D a1 a2 a3 (min a4 (D 2503 a5)) (wr (a5 + 1)) x D' else K_X3_nextChange_8 (n) A D a1 a2 a3 (min (min a4 (D 2503 a5)) (v_X5_endAsKnown D a5 a3)) (wr (a5 + 1)) x D'))) else K_X3_nextChange_8 (n) A D a1 a2 a3 a4 (wr (a5 + 1)) x D'))) : K_X3_nextChange_8 (n) A D a1 a2 a3 a4 a5 x D' := by
  unfold K_X3_nextChange_8
  refine fun d hd s hr => ?_
  refine ok (m_iload (q := 10) rfl rfl rfl rfl) ?_
  refine ok (m_aload_n (q := 11) rfl rfl rfl rfl) ?_
  have f_1 := Rp_fx0_5 hr
  refine ok (m_gfy (q := 14) rfl rfl rfl hr rfl rfl rfl) ?_
  refine oke (e_ci (x_cv (q := 17) rfl rfl rfl rfl rfl rfl rfl rfl rfl rfl (is_ty hr rfl f_1)) (ev_size 5 f_1) (Nat.le_trans (by decide) hd) hr) (fun s2 r3 => ?_)
  refine okc (m_cmpge (qt := 115) (qf := 20) rfl rfl h5 (show rg (D 1002 5) from Rp_rg hr 1002 5) rfl rfl) (fun c4 => ?_) (fun c4 => ?_)
  · replace hp := ip c4 hp
    refine ok (m_iload (q := 117) rfl rfl rfl rfl) ?_
    exact ok (m_reti rfl rfl) (ok_iq r3 h4 hp)
  · replace hp := iq c4 hp
    refine ok (m_aload_n (q := 21) rfl rfl rfl rfl) ?_
    have f_5 := Rp_fx0_5 r3
    refine ok (m_gfy (q := 24) rfl rfl rfl r3 rfl rfl rfl) ?_
    refine ok (m_iload (q := 26) rfl rfl rfl rfl) ?_
    obtain ⟨g8, hp⟩ := hp
    have f_9 := Rp_el5 (D := D) r3 g8
    refine oke (e_cr (x_cv (q := 29) rfl rfl rfl rfl rfl rfl rfl rfl rfl rfl (is_ty r3 rfl f_5)) (ev_get5 a5 g8) (Nat.le_trans (by decide) hd) r3) (fun s6 r7 => ?_)
    refine ok (m_cast (q := 32) rfl rfl rfl (isN_ty r7 rfl f_9)) ?_
    refine ok (m_astore (q := 34) (lo' := [some (am_r (some 50)), some (am_i (wz a1)), some (am_i (wz a2)), some (am_i (wz a3)), some (am_i (wz a4)), some (am_i (wz a5)), some (am_r (some (A 15 a5))), none]) rfl rfl rfl rfl rfl) ?_
    refine ok (m_aload (q := 36) rfl rfl rfl rfl) ?_
    have f_10 : D 910 (D 2501 a5) = 1 := Rp_f15_10 (D := D) (i := a5) r7 f_9
    refine ok (m_gfx (t := 15) (q := 39) (r := some (A 10 (D 2501 a5))) rfl rfl rfl r7 rfl f_9 rfl rfl rfl) ?_
    refine ok (m_gft (t := 10) (q := 42) rfl rfl rfl r7 rfl f_10 rfl rfl rfl) ?_
    refine ok (m_iload_n (q := 43) rfl rfl rfl rfl) ?_
    refine okc (m_cmpne (qt := 109) (qf := 46) rfl rfl (show rg (D 2000 (D 2501 a5)) from Rp_rg r7 2000 (D 2501 a5)) h1 rfl rfl) (fun c11 => ?_) (fun c11 => ?_)
    · replace hp := ip c11 hp
      refine ok (m_aload (q := 48) rfl rfl rfl rfl) ?_
      refine ok (m_iload_n (q := 49) rfl rfl rfl rfl) ?_
      refine oke (e_ci (x_cv (q := 52) rfl rfl rfl rfl rfl rfl rfl rfl rfl rfl (is_ty r7 rfl f_9)) (ev_X5_isKnownBy (D := D) a5 a3 f_9 h3) (Nat.le_trans (by decide) hd) r7) (fun s12 r13 => ?_)
      refine okc (m_ifeq (qt := 109) (qf := 55) rfl rfl (Ev_rg (ev_X5_isKnownBy (D := D) a5 a3 f_9 h3) r7) rfl rfl) (fun c14 => ?_) (fun c14 => ?_)
      · replace hp := ip c14 hp
        refine ok (m_iinc (q := 112) (lo' := [some (am_r (some 50)), some (am_i (wz a1)), some (am_i (wz a2)), some (am_i (wz a3)), some (am_i (wz a4)), some (am_i (wz (wr (a5 + 1)))), some (am_r (some (A 15 a5))), none]) rfl rfl rfl rfl rfl rfl rfl) ?_
        refine ok (m_goto (q := 8) rfl rfl rfl) ?_
        refine ok (mk rfl (lo' := [some (am_r (some 50)), some (am_i (wz a1)), some (am_i (wz a2)), some (am_i (wz a3)), some (am_i (wz a4)), some (am_i (wz (wr (a5 + 1)))), none, none]) rfl) ?_
        exact hp d hd _ r13
      · replace hp := iq c14 hp
        refine ok (m_aload (q := 57) rfl rfl rfl rfl) ?_
        refine ok (m_iload_n (q := 58) rfl rfl rfl rfl) ?_
        refine oke (e_ci (x_cv (q := 61) rfl rfl rfl rfl rfl rfl rfl rfl rfl rfl (is_ty r13 rfl f_9)) (ev_X5_endAsKnown (D := D) a5 a3 f_9 h3) (Nat.le_trans (by decide) hd) r13) (fun s15 r16 => ?_)
        refine ok (m_istore (q := 63) (lo' := [some (am_r (some 50)), some (am_i (wz a1)), some (am_i (wz a2)), some (am_i (wz a3)), some (am_i (wz a4)), some (am_i (wz a5)), some (am_r (some (A 15 a5))), some (am_i (wz (v_X5_endAsKnown D a5 a3)))]) rfl rfl rfl rfl rfl) ?_
        refine ok (m_aload (q := 65) rfl rfl rfl rfl) ?_
        refine ok (m_gft (t := 15) (q := 68) rfl rfl rfl r16 rfl f_9 rfl rfl rfl) ?_
        refine ok (m_iload_n (q := 69) rfl rfl rfl rfl) ?_
        refine okc (m_cmple (qt := 85) (qf := 72) rfl rfl (show rg (D 2503 a5) from Rp_rg r16 2503 a5) h2 rfl rfl) (fun c17 => ?_) (fun c17 => ?_)
        · replace hp := ip c17 hp
          refine ok (m_iload (q := 87) rfl rfl rfl rfl) ?_
          refine ok (m_istore (q := 89) (lo' := [some (am_r (some 50)), some (am_i (wz a1)), some (am_i (wz a2)), some (am_i (wz a3)), some (am_i (wz a4)), some (am_i (wz a5)), some (am_r (some (A 15 a5))), some (am_i (wz (v_X5_endAsKnown D a5 a3)))]) rfl rfl rfl rfl rfl) ?_
          refine ok (m_iload (q := 91) rfl rfl rfl rfl) ?_
          refine ok (m_iload_n (q := 92) rfl rfl rfl rfl) ?_
          refine okc (m_cmple (qt := 105) (qf := 95) rfl rfl (Ev_rg (ev_X5_endAsKnown (D := D) a5 a3 f_9 h3) r13) h2 rfl rfl) (fun c18 => ?_) (fun c18 => ?_)
          · replace hp := ip c18 hp
            refine ok (m_iload (q := 107) rfl rfl rfl rfl) ?_
            refine ok (m_istore (q := 109) (lo' := [some (am_r (some 50)), some (am_i (wz a1)), some (am_i (wz a2)), some (am_i (wz a3)), some (am_i (wz a4)), some (am_i (wz a5)), some (am_r (some (A 15 a5))), some (am_i (wz (v_X5_endAsKnown D a5 a3)))]) rfl rfl rfl rfl rfl) ?_
            refine ok (m_iinc (q := 112) (lo' := [some (am_r (some 50)), some (am_i (wz a1)), some (am_i (wz a2)), some (am_i (wz a3)), some (am_i (wz a4)), some (am_i (wz (wr (a5 + 1)))), some (am_r (some (A 15 a5))), some (am_i (wz (v_X5_endAsKnown D a5 a3)))]) rfl rfl rfl rfl rfl rfl rfl) ?_
            refine ok (m_goto (q := 8) rfl rfl rfl) ?_
            refine ok (mk rfl (lo' := [some (am_r (some 50)), some (am_i (wz a1)), some (am_i (wz a2)), some (am_i (wz a3)), some (am_i (wz a4)), some (am_i (wz (wr (a5 + 1)))), none, none]) rfl) ?_
            exact hp d hd _ r16
          · replace hp := iq c18 hp
            refine ok (m_iload (q := 97) rfl rfl rfl rfl) ?_
            refine ok (m_iload (q := 99) rfl rfl rfl rfl) ?_
            refine ok (m_min (q := 102) rfl rfl rfl h4 (Ev_rg (ev_X5_endAsKnown (D := D) a5 a3 f_9 h3) r13) rfl) ?_
            refine ok (m_goto (q := 107) rfl rfl rfl) ?_
            refine ok (m_istore (q := 109) (lo' := [some (am_r (some 50)), some (am_i (wz a1)), some (am_i (wz a2)), some (am_i (wz a3)), some (am_i (wz (min a4 (v_X5_endAsKnown D a5 a3)))), some (am_i (wz a5)), some (am_r (some (A 15 a5))), some (am_i (wz (v_X5_endAsKnown D a5 a3)))]) rfl rfl rfl rfl rfl) ?_
            refine ok (m_iinc (q := 112) (lo' := [some (am_r (some 50)), some (am_i (wz a1)), some (am_i (wz a2)), some (am_i (wz a3)), some (am_i (wz (min a4 (v_X5_endAsKnown D a5 a3)))), some (am_i (wz (wr (a5 + 1)))), some (am_r (some (A 15 a5))), some (am_i (wz (v_X5_endAsKnown D a5 a3)))]) rfl rfl rfl rfl rfl rfl rfl) ?_
            refine ok (m_goto (q := 8) rfl rfl rfl) ?_
            refine ok (mk rfl (lo' := [some (am_r (some 50)), some (am_i (wz a1)), some (am_i (wz a2)), some (am_i (wz a3)), some (am_i (wz (min a4 (v_X5_endAsKnown D a5 a3)))), some (am_i (wz (wr (a5 + 1)))), none, none]) rfl) ?_
            exact hp d hd _ r16
        · replace hp := iq c17 hp
          refine ok (m_iload (q := 74) rfl rfl rfl rfl) ?_
          refine ok (m_aload (q := 76) rfl rfl rfl rfl) ?_
          refine ok (m_gft (t := 15) (q := 79) rfl rfl rfl r16 rfl f_9 rfl rfl rfl) ?_
          refine ok (m_min (q := 82) rfl rfl rfl h4 (show rg (D 2503 a5) from Rp_rg r16 2503 a5) rfl) ?_
          refine ok (m_goto (q := 87) rfl rfl rfl) ?_
          refine ok (m_istore (q := 89) (lo' := [some (am_r (some 50)), some (am_i (wz a1)), some (am_i (wz a2)), some (am_i (wz a3)), some (am_i (wz (min a4 (D 2503 a5)))), some (am_i (wz a5)), some (am_r (some (A 15 a5))), some (am_i (wz (v_X5_endAsKnown D a5 a3)))]) rfl rfl rfl rfl rfl) ?_
          refine ok (m_iload (q := 91) rfl rfl rfl rfl) ?_
          refine ok (m_iload_n (q := 92) rfl rfl rfl rfl) ?_
          refine okc (m_cmple (qt := 105) (qf := 95) rfl rfl (Ev_rg (ev_X5_endAsKnown (D := D) a5 a3 f_9 h3) r13) h2 rfl rfl) (fun c19 => ?_) (fun c19 => ?_)
          · replace hp := ip c19 hp
            refine ok (m_iload (q := 107) rfl rfl rfl rfl) ?_
            refine ok (m_istore (q := 109) (lo' := [some (am_r (some 50)), some (am_i (wz a1)), some (am_i (wz a2)), some (am_i (wz a3)), some (am_i (wz (min a4 (D 2503 a5)))), some (am_i (wz a5)), some (am_r (some (A 15 a5))), some (am_i (wz (v_X5_endAsKnown D a5 a3)))]) rfl rfl rfl rfl rfl) ?_
            refine ok (m_iinc (q := 112) (lo' := [some (am_r (some 50)), some (am_i (wz a1)), some (am_i (wz a2)), some (am_i (wz a3)), some (am_i (wz (min a4 (D 2503 a5)))), some (am_i (wz (wr (a5 + 1)))), some (am_r (some (A 15 a5))), some (am_i (wz (v_X5_endAsKnown D a5 a3)))]) rfl rfl rfl rfl rfl rfl rfl) ?_
            refine ok (m_goto (q := 8) rfl rfl rfl) ?_
            refine ok (mk rfl (lo' := [some (am_r (some 50)), some (am_i (wz a1)), some (am_i (wz a2)), some (am_i (wz a3)), some (am_i (wz (min a4 (D 2503 a5)))), some (am_i (wz (wr (a5 + 1)))), none, none]) rfl) ?_
            exact hp d hd _ r16
          · replace hp := iq c19 hp
            refine ok (m_iload (q := 97) rfl rfl rfl rfl) ?_
            refine ok (m_iload (q := 99) rfl rfl rfl rfl) ?_
            refine ok (m_min (q := 102) rfl rfl rfl (rg_min h4 (show rg (D 2503 a5) from Rp_rg r16 2503 a5)) (Ev_rg (ev_X5_endAsKnown (D := D) a5 a3 f_9 h3) r13) rfl) ?_
            refine ok (m_goto (q := 107) rfl rfl rfl) ?_
            refine ok (m_istore (q := 109) (lo' := [some (am_r (some 50)), some (am_i (wz a1)), some (am_i (wz a2)), some (am_i (wz a3)), some (am_i (wz (min (min a4 (D 2503 a5)) (v_X5_endAsKnown D a5 a3)))), some (am_i (wz a5)), some (am_r (some (A 15 a5))), some (am_i (wz (v_X5_endAsKnown D a5 a3)))]) rfl rfl rfl rfl rfl) ?_
            refine ok (m_iinc (q := 112) (lo' := [some (am_r (some 50)), some (am_i (wz a1)), some (am_i (wz a2)), some (am_i (wz a3)), some (am_i (wz (min (min a4 (D 2503 a5)) (v_X5_endAsKnown D a5 a3)))), some (am_i (wz (wr (a5 + 1)))), some (am_r (some (A 15 a5))), some (am_i (wz (v_X5_endAsKnown D a5 a3)))]) rfl rfl rfl rfl rfl rfl rfl) ?_
            refine ok (m_goto (q := 8) rfl rfl rfl) ?_
            refine ok (mk rfl (lo' := [some (am_r (some 50)), some (am_i (wz a1)), some (am_i (wz a2)), some (am_i (wz a3)), some (am_i (wz (min (min a4 (D 2503 a5)) (v_X5_endAsKnown D a5 a3)))), some (am_i (wz (wr (a5 + 1)))), none, none]) rfl) ?_
            exact hp d hd _ r16
    · replace hp := iq c11 hp
      refine ok (m_iinc (q := 112) (lo' := [some (am_r (some 50)), some (am_i (wz a1)), some (am_i (wz a2)), some (am_i (wz a3)), some (am_i (wz a4)), some (am_i (wz (wr (a5 + 1)))), some (am_r (some (A 15 a5))), none]) rfl rfl rfl rfl rfl rfl rfl) ?_
      refine ok (m_goto (q := 8) rfl rfl rfl) ?_
      refine ok (mk rfl (lo' := [some (am_r (some 50)), some (am_i (wz a1)), some (am_i (wz a2)), some (am_i (wz a3)), some (am_i (wz a4)), some (am_i (wz (wr (a5 + 1)))), none, none]) rfl) ?_
      exact hp d hd _ r7
abbrev P_X12_falseBy : Nat → Option am_E := am_fy tb_X12_falseBy
def K_X12_falseBy_10 (n : Nat) (A : aA) (D : aD) (a1 : Int) (a2 : Int) (a3 : Int) (a4 : Int) (x : Int) (D' : aD) : Prop := Lp n 2 P_X12_falseBy 10 [some (am_r (some 70)), some (am_i (wz a1)), some (am_i (wz a2)), some (am_i (wz a3)), some (am_i (wz a4)), none] [] A D (ri x) A D'
set_option maxRecDepth 100000 in
theorem rl_X12_falseBy {n : Nat} {A : aA} {D D' : aD} (a1 : Int) (a2 : Int) (h1 : rg a1) (h2 : rg a2) {x : Int} (hp : (0 ≤ a1 ∧ a1 < 60) ∧ K_X12_falseBy_10 (n) A D a1 a2 0 (D 111 a1) x D') : Ev (n) (3) 182 [am_r (some 70), am_i (wz a1), am_i (wz a2)] A D (ri x) A D' := by
  refine Ev_of (c := 2) (P := P_X12_falseBy) (lo := [some (am_r (some 70)), some (am_i (wz a1)), some (am_i (wz a2)), none, none, none]) rfl rfl rfl (fun d hd s hr => ?_)
  refine ok (m_iconst (q := 1) rfl rfl rfl) ?_
  refine ok (m_istore_n (q := 2) (lo' := [some (am_r (some 70)), some (am_i (wz a1)), some (am_i (wz a2)), some (am_i (wz 0)), none, none]) rfl rfl rfl rfl rfl) ?_
  refine ok (m_aload_n (q := 3) rfl rfl rfl rfl) ?_
  refine ok (m_gfc (q := 6) rfl rfl rfl hr rfl rfl rfl) ?_
  refine ok (m_iload_n (q := 7) rfl rfl rfl rfl) ?_
  obtain ⟨g1, hp⟩ := hp
  refine ok (m_ials (q := 8) rfl rfl rfl hr rfl rfl g1 rfl) ?_
  refine ok (m_istore (q := 10) (lo' := [some (am_r (some 70)), some (am_i (wz a1)), some (am_i (wz a2)), some (am_i (wz 0)), some (am_i (wz (D 111 a1))), none]) rfl rfl rfl rfl rfl) ?_
  exact hp d hd _ hr
set_option maxRecDepth 100000 in
theorem rl_X12_falseBy_10 {n : Nat} {A : aA} {D D' : aD} (a1 : Int) (a2 : Int) (a3 : Int) (a4 : Int) (h1 : rg a1) (h2 : rg a2) (h3 : rg a3) (h4 : rg a4) {x : Int} (hp : (0 ≤ a1 ∧ a1 < 60) ∧ (if D 112 a1 < a4 then (if wr (2 * a3) ≤ wr ((wr ((D 112 a1) - (D 111 a1))) + 1) then (x = (-1) ∧ D' = D) else (x = 1000 ∧ D' = D)) else (p_inOf D (D 109 a1) a4 a2) ∧ (if w_inOf D (D 109 a1) a4 a2 = (-1) then K_X12_falseBy_10 (n) A D a1 a2 (wr (a3 + 1)) (wr (a4 + 1)) x D' else (0 ≤ w_inOf D (D 109 a1) a4 a2 ∧ w_inOf D (D 109 a1) a4 a2 < 60) ∧ (0 ≤ D 84 (w_inOf D (D 109 a1) a4 a2) ∧ D 84 (w_inOf D (D 109 a1) a4 a2) < 30) ∧ (if D 77 (D 84 (w_inOf D (D 109 a1) a4 a2)) = D 108 a1 then K_X12_falseBy_10 (n) A D a1 a2 a3 (wr (a4 + 1)) x D' else (x = a4 ∧ D' = D))))) : K_X12_falseBy_10 (n) A D a1 a2 a3 a4 x D' := by
  unfold K_X12_falseBy_10
  refine fun d hd s hr => ?_
  refine ok (m_iload (q := 12) rfl rfl rfl rfl) ?_
  refine ok (m_aload_n (q := 13) rfl rfl rfl rfl) ?_
  refine ok (m_gfc (q := 16) rfl rfl rfl hr rfl rfl rfl) ?_
  refine ok (m_iload_n (q := 17) rfl rfl rfl rfl) ?_
  obtain ⟨g2, hp⟩ := hp
  refine ok (m_ials (q := 18) rfl rfl rfl hr rfl rfl g2 rfl) ?_
  refine okc (m_cmpgt (qt := 78) (qf := 21) rfl rfl h4 (Rp_rg hr 112 a1) rfl rfl) (fun c3 => ?_) (fun c3 => ?_)
  · replace hp := ip c3 hp
    refine ok (m_iconst (q := 79) rfl rfl rfl) ?_
    refine ok (m_iload_n (q := 80) rfl rfl rfl rfl) ?_
    refine ok (m_imul (q := 81) rfl rfl rfl) ?_
    refine ok (m_aload_n (q := 82) rfl rfl rfl rfl) ?_
    refine ok (m_gfc (q := 85) rfl rfl rfl hr rfl rfl rfl) ?_
    refine ok (m_iload_n (q := 86) rfl rfl rfl rfl) ?_
    refine ok (m_ials (q := 87) rfl rfl rfl hr rfl rfl g2 rfl) ?_
    refine ok (m_aload_n (q := 88) rfl rfl rfl rfl) ?_
    refine ok (m_gfc (q := 91) rfl rfl rfl hr rfl rfl rfl) ?_
    refine ok (m_iload_n (q := 92) rfl rfl rfl rfl) ?_
    refine ok (m_ials (q := 93) rfl rfl rfl hr rfl rfl g2 rfl) ?_
    refine ok (m_isub (q := 94) rfl rfl rfl) ?_
    refine ok (m_iconst (q := 95) rfl rfl rfl) ?_
    refine ok (m_iadd (q := 96) rfl rfl rfl) ?_
    refine okc (m_cmple (qt := 105) (qf := 99) rfl rfl (rg_wr _) (rg_wr _) rfl rfl) (fun c4 => ?_) (fun c4 => ?_)
    · replace hp := ip c4 hp
      refine ok (m_iconst (q := 106) rfl rfl rfl) ?_
      exact ok (m_reti rfl rfl) (ok_iq hr ⟨by decide, by decide⟩ hp)
    · replace hp := iq c4 hp
      refine ok (m_sipush (q := 102) rfl rfl rfl) ?_
      refine ok (m_goto (q := 106) rfl rfl rfl) ?_
      exact ok (m_reti rfl rfl) (ok_iq hr ⟨by decide, by decide⟩ hp)
  · replace hp := iq c3 hp
    refine ok (m_aload_n (q := 22) rfl rfl rfl rfl) ?_
    refine ok (m_aload_n (q := 23) rfl rfl rfl rfl) ?_
    refine ok (m_gfc (q := 26) rfl rfl rfl hr rfl rfl rfl) ?_
    refine ok (m_iload_n (q := 27) rfl rfl rfl rfl) ?_
    refine ok (m_ials (q := 28) rfl rfl rfl hr rfl rfl g2 rfl) ?_
    refine ok (m_iload (q := 30) rfl rfl rfl rfl) ?_
    refine ok (m_iload_n (q := 31) rfl rfl rfl rfl) ?_
    obtain ⟨g7, hp⟩ := hp
    refine oke (e_ci (x_cv (q := 34) rfl rfl rfl rfl rfl rfl rfl rfl rfl rfl (is_st hr rfl rfl)) (ev_X12_inOf (D := D) (D 109 a1) a4 a2 (Rp_rg hr 109 a1) h4 h2 g7) (Nat.le_trans (by decide) hd) hr) (fun s5 r6 => ?_)
    refine ok (m_istore (q := 36) (lo' := [some (am_r (some 70)), some (am_i (wz a1)), some (am_i (wz a2)), some (am_i (wz a3)), some (am_i (wz a4)), some (am_i (wz (w_inOf D (D 109 a1) a4 a2)))]) rfl rfl rfl rfl rfl) ?_
    refine ok (m_iload (q := 38) rfl rfl rfl rfl) ?_
    refine ok (m_iconst (q := 39) rfl rfl rfl) ?_
    refine okc (m_cmpne (qt := 48) (qf := 42) rfl rfl (Ev_rg (ev_X12_inOf (D := D) (D 109 a1) a4 a2 (Rp_rg hr 109 a1) h4 h2 g7) hr) ⟨by decide, by decide⟩ rfl rfl) (fun c8 => ?_) (fun c8 => ?_)
    · replace hp := ip c8 hp
      refine ok (m_iinc (q := 45) (lo' := [some (am_r (some 70)), some (am_i (wz a1)), some (am_i (wz a2)), some (am_i (wz (wr (a3 + 1)))), some (am_i (wz a4)), some (am_i (wz (w_inOf D (D 109 a1) a4 a2)))]) rfl rfl rfl rfl rfl rfl rfl) ?_
      refine ok (m_goto (q := 72) rfl rfl rfl) ?_
      refine ok (m_iinc (q := 75) (lo' := [some (am_r (some 70)), some (am_i (wz a1)), some (am_i (wz a2)), some (am_i (wz (wr (a3 + 1)))), some (am_i (wz (wr (a4 + 1)))), some (am_i (wz (w_inOf D (D 109 a1) a4 a2)))]) rfl rfl rfl rfl rfl rfl rfl) ?_
      refine ok (m_goto (q := 10) rfl rfl rfl) ?_
      refine ok (mk rfl (lo' := [some (am_r (some 70)), some (am_i (wz a1)), some (am_i (wz a2)), some (am_i (wz (wr (a3 + 1)))), some (am_i (wz (wr (a4 + 1)))), none]) rfl) ?_
      exact hp d hd _ r6
    · replace hp := iq c8 hp
      refine ok (m_aload_n (q := 49) rfl rfl rfl rfl) ?_
      refine ok (m_gfc (q := 52) rfl rfl rfl r6 rfl rfl rfl) ?_
      refine ok (m_aload_n (q := 53) rfl rfl rfl rfl) ?_
      refine ok (m_gfc (q := 56) rfl rfl rfl r6 rfl rfl rfl) ?_
      refine ok (m_iload (q := 58) rfl rfl rfl rfl) ?_
      obtain ⟨g9, hp⟩ := hp
      refine ok (m_ials (q := 59) rfl rfl rfl r6 rfl rfl g9 rfl) ?_
      obtain ⟨g10, hp⟩ := hp
      refine ok (m_ials (q := 60) rfl rfl rfl r6 rfl rfl g10 rfl) ?_
      refine ok (m_aload_n (q := 61) rfl rfl rfl rfl) ?_
      refine ok (m_gfc (q := 64) rfl rfl rfl r6 rfl rfl rfl) ?_
      refine ok (m_iload_n (q := 65) rfl rfl rfl rfl) ?_
      refine ok (m_ials (q := 66) rfl rfl rfl r6 rfl rfl g2 rfl) ?_
      refine okc (m_cmpeq (qt := 72) (qf := 69) rfl rfl (Rp_rg r6 77 (D 84 (w_inOf D (D 109 a1) a4 a2))) (Rp_rg r6 108 a1) rfl rfl) (fun c11 => ?_) (fun c11 => ?_)
      · replace hp := ip c11 hp
        refine ok (m_iinc (q := 75) (lo' := [some (am_r (some 70)), some (am_i (wz a1)), some (am_i (wz a2)), some (am_i (wz a3)), some (am_i (wz (wr (a4 + 1)))), some (am_i (wz (w_inOf D (D 109 a1) a4 a2)))]) rfl rfl rfl rfl rfl rfl rfl) ?_
        refine ok (m_goto (q := 10) rfl rfl rfl) ?_
        refine ok (mk rfl (lo' := [some (am_r (some 70)), some (am_i (wz a1)), some (am_i (wz a2)), some (am_i (wz a3)), some (am_i (wz (wr (a4 + 1)))), none]) rfl) ?_
        exact hp d hd _ r6
      · replace hp := iq c11 hp
        refine ok (m_iload (q := 71) rfl rfl rfl rfl) ?_
        exact ok (m_reti rfl rfl) (ok_iq r6 h4 hp)
def ncStep (D : aD) (s d k : Int) (a p : Int) : Int := if D 83 p = s ∧ ¬ v_X12_isKnown D p k = 0 then min (if d < D 85 p then min a (D 85 p) else a) (if d < v_X5_endAsKnown D p k then v_X5_endAsKnown D p k else 1000) else a
def w_nextChange (D : aD) (s d k : Int) : Int := foi (ncStep D s d k) 1000 (D 70 4)
theorem nc_b {s d k : Int} (hI : Iv D) (hd : 0 ≤ d) (hk : k ≤ 999) : ∀ j, 0 ≤ j → j ≤ D 70 4 → (0 ≤ foi (ncStep D s d k) 1000 j ∧ foi (ncStep D s d k) 1000 j ≤ 1000 ∧ d < 1000 → d < foi (ncStep D s d k) 1000 j ∨ True) ∧ (0 ≤ foi (ncStep D s d k) 1000 j ∧ foi (ncStep D s d k) 1000 j ≤ 1000) := by
  have hc := hI.ct; unfold I_ct at hc
  refine foi_ind (Q := fun j x => (0 ≤ x ∧ x ≤ 1000 ∧ d < 1000 → d < x ∨ True) ∧ (0 ≤ x ∧ x ≤ 1000)) ⟨fun _ => Or.inr trivial, by omega, by omega⟩ (fun j x j0 j1 q => ⟨fun _ => Or.inr trivial, ?_⟩)
  have hg := hI.pg j j0 j1
  unfold ncStep
  by_cases c : D 83 j = s ∧ ¬ v_X12_isKnown D j k = 0
  · rw [if_pos c]
    have e := en_eq hI.pg (by omega) j0 j1 hk
    have er := en_rg hI.pg (by omega) (k := k) j0 j1
    omega
  · rw [if_neg c]; exact q.2
theorem ev_X3_nextChange (s d k : Int) (h1 : rg s) (h2 : rg d) (h3 : rg k) (hp : p_inOf D s d k) : Ev n 5 24 [am_r (some 50), am_i (wz s), am_i (wz d), am_i (wz k)] A D (ri (w_nextChange D s d k)) A D := by
  obtain ⟨hI, hd, hk⟩ := hp
  have hc := hI.ct; unfold I_ct at hc
  refine rl_X3_nextChange s d k h1 h2 h3 ?_
  refine dn_ind (K := fun j => K_X3_nextChange_8 n A D s d k (foi (ncStep D s d k) 1000 j) j (w_nextChange D s d k) D) (lo := 0) (N := D 70 4) ?_ ?_ 0 (by omega) (by omega)
  · have hb := (nc_b (s := s) hI hd.1 hk.2 (D 70 4) (by omega) (Int.le_refl _)).2
    refine rl_X3_nextChange_8 _ _ _ _ _ h1 h2 h3 (rgb (by omega) (by omega)) (rgb (by omega) (by omega)) ?_
    rw [if_pos (by omega)]; exact ⟨rfl, rfl⟩
  · intro j j0 j1 ih
    have hb := (nc_b (s := s) hI hd.1 hk.2 j j0 (by omega)).2
    rw [foi_s j0] at ih
    generalize foi (ncStep D s d k) 1000 j = b at ih hb ⊢
    have hg := hI.pg j j0 j1
    have e := en_eq hI.pg (by omega) j0 j1 hk.2
    have er := en_rg hI.pg (by omega) (k := k) j0 j1
    refine rl_X3_nextChange_8 _ _ _ _ _ h1 h2 h3 (rgb (by omega) (by omega)) (rgb (by omega) (by omega)) ?_
    rw [if_neg (by omega), wr1 j0 j1 (by omega), srv_eq hI j0 j1, kn_eq hI.pg j0 j1 hk.2, hg.2.2.2.1]
    refine ⟨⟨by omega, by omega⟩, ?_⟩
    have ex : -1 ≤ v_X5_endAsKnown D j k ∧ v_X5_endAsKnown D j k ≤ 1000 := by omega
    clear hg e er
    by_cases c : D 83 j = s ∧ ¬ v_X12_isKnown D j k = 0
    · have es : ncStep D s d k b j = min (if d < D 85 j then min b (D 85 j) else b) (if d < v_X5_endAsKnown D j k then v_X5_endAsKnown D j k else 1000) := by unfold ncStep; rw [if_pos c]
      rw [es] at ih
      rw [if_pos c.1, if_neg c.2]
      repeat' split
      all_goals
        refine Eq.mp ?_ ih
        congr 1
        omega
    · have es : ncStep D s d k b j = b := by unfold ncStep; rw [if_neg c]
      rw [es] at ih
      repeat' split
      all_goals first | exact ih | omega
/-- nothing changes up to there -/
theorem nc_sp {s d k : Int} (hI : Iv D) : ∀ j, 0 ≤ j → j ≤ D 70 4 → (∀ p, 0 ≤ p → p < j → D 83 p = s → ¬ v_X12_isKnown D p k = 0 → (d < D 85 p → foi (ncStep D s d k) 1000 j ≤ D 85 p) ∧ (d < v_X5_endAsKnown D p k → foi (ncStep D s d k) 1000 j ≤ v_X5_endAsKnown D p k)) := by
  have key : ∀ j x, 0 ≤ j → j < D 70 4 → (∀ p, 0 ≤ p → p < j → D 83 p = s → ¬ v_X12_isKnown D p k = 0 → (d < D 85 p → x ≤ D 85 p) ∧ (d < v_X5_endAsKnown D p k → x ≤ v_X5_endAsKnown D p k)) → (∀ p, 0 ≤ p → p < j + 1 → D 83 p = s → ¬ v_X12_isKnown D p k = 0 → (d < D 85 p → ncStep D s d k x j ≤ D 85 p) ∧ (d < v_X5_endAsKnown D p k → ncStep D s d k x j ≤ v_X5_endAsKnown D p k)) := by
    intro j x j0 j1 q p p0 p1 h1 h2
    have hx : ncStep D s d k x j ≤ x := by unfold ncStep; split <;> omega
    by_cases e : p = j
    · subst e
      have es : ncStep D s d k x p = min (if d < D 85 p then min x (D 85 p) else x) (if d < v_X5_endAsKnown D p k then v_X5_endAsKnown D p k else 1000) := by unfold ncStep; rw [if_pos ⟨h1, h2⟩]
      rw [es]
      constructor <;> intro h <;> omega
    · have := q p p0 (by omega) h1 h2
      exact ⟨fun h => by have := this.1 h; omega, fun h => by have := this.2 h; omega⟩
  exact foi_ind (Q := fun j x => ∀ p, 0 ≤ p → p < j → D 83 p = s → ¬ v_X12_isKnown D p k = 0 → (d < D 85 p → x ≤ D 85 p) ∧ (d < v_X5_endAsKnown D p k → x ≤ v_X5_endAsKnown D p k)) (fun p h0 h1 => by omega) key
theorem in_st {s d k d' : Int} (hp : p_inOf D s d k) (h0 : d ≤ d') (h1 : d' < w_nextChange D s d k) : w_inOf D s d' k = w_inOf D s d k := by
  obtain ⟨hI, hd, hk⟩ := hp
  have hc := hI.ct; unfold I_ct at hc
  have hb := (nc_b (s := s) hI hd.1 hk.2 (D 70 4) (by omega) (Int.le_refl _)).2
  have hs := nc_sp (s := s) (d := d) (k := k) hI (D 70 4) (by omega) (Int.le_refl _)
  unfold w_nextChange at h1
  generalize foi (ncStep D s d k) 1000 (D 70 4) = z at *
  unfold w_inOf
  refine foi_cg (N := D 70 4) (fun p b p0 p1 => ?_) (D 70 4) (by omega) (Int.le_refl _)
  have er := en_rg hI.pg (by omega) (k := k) p0 p1
  have e := en_eq hI.pg (by omega) p0 p1 hk.2
  unfold inStep
  by_cases c : D 83 p = s ∧ ¬ v_X12_isKnown D p k = 0
  · have q := hs p p0 p1 c.1 c.2
    have e1 : (D 85 p ≤ d') ↔ (D 85 p ≤ d) := by
      constructor
      · intro w; by_cases z1 : d < D 85 p
        · have := q.1 z1; omega
        · omega
      · intro w; omega
    have e2 : (d' < v_X12_endOf D p k) ↔ (d < v_X12_endOf D p k) := by
      constructor
      · intro w; omega
      · intro w
        have := q.2 (by omega)
        omega
    simp only [e1, e2]
  · rw [if_neg (fun w => c ⟨w.1, w.2.1⟩), if_neg (fun w => c ⟨w.1, w.2.1⟩)]
/-- false characters -/
def fsP (D : aD) (s h k d : Int) : Bool := decide (0 ≤ w_inOf D s d k ∧ ¬ D 77 (D 84 (w_inOf D s d k)) = h)
def noP (D : aD) (s k d : Int) : Bool := decide (w_inOf D s d k = -1)
/-- from day d on, of a character of house h, servant s, from f to t -/
def fbR (D : aD) (h s f t k d : Int) : Int := if fsi (fsP D s h k) d (t + 1) = -1 then (if 2 * (cf (noP D s k) (t + 1) - cf (noP D s k) f) ≤ t - f + 1 then -1 else 1000) else fsi (fsP D s h k) d (t + 1)
def w_falseBy (D : aD) (c k : Int) : Int := fbR D (D 108 c) (D 109 c) (D 111 c) (D 112 c) k (D 111 c)
def p_falseBy (D : aD) (c k : Int) : Prop := Iv D ∧ (0 ≤ c ∧ c < D 70 51) ∧ 0 ≤ k ∧ k ≤ 999
theorem cf_lip {P : Int → Bool} {a b : Int} (h0 : 0 ≤ a) (h1 : a ≤ b) : 0 ≤ cf P b - cf P a ∧ cf P b - cf P a ≤ b - a := by
  have key : ∀ m : Nat, 0 ≤ cf P (a + m) - cf P a ∧ cf P (a + m) - cf P a ≤ m := by
    intro m
    induction m with
    | zero => rw [show a + ((0 : Nat) : Int) = a by omega]; omega
    | succ m ih =>
      rw [show a + ((m + 1 : Nat) : Int) = (a + m) + 1 by omega, cf_s (by omega)]
      split <;> omega
  have := key (b - a).toNat
  rw [show a + ((b - a).toNat : Int) = b by omega] at this
  omega
theorem ev_X12_falseBy (c k : Int) (h1 : rg c) (h2 : rg k) (hp : p_falseBy D c k) : Ev n 3 182 [am_r (some 70), am_i (wz c), am_i (wz k)] A D (ri (w_falseBy D c k)) A D := by
  obtain ⟨hI, hcc, hk⟩ := hp
  have hc := hI.ct; unfold I_ct at hc
  have hu := hI.cu; unfold I_cu at hu
  have ht := hI.tm c hcc.1 hcc.2
  refine rl_X12_falseBy c k h1 h2 ⟨⟨by omega, by omega⟩, ?_⟩
  have K := dn_ind (K := fun d => K_X12_falseBy_10 n A D c k (cf (noP D (D 109 c) k) d - cf (noP D (D 109 c) k) (D 111 c)) d (fbR D (D 108 c) (D 109 c) (D 111 c) (D 112 c) k d) D) (lo := D 111 c) (N := D 112 c + 1) ?_ ?_ (D 111 c) (Int.le_refl _) (by omega)
  · rw [Int.sub_self] at K; exact K
  · have hb := cf_lip (P := noP D (D 109 c) k) (a := D 111 c) (b := D 112 c + 1) (by omega) (by omega)
    refine rl_X12_falseBy_10 _ _ _ _ h1 h2 (rgb (by omega) (by omega)) (rgb (by omega) (by omega)) ⟨⟨by omega, by omega⟩, ?_⟩
    rw [if_pos (by omega), wr_id (z := 2 * _) (by omega) (by omega), wr_id (z := D 112 c - D 111 c) (by omega) (by omega), wr_id (z := D 112 c - D 111 c + 1) (by omega) (by omega)]
    unfold fbR
    rw [fsi_end (Int.le_refl _), if_pos rfl]
    split <;> exact ⟨rfl, rfl⟩
  · intro d d0 d1 ih
    have hb := cf_lip (P := noP D (D 109 c) k) (a := D 111 c) (b := d) (by omega) (by omega)
    have hw := inOf_b (D := D) (s := D 109 c) (d := d) (k := k) (by omega)
    refine rl_X12_falseBy_10 _ _ _ _ h1 h2 (rgb (by omega) (by omega)) (rgb (by omega) (by omega)) ⟨⟨by omega, by omega⟩, ?_⟩
    rw [if_neg (by omega), wr_id (z := d + 1) (by omega) (by omega), wr_id (z := _ + 1) (by omega) (by omega)]
    refine ⟨⟨hI, ⟨by omega, by omega⟩, hk⟩, ?_⟩
    by_cases c1 : w_inOf D (D 109 c) d k = -1
    · rw [if_pos c1]
      have e1 : fbR D (D 108 c) (D 109 c) (D 111 c) (D 112 c) k d = fbR D (D 108 c) (D 109 c) (D 111 c) (D 112 c) k (d + 1) := by
        unfold fbR; rw [fsi_f (j := d) d1 (by unfold fsP; exact decide_eq_false (by omega))]
      rw [e1]
      rw [cf_t (by omega) (by unfold noP; exact decide_eq_true c1), show cf (noP D (D 109 c) k) d + 1 - cf (noP D (D 109 c) k) (D 111 c) = cf (noP D (D 109 c) k) d - cf (noP D (D 109 c) k) (D 111 c) + 1 by omega] at ih
      exact ih
    · rw [if_neg c1]
      have hg := hI.pg (w_inOf D (D 109 c) d k) (by omega) (by omega)
      refine ⟨⟨by omega, by omega⟩, ⟨by omega, by omega⟩, ?_⟩
      rw [cf_f (by omega) (by unfold noP; exact decide_eq_false c1)] at ih
      by_cases c2 : D 77 (D 84 (w_inOf D (D 109 c) d k)) = D 108 c
      · rw [if_pos c2]
        have e1 : fbR D (D 108 c) (D 109 c) (D 111 c) (D 112 c) k d = fbR D (D 108 c) (D 109 c) (D 111 c) (D 112 c) k (d + 1) := by
          unfold fbR; rw [fsi_f (j := d) d1 (by unfold fsP; exact decide_eq_false (fun q => q.2 c2))]
        rw [e1]; exact ih
      · rw [if_neg c2]
        refine ⟨?_, rfl⟩
        unfold fbR
        rw [fsi_t d1 (by unfold fsP; exact decide_eq_true ⟨by omega, c2⟩), if_neg (by omega)]
abbrev P_X3_falsehood : Nat → Option am_E := am_fy tb_X3_falsehood
def K_X3_falsehood_8 (n : Nat) (A : aA) (D : aD) (i1 : Int) (a2 : Int) (a3 : Int) (a4 : Int) (x : Int) (D' : aD) : Prop := Lp n 5 P_X3_falsehood 8 [some (am_r (some 50)), some (am_r (some (A 12 i1))), some (am_i (wz a2)), some (am_i (wz a3)), some (am_i (wz a4)), none, none] [] A D (ri x) A D'
set_option maxRecDepth 100000 in
theorem rl_X3_falsehood {n : Nat} {A : aA} {D D' : aD} (i1 : Int) (a2 : Int) (f1 : D 912 i1 = 1) (h2 : rg a2) {x : Int} (hp : K_X3_falsehood_8 (n) A D i1 a2 0 (D 2204 i1) x D') : Ev (n) (6) 27 [am_r (some 50), am_r (some (A 12 i1)), am_i (wz a2)] A D (ri x) A D' := by
  refine Ev_of (c := 5) (P := P_X3_falsehood) (lo := [some (am_r (some 50)), some (am_r (some (A 12 i1))), some (am_i (wz a2)), none, none, none, none]) rfl rfl rfl (fun d hd s hr => ?_)
  refine ok (m_iconst (q := 1) rfl rfl rfl) ?_
  refine ok (m_istore_n (q := 2) (lo' := [some (am_r (some 50)), some (am_r (some (A 12 i1))), some (am_i (wz a2)), some (am_i (wz 0)), none, none, none]) rfl rfl rfl rfl rfl) ?_
  refine ok (m_aload_n (q := 3) rfl rfl rfl rfl) ?_
  refine ok (m_gft (t := 12) (q := 6) rfl rfl rfl hr rfl f1 rfl rfl rfl) ?_
  refine ok (m_istore (q := 8) (lo' := [some (am_r (some 50)), some (am_r (some (A 12 i1))), some (am_i (wz a2)), some (am_i (wz 0)), some (am_i (wz (D 2204 i1))), none, none]) rfl rfl rfl rfl rfl) ?_
  exact hp d hd _ hr
set_option maxRecDepth 100000 in
theorem rl_X3_falsehood_8 {n : Nat} {A : aA} {D D' : aD} (i1 : Int) (a2 : Int) (a3 : Int) (a4 : Int) (f1 : D 912 i1 = 1) (h2 : rg a2) (h3 : rg a3) (h4 : rg a4) {x : Int} (hp : (if D 2205 i1 < a4 then (if wr (2 * a3) ≤ wr ((wr ((D 2205 i1) + 1)) - (D 2204 i1)) then (x = (-1) ∧ D' = D) else (x = 1000 ∧ D' = D)) else (p_inOf D (D 2201 i1) a4 a2) ∧ (if w_inOf D (D 2201 i1) a4 a2 < 0 then K_X3_falsehood_8 (n) A D i1 a2 (wr (a3 + (wr ((max (wr (a4 + 1)) (min (wr ((D 2205 i1) + 1)) (w_nextChange D (D 2201 i1) a4 a2))) - a4)))) (max (wr (a4 + 1)) (min (wr ((D 2205 i1) + 1)) (w_nextChange D (D 2201 i1) a4 a2))) x D' else (if D 2101 (D 2502 (w_inOf D (D 2201 i1) a4 a2)) = D 2200 i1 then K_X3_falsehood_8 (n) A D i1 a2 a3 (max (wr (a4 + 1)) (min (wr ((D 2205 i1) + 1)) (w_nextChange D (D 2201 i1) a4 a2))) x D' else (x = a4 ∧ D' = D))))) : K_X3_falsehood_8 (n) A D i1 a2 a3 a4 x D' := by
  unfold K_X3_falsehood_8
  refine fun d hd s hr => ?_
  refine ok (m_iload (q := 10) rfl rfl rfl rfl) ?_
  refine ok (m_aload_n (q := 11) rfl rfl rfl rfl) ?_
  refine ok (m_gft (t := 12) (q := 14) rfl rfl rfl hr rfl f1 rfl rfl rfl) ?_
  refine okc (m_cmpgt (qt := 100) (qf := 17) rfl rfl h4 (show rg (D 2205 i1) from Rp_rg hr 2205 i1) rfl rfl) (fun c1 => ?_) (fun c1 => ?_)
  · replace hp := ip c1 hp
    refine ok (m_iconst (q := 101) rfl rfl rfl) ?_
    refine ok (m_iload_n (q := 102) rfl rfl rfl rfl) ?_
    refine ok (m_imul (q := 103) rfl rfl rfl) ?_
    refine ok (m_aload_n (q := 104) rfl rfl rfl rfl) ?_
    refine ok (m_gft (t := 12) (q := 107) rfl rfl rfl hr rfl f1 rfl rfl rfl) ?_
    refine ok (m_iconst (q := 108) rfl rfl rfl) ?_
    refine ok (m_iadd (q := 109) rfl rfl rfl) ?_
    refine ok (m_aload_n (q := 110) rfl rfl rfl rfl) ?_
    refine ok (m_gft (t := 12) (q := 113) rfl rfl rfl hr rfl f1 rfl rfl rfl) ?_
    refine ok (m_isub (q := 114) rfl rfl rfl) ?_
    refine okc (m_cmple (qt := 123) (qf := 117) rfl rfl (rg_wr _) (rg_wr _) rfl rfl) (fun c2 => ?_) (fun c2 => ?_)
    · replace hp := ip c2 hp
      refine ok (m_iconst (q := 124) rfl rfl rfl) ?_
      exact ok (m_reti rfl rfl) (ok_iq hr ⟨by decide, by decide⟩ hp)
    · replace hp := iq c2 hp
      refine ok (m_sipush (q := 120) rfl rfl rfl) ?_
      refine ok (m_goto (q := 124) rfl rfl rfl) ?_
      exact ok (m_reti rfl rfl) (ok_iq hr ⟨by decide, by decide⟩ hp)
  · replace hp := iq c1 hp
    refine ok (m_iload (q := 19) rfl rfl rfl rfl) ?_
    refine ok (m_iconst (q := 20) rfl rfl rfl) ?_
    refine ok (m_iadd (q := 21) rfl rfl rfl) ?_
    refine ok (m_aload_n (q := 22) rfl rfl rfl rfl) ?_
    refine ok (m_gft (t := 12) (q := 25) rfl rfl rfl hr rfl f1 rfl rfl rfl) ?_
    refine ok (m_iconst (q := 26) rfl rfl rfl) ?_
    refine ok (m_iadd (q := 27) rfl rfl rfl) ?_
    refine ok (m_aload_n (q := 28) rfl rfl rfl rfl) ?_
    refine ok (m_aload_n (q := 29) rfl rfl rfl rfl) ?_
    refine ok (m_gft (t := 12) (q := 32) rfl rfl rfl hr rfl f1 rfl rfl rfl) ?_
    refine ok (m_iload (q := 34) rfl rfl rfl rfl) ?_
    refine ok (m_iload_n (q := 35) rfl rfl rfl rfl) ?_
    obtain ⟨g5, hp⟩ := hp
    refine oke (e_ci (x_cv (q := 38) rfl rfl rfl rfl rfl rfl rfl rfl rfl rfl (is_st hr rfl rfl)) (ev_X3_nextChange (D := D) (D 2201 i1) a4 a2 (show rg (D 2201 i1) from Rp_rg hr 2201 i1) h4 h2 g5) (Nat.le_trans (by decide) hd) hr) (fun s3 r4 => ?_)
    refine ok (m_min (q := 41) rfl rfl rfl (rg_wr _) (Ev_rg (ev_X3_nextChange (D := D) (D 2201 i1) a4 a2 (show rg (D 2201 i1) from Rp_rg hr 2201 i1) h4 h2 g5) hr) rfl) ?_
    refine ok (m_max (q := 44) rfl rfl rfl (rg_wr _) (rg_min (rg_wr _) (Ev_rg (ev_X3_nextChange (D := D) (D 2201 i1) a4 a2 (show rg (D 2201 i1) from Rp_rg hr 2201 i1) h4 h2 g5) hr)) rfl) ?_
    refine ok (m_istore (q := 46) (lo' := [some (am_r (some 50)), some (am_r (some (A 12 i1))), some (am_i (wz a2)), some (am_i (wz a3)), some (am_i (wz a4)), some (am_i (wz (max (wr (a4 + 1)) (min (wr ((D 2205 i1) + 1)) (w_nextChange D (D 2201 i1) a4 a2))))), none]) rfl rfl rfl rfl rfl) ?_
    refine ok (m_aload_n (q := 47) rfl rfl rfl rfl) ?_
    refine ok (m_aload_n (q := 48) rfl rfl rfl rfl) ?_
    refine ok (m_gft (t := 12) (q := 51) rfl rfl rfl r4 rfl f1 rfl rfl rfl) ?_
    refine ok (m_iload (q := 53) rfl rfl rfl rfl) ?_
    refine ok (m_iload_n (q := 54) rfl rfl rfl rfl) ?_
    refine oke (e_cr (x_cv (q := 57) rfl rfl rfl rfl rfl rfl rfl rfl rfl rfl (is_st r4 rfl rfl)) (ev_X3_whereIn (D := D) (D 2201 i1) a4 a2 (show rg (D 2201 i1) from Rp_rg r4 2201 i1) h4 h2 g5) (Nat.le_trans (by decide) hd) r4) (fun s6 r7 => ?_)
    refine ok (m_astore (q := 59) (lo' := [some (am_r (some 50)), some (am_r (some (A 12 i1))), some (am_i (wz a2)), some (am_i (wz a3)), some (am_i (wz a4)), some (am_i (wz (max (wr (a4 + 1)) (min (wr ((D 2205 i1) + 1)) (w_nextChange D (D 2201 i1) a4 a2))))), some (am_r (nr A 15 (w_inOf D (D 2201 i1) a4 a2)))]) rfl rfl rfl rfl rfl) ?_
    refine ok (m_aload (q := 61) rfl rfl rfl rfl) ?_
    refine okc ((m_ifnonnull (qt := 75) (qf := 64) rfl rfl rfl rfl).trans (ifn_n r7 rfl (fg_whereIn (D := D) (D 2201 i1) a4 a2 (show rg (D 2201 i1) from Rp_rg r4 2201 i1) h4 h2 g5 r4))) (fun c8 => ?_) (fun c8 => ?_)
    · replace hp := ip c8 hp
      refine ok (m_iload_n (q := 65) rfl rfl rfl rfl) ?_
      refine ok (m_iload (q := 67) rfl rfl rfl rfl) ?_
      refine ok (m_iload (q := 69) rfl rfl rfl rfl) ?_
      refine ok (m_isub (q := 70) rfl rfl rfl) ?_
      refine ok (m_iadd (q := 71) rfl rfl rfl) ?_
      refine ok (m_istore_n (q := 72) (lo' := [some (am_r (some 50)), some (am_r (some (A 12 i1))), some (am_i (wz a2)), some (am_i (wz (wr (a3 + (wr ((max (wr (a4 + 1)) (min (wr ((D 2205 i1) + 1)) (w_nextChange D (D 2201 i1) a4 a2))) - a4)))))), some (am_i (wz a4)), some (am_i (wz (max (wr (a4 + 1)) (min (wr ((D 2205 i1) + 1)) (w_nextChange D (D 2201 i1) a4 a2))))), some (am_r (nr A 15 (w_inOf D (D 2201 i1) a4 a2)))]) rfl rfl rfl rfl rfl) ?_
      refine ok (m_goto (q := 93) rfl rfl rfl) ?_
      refine ok (m_iload (q := 95) rfl rfl rfl rfl) ?_
      refine ok (m_istore (q := 97) (lo' := [some (am_r (some 50)), some (am_r (some (A 12 i1))), some (am_i (wz a2)), some (am_i (wz (wr (a3 + (wr ((max (wr (a4 + 1)) (min (wr ((D 2205 i1) + 1)) (w_nextChange D (D 2201 i1) a4 a2))) - a4)))))), some (am_i (wz (max (wr (a4 + 1)) (min (wr ((D 2205 i1) + 1)) (w_nextChange D (D 2201 i1) a4 a2))))), some (am_i (wz (max (wr (a4 + 1)) (min (wr ((D 2205 i1) + 1)) (w_nextChange D (D 2201 i1) a4 a2))))), some (am_r (nr A 15 (w_inOf D (D 2201 i1) a4 a2)))]) rfl rfl rfl rfl rfl) ?_
      refine ok (m_goto (q := 8) rfl rfl rfl) ?_
      refine ok (mk rfl (lo' := [some (am_r (some 50)), some (am_r (some (A 12 i1))), some (am_i (wz a2)), some (am_i (wz (wr (a3 + (wr ((max (wr (a4 + 1)) (min (wr ((D 2205 i1) + 1)) (w_nextChange D (D 2201 i1) a4 a2))) - a4)))))), some (am_i (wz (max (wr (a4 + 1)) (min (wr ((D 2205 i1) + 1)) (w_nextChange D (D 2201 i1) a4 a2))))), none, none]) rfl) ?_
      exact hp d hd _ r7
    · replace hp := iq c8 hp
      refine ok (o' := mr d P_X3_falsehood 75 [some (am_r (some 50)), some (am_r (some (A 12 i1))), some (am_i (wz a2)), some (am_i (wz a3)), some (am_i (wz a4)), some (am_i (wz (max (wr (a4 + 1)) (min (wr ((D 2205 i1) + 1)) (w_nextChange D (D 2201 i1) a4 a2))))), some (am_r (some (A 15 (w_inOf D (D 2201 i1) a4 a2))))] [] s6) (by rw [nr_s (Int.not_lt.mp c8)]; try rfl) ?_
      refine ok (m_aload (q := 77) rfl rfl rfl rfl) ?_
      have f_9 : D 911 (D 2502 (w_inOf D (D 2201 i1) a4 a2)) = 1 := Rp_f15_11 (D := D) (i := w_inOf D (D 2201 i1) a4 a2) r7 ((fg_whereIn (D := D) (D 2201 i1) a4 a2 (show rg (D 2201 i1) from Rp_rg r4 2201 i1) h4 h2 g5 r4) (Int.not_lt.mp c8))
      refine ok (m_gfx (t := 15) (q := 80) (r := some (A 11 (D 2502 (w_inOf D (D 2201 i1) a4 a2)))) rfl rfl rfl r7 rfl ((fg_whereIn (D := D) (D 2201 i1) a4 a2 (show rg (D 2201 i1) from Rp_rg r4 2201 i1) h4 h2 g5 r4) (Int.not_lt.mp c8)) rfl rfl rfl) ?_
      refine ok (m_gft (t := 11) (q := 83) rfl rfl rfl r7 rfl f_9 rfl rfl rfl) ?_
      refine ok (m_aload_n (q := 84) rfl rfl rfl rfl) ?_
      refine ok (m_gft (t := 12) (q := 87) rfl rfl rfl r7 rfl f1 rfl rfl rfl) ?_
      refine okc (m_cmpeq (qt := 93) (qf := 90) rfl rfl (show rg (D 2101 (D 2502 (w_inOf D (D 2201 i1) a4 a2))) from Rp_rg r7 2101 (D 2502 (w_inOf D (D 2201 i1) a4 a2))) (show rg (D 2200 i1) from Rp_rg r7 2200 i1) rfl rfl) (fun c10 => ?_) (fun c10 => ?_)
      · replace hp := ip c10 hp
        refine ok (m_iload (q := 95) rfl rfl rfl rfl) ?_
        refine ok (m_istore (q := 97) (lo' := [some (am_r (some 50)), some (am_r (some (A 12 i1))), some (am_i (wz a2)), some (am_i (wz a3)), some (am_i (wz (max (wr (a4 + 1)) (min (wr ((D 2205 i1) + 1)) (w_nextChange D (D 2201 i1) a4 a2))))), some (am_i (wz (max (wr (a4 + 1)) (min (wr ((D 2205 i1) + 1)) (w_nextChange D (D 2201 i1) a4 a2))))), some (am_r (some (A 15 (w_inOf D (D 2201 i1) a4 a2))))]) rfl rfl rfl rfl rfl) ?_
        refine ok (m_goto (q := 8) rfl rfl rfl) ?_
        refine ok (mk rfl (lo' := [some (am_r (some 50)), some (am_r (some (A 12 i1))), some (am_i (wz a2)), some (am_i (wz a3)), some (am_i (wz (max (wr (a4 + 1)) (min (wr ((D 2205 i1) + 1)) (w_nextChange D (D 2201 i1) a4 a2))))), none, none]) rfl) ?_
        exact hp d hd _ r7
      · replace hp := iq c10 hp
        refine ok (m_iload (q := 92) rfl rfl rfl rfl) ?_
        exact ok (m_reti rfl rfl) (ok_iq r7 h4 hp)
abbrev P_X3_tallyServed : Nat → Option am_E := am_fy tb_X3_tallyServed
def K_X3_tallyServed_10 (n : Nat) (A : aA) (D : aD) (a1 : Int) (a2 : Int) (a3 : Int) (D' : aD) : Prop := Lp n 5 P_X3_tallyServed 10 [some (am_r (some 50)), some (am_i (wz a1)), some (am_i (wz a2)), some (am_i (wz a3)), none, none] [] A D rv A D'
set_option maxRecDepth 100000 in
theorem rl_X3_tallyServed {n : Nat} {A : aA} {D D' : aD} (a1 : Int) (a2 : Int) (h1 : rg a1) (h2 : rg a2) (hp : K_X3_tallyServed_10 (n + 1) A (fil D 52 6 0) a1 a2 0 D') : Ev (n + 1) (6) 26 [am_r (some 50), am_i (wz a1), am_i (wz a2)] A D rv A D' := by
  refine Ev_of (c := 5) (P := P_X3_tallyServed) (lo := [some (am_r (some 50)), some (am_i (wz a1)), some (am_i (wz a2)), none, none, none]) rfl rfl rfl (fun d hd s hr => ?_)
  refine ok (m_aload_n (q := 1) rfl rfl rfl rfl) ?_
  refine ok (m_gfc (q := 4) rfl rfl rfl hr rfl rfl rfl) ?_
  refine ok (m_iconst (q := 5) rfl rfl rfl) ?_
  refine oke (e_cvd (x_cs (q := 8) rfl rfl rfl rfl rfl rfl rfl rfl rfl) (ev_fill 52 0 rfl rfl ⟨by decide, by decide⟩) (Nat.le_trans (by decide) hd) hr) (fun s1 r2 => ?_)
  refine ok (m_iconst (q := 9) rfl rfl rfl) ?_
  refine ok (m_istore_n (q := 10) (lo' := [some (am_r (some 50)), some (am_i (wz a1)), some (am_i (wz a2)), some (am_i (wz 0)), none, none]) rfl rfl rfl rfl rfl) ?_
  exact hp d hd _ r2
set_option maxRecDepth 100000 in
theorem rl_X3_tallyServed_10 {n : Nat} {A : aA} {D D' : aD} (a1 : Int) (a2 : Int) (a3 : Int) (h1 : rg a1) (h2 : rg a2) (h3 : rg a3) (hp : (if a2 < a3 then (D' = D) else (p_inOf D a1 a3 a2) ∧ (if w_inOf D a1 a3 a2 < 0 then K_X3_tallyServed_10 (n + 1) A D a1 a2 (max (wr (a3 + 1)) (min (wr (a2 + 1)) (w_nextChange D a1 a3 a2))) D' else (0 ≤ D 2103 (D 2502 (w_inOf D a1 a3 a2)) ∧ D 2103 (D 2502 (w_inOf D a1 a3 a2)) < 6) ∧ K_X3_tallyServed_10 (n + 1) A (up D 52 (D 2103 (D 2502 (w_inOf D a1 a3 a2))) (wr ((D 52 (D 2103 (D 2502 (w_inOf D a1 a3 a2)))) + (wr ((max (wr (a3 + 1)) (min (wr (a2 + 1)) (w_nextChange D a1 a3 a2))) - a3))))) a1 a2 (max (wr (a3 + 1)) (min (wr (a2 + 1)) (w_nextChange D a1 a3 a2))) D'))) : K_X3_tallyServed_10 (n + 1) A D a1 a2 a3 D' := by
  unfold K_X3_tallyServed_10
  refine fun d hd s hr => ?_
  refine ok (m_iload_n (q := 11) rfl rfl rfl rfl) ?_
  refine ok (m_iload_n (q := 12) rfl rfl rfl rfl) ?_
  refine okc (m_cmpgt (qt := 76) (qf := 15) rfl rfl h3 h2 rfl rfl) (fun c3 => ?_) (fun c3 => ?_)
  · replace hp := ip c3 hp
    exact ok (m_retv rfl rfl) (ok_vq hr hp)
  · replace hp := iq c3 hp
    refine ok (m_iload_n (q := 16) rfl rfl rfl rfl) ?_
    refine ok (m_iconst (q := 17) rfl rfl rfl) ?_
    refine ok (m_iadd (q := 18) rfl rfl rfl) ?_
    refine ok (m_iload_n (q := 19) rfl rfl rfl rfl) ?_
    refine ok (m_iconst (q := 20) rfl rfl rfl) ?_
    refine ok (m_iadd (q := 21) rfl rfl rfl) ?_
    refine ok (m_aload_n (q := 22) rfl rfl rfl rfl) ?_
    refine ok (m_iload_n (q := 23) rfl rfl rfl rfl) ?_
    refine ok (m_iload_n (q := 24) rfl rfl rfl rfl) ?_
    refine ok (m_iload_n (q := 25) rfl rfl rfl rfl) ?_
    obtain ⟨g6, hp⟩ := hp
    refine oke (e_ci (x_cv (q := 28) rfl rfl rfl rfl rfl rfl rfl rfl rfl rfl (is_st hr rfl rfl)) (ev_X3_nextChange (D := D) a1 a3 a2 h1 h3 h2 g6) (Nat.le_trans (by decide) hd) hr) (fun s4 r5 => ?_)
    refine ok (m_min (q := 31) rfl rfl rfl (rg_wr _) (Ev_rg (ev_X3_nextChange (D := D) a1 a3 a2 h1 h3 h2 g6) hr) rfl) ?_
    refine ok (m_max (q := 34) rfl rfl rfl (rg_wr _) (rg_min (rg_wr _) (Ev_rg (ev_X3_nextChange (D := D) a1 a3 a2 h1 h3 h2 g6) hr)) rfl) ?_
    refine ok (m_istore (q := 36) (lo' := [some (am_r (some 50)), some (am_i (wz a1)), some (am_i (wz a2)), some (am_i (wz a3)), some (am_i (wz (max (wr (a3 + 1)) (min (wr (a2 + 1)) (w_nextChange D a1 a3 a2))))), none]) rfl rfl rfl rfl rfl) ?_
    refine ok (m_aload_n (q := 37) rfl rfl rfl rfl) ?_
    refine ok (m_iload_n (q := 38) rfl rfl rfl rfl) ?_
    refine ok (m_iload_n (q := 39) rfl rfl rfl rfl) ?_
    refine ok (m_iload_n (q := 40) rfl rfl rfl rfl) ?_
    refine oke (e_cr (x_cv (q := 43) rfl rfl rfl rfl rfl rfl rfl rfl rfl rfl (is_st r5 rfl rfl)) (ev_X3_whereIn (D := D) a1 a3 a2 h1 h3 h2 g6) (Nat.le_trans (by decide) hd) r5) (fun s7 r8 => ?_)
    refine ok (m_astore (q := 45) (lo' := [some (am_r (some 50)), some (am_i (wz a1)), some (am_i (wz a2)), some (am_i (wz a3)), some (am_i (wz (max (wr (a3 + 1)) (min (wr (a2 + 1)) (w_nextChange D a1 a3 a2))))), some (am_r (nr A 15 (w_inOf D a1 a3 a2)))]) rfl rfl rfl rfl rfl) ?_
    refine ok (m_aload (q := 47) rfl rfl rfl rfl) ?_
    refine okc ((m_ifnull (qt := 70) (qf := 50) rfl rfl rfl rfl).trans (ifn_n r8 rfl (fg_whereIn (D := D) a1 a3 a2 h1 h3 h2 g6 r5))) (fun c9 => ?_) (fun c9 => ?_)
    · replace hp := ip c9 hp
      refine ok (m_iload (q := 72) rfl rfl rfl rfl) ?_
      refine ok (m_istore_n (q := 73) (lo' := [some (am_r (some 50)), some (am_i (wz a1)), some (am_i (wz a2)), some (am_i (wz (max (wr (a3 + 1)) (min (wr (a2 + 1)) (w_nextChange D a1 a3 a2))))), some (am_i (wz (max (wr (a3 + 1)) (min (wr (a2 + 1)) (w_nextChange D a1 a3 a2))))), some (am_r (nr A 15 (w_inOf D a1 a3 a2)))]) rfl rfl rfl rfl rfl) ?_
      refine ok (m_goto (q := 10) rfl rfl rfl) ?_
      refine ok (mk rfl (lo' := [some (am_r (some 50)), some (am_i (wz a1)), some (am_i (wz a2)), some (am_i (wz (max (wr (a3 + 1)) (min (wr (a2 + 1)) (w_nextChange D a1 a3 a2))))), none, none]) rfl) ?_
      exact hp d hd _ r8
    · replace hp := iq c9 hp
      refine ok (o' := mr d P_X3_tallyServed 50 [some (am_r (some 50)), some (am_i (wz a1)), some (am_i (wz a2)), some (am_i (wz a3)), some (am_i (wz (max (wr (a3 + 1)) (min (wr (a2 + 1)) (w_nextChange D a1 a3 a2))))), some (am_r (some (A 15 (w_inOf D a1 a3 a2))))] [] s7) (by rw [nr_s (Int.not_lt.mp c9)]; try rfl) ?_
      refine ok (m_aload_n (q := 51) rfl rfl rfl rfl) ?_
      refine ok (m_gfc (q := 54) rfl rfl rfl r8 rfl rfl rfl) ?_
      refine ok (m_aload (q := 56) rfl rfl rfl rfl) ?_
      have f_10 : D 911 (D 2502 (w_inOf D a1 a3 a2)) = 1 := Rp_f15_11 (D := D) (i := w_inOf D a1 a3 a2) r8 ((fg_whereIn (D := D) a1 a3 a2 h1 h3 h2 g6 r5) (Int.not_lt.mp c9))
      refine ok (m_gfx (t := 15) (q := 59) (r := some (A 11 (D 2502 (w_inOf D a1 a3 a2)))) rfl rfl rfl r8 rfl ((fg_whereIn (D := D) a1 a3 a2 h1 h3 h2 g6 r5) (Int.not_lt.mp c9)) rfl rfl rfl) ?_
      refine ok (m_gft (t := 11) (q := 62) rfl rfl rfl r8 rfl f_10 rfl rfl rfl) ?_
      refine ok (m_dup2 (q := 63) rfl rfl rfl rfl rfl) ?_
      obtain ⟨g11, hp⟩ := hp
      refine ok (m_ials (q := 64) rfl rfl rfl r8 rfl rfl g11 rfl) ?_
      refine ok (m_iload (q := 66) rfl rfl rfl rfl) ?_
      refine ok (m_iload_n (q := 67) rfl rfl rfl rfl) ?_
      refine ok (m_isub (q := 68) rfl rfl rfl) ?_
      refine ok (m_iadd (q := 69) rfl rfl rfl) ?_
      refine oke (e_ias (q := 70) rfl rfl rfl r8 rfl rfl g11 (rg_wr _)) (fun s13 r12 => ?_)
      refine ok (m_iload (q := 72) rfl rfl rfl rfl) ?_
      refine ok (m_istore_n (q := 73) (lo' := [some (am_r (some 50)), some (am_i (wz a1)), some (am_i (wz a2)), some (am_i (wz (max (wr (a3 + 1)) (min (wr (a2 + 1)) (w_nextChange D a1 a3 a2))))), some (am_i (wz (max (wr (a3 + 1)) (min (wr (a2 + 1)) (w_nextChange D a1 a3 a2))))), some (am_r (some (A 15 (w_inOf D a1 a3 a2))))]) rfl rfl rfl rfl rfl) ?_
      refine ok (m_goto (q := 10) rfl rfl rfl) ?_
      refine ok (mk rfl (lo' := [some (am_r (some 50)), some (am_i (wz a1)), some (am_i (wz a2)), some (am_i (wz (max (wr (a3 + 1)) (min (wr (a2 + 1)) (w_nextChange D a1 a3 a2))))), none, none]) rfl) ?_
      exact hp d hd _ r12
theorem dn_jmp {K : Int → Prop} {lo N : Int} (hN : K N) (hs : ∀ j, lo ≤ j → j < N → (∀ j', j < j' → j' ≤ N → K j') → K j) : ∀ j, lo ≤ j → j ≤ N → K j := by
  have key : ∀ (m : Nat) (j : Int), lo ≤ j → j ≤ N → N - j ≤ m → K j := by
    intro m
    induction m with
    | zero => intro j _ h1 h2; have : j = N := by omega
              rw [this]; exact hN
    | succ m ih =>
      intro j h0 h1 h2
      by_cases e : j = N
      · rw [e]; exact hN
      · exact hs j h0 (by omega) (fun j' q1 q2 => ih j' (by omega) q2 (by omega))
  intro j h0 h1
  exact key (N - j).toNat j h0 h1 (by omega)
theorem cf_run {P : Int → Bool} {a b : Int} (h0 : 0 ≤ a) (h1 : a ≤ b) (h : ∀ i, a ≤ i → i < b → P i = P a) : cf P b - cf P a = if P a = true then b - a else 0 := by
  have key : ∀ m : Nat, a + m ≤ b → cf P (a + m) - cf P a = if P a = true then (m : Int) else 0 := by
    intro m
    induction m with
    | zero => intro _; rw [show a + ((0 : Nat) : Int) = a by omega]; split <;> omega
    | succ m ih =>
      intro hm
      have e := ih (by omega)
      rw [show a + ((m + 1 : Nat) : Int) = (a + m) + 1 by omega, cf_s (by omega), h (a + m) (by omega) (by omega)]
      by_cases c : P a = true
      · rw [if_pos c] at e; rw [if_pos c, if_pos c]; omega
      · rw [if_neg c] at e; rw [if_neg c, if_neg c]; omega
  have := key (b - a).toNat (by omega)
  rw [show a + ((b - a).toNat : Int) = b by omega] at this
  rw [this]
  split <;> omega
theorem fsi_run {p : Int → Bool} {a b N : Int} (h1 : a ≤ b) (h2 : b ≤ N) (h : ∀ i, a ≤ i → i < b → p i = false) : fsi p a N = fsi p b N := by
  have key : ∀ m : Nat, a + m ≤ b → fsi p a N = fsi p (a + m) N := by
    intro m
    induction m with
    | zero => intro _; rw [show a + ((0 : Nat) : Int) = a by omega]
    | succ m ih =>
      intro hm
      rw [ih (by omega), fsi_f (by omega) (h _ (by omega) (by omega)), show a + ((m + 1 : Nat) : Int) = a + m + 1 by omega]
  have := key (b - a).toNat (by omega)
  rwa [show a + ((b - a).toNat : Int) = b by omega] at this
/-- a stretch -/
theorem st_run {s d k t : Int} (hp : p_inOf D s d k) (ht : d ≤ t ∧ t ≤ 999) : ∃ nx, max (wr (d + 1)) (min (wr (t + 1)) (w_nextChange D s d k)) = nx ∧ d < nx ∧ nx ≤ t + 1 ∧ ∀ i, d ≤ i → i < nx → w_inOf D s i k = w_inOf D s d k := by
  obtain ⟨hI, hd, hk⟩ := id hp
  refine ⟨_, rfl, ?_⟩
  rw [wr_id (by omega) (by omega), wr_id (by omega) (by omega)]
  refine ⟨by omega, by omega, fun i i0 i1 => ?_⟩
  by_cases e : i = d
  · rw [e]
  · exact in_st hp i0 (by omega)
def p_falsehood (D : aD) (c k : Int) : Prop := p_falseBy D c k
theorem ev_X3_falsehood (c k : Int) (f1 : D 912 c = 1) (h2 : rg k) (hp : p_falsehood D c k) : Ev n 6 27 [am_r (some 50), am_r (some (A 12 c)), am_i (wz k)] A D (ri (w_falseBy D c k)) A D := by
  obtain ⟨hI, hcc, hk⟩ := hp
  have hc := hI.ct; unfold I_ct at hc
  have hu := hI.cu; unfold I_cu at hu
  have ht := hI.tm c hcc.1 hcc.2
  refine rl_X3_falsehood c k f1 h2 ?_
  rw [ht.2.2.2.2.1]
  have K := dn_jmp (K := fun d => K_X3_falsehood_8 n A D c k (cf (noP D (D 109 c) k) d - cf (noP D (D 109 c) k) (D 111 c)) d (fbR D (D 108 c) (D 109 c) (D 111 c) (D 112 c) k d) D) (lo := D 111 c) (N := D 112 c + 1) ?_ ?_ (D 111 c) (Int.le_refl _) (by omega)
  · rw [Int.sub_self] at K; exact K
  · have hb := cf_lip (P := noP D (D 109 c) k) (a := D 111 c) (b := D 112 c + 1) (by omega) (by omega)
    refine rl_X3_falsehood_8 _ _ _ _ f1 h2 (rgb (by omega) (by omega)) (rgb (by omega) (by omega)) ?_
    rw [ht.2.2.2.2.1, ht.2.2.2.2.2.1, if_pos (by omega), wr_id (z := 2 * _) (by omega) (by omega), wr_id (z := D 112 c + 1) (by omega) (by omega), wr_id (z := D 112 c + 1 - D 111 c) (by omega) (by omega)]
    unfold fbR
    rw [fsi_end (Int.le_refl _), if_pos rfl, show D 112 c - D 111 c + 1 = D 112 c + 1 - D 111 c by omega]
    split <;> exact ⟨rfl, rfl⟩
  · intro d d0 d1 ih
    have hb := cf_lip (P := noP D (D 109 c) k) (a := D 111 c) (b := d) (by omega) (by omega)
    have hw := inOf_b (D := D) (s := D 109 c) (d := d) (k := k) (by omega)
    have hpi : p_inOf D (D 109 c) d k := ⟨hI, ⟨by omega, by omega⟩, hk⟩
    refine rl_X3_falsehood_8 _ _ _ _ f1 h2 (rgb (by omega) (by omega)) (rgb (by omega) (by omega)) ?_
    rw [ht.1, ht.2.1, ht.2.2.2.2.2.1, if_neg (by omega)]
    refine ⟨hpi, ?_⟩
    obtain ⟨nx, e, n1, n2, n3⟩ := st_run hpi (t := D 112 c) ⟨by omega, by omega⟩
    rw [e]
    have ihn := ih nx n1 n2
    have er := cf_run (P := noP D (D 109 c) k) (a := d) (b := nx) (by omega) (by omega) (fun i i0 i1 => by unfold noP; rw [n3 i i0 i1])
    have ef : fsP D (D 109 c) (D 108 c) k d = false → fbR D (D 108 c) (D 109 c) (D 111 c) (D 112 c) k d = fbR D (D 108 c) (D 109 c) (D 111 c) (D 112 c) k nx := fun q => by
      unfold fbR
      rw [fsi_run (a := d) (b := nx) (by omega) n2 (fun i i0 i1 => by rw [← q]; unfold fsP; rw [n3 i i0 i1])]
    by_cases c1 : w_inOf D (D 109 c) d k < 0
    · rw [if_pos c1, ef (by unfold fsP; exact decide_eq_false (by omega))]
      rw [if_pos (by unfold noP; exact decide_eq_true (by omega))] at er
      rw [wr_id (z := nx - d) (by omega) (by omega), wr_id (by omega) (by omega), show cf (noP D (D 109 c) k) d - cf (noP D (D 109 c) k) (D 111 c) + (nx - d) = cf (noP D (D 109 c) k) nx - cf (noP D (D 109 c) k) (D 111 c) by omega]
      exact ihn
    · rw [if_neg c1, (plc_eq hI (p := w_inOf D (D 109 c) d k) (by omega) (by omega)).2.1]
      rw [if_neg (by unfold noP; simp only [decide_eq_true_eq]; omega)] at er
      rw [show cf (noP D (D 109 c) k) nx = cf (noP D (D 109 c) k) d by omega] at ihn
      by_cases c2 : D 77 (D 84 (w_inOf D (D 109 c) d k)) = D 108 c
      · rw [if_pos c2, ef (by unfold fsP; exact decide_eq_false (fun q => q.2 c2))]; exact ihn
      · rw [if_neg c2]
        refine ⟨?_, rfl⟩
        unfold fbR
        rw [fsi_t d1 (by unfold fsP; exact decide_eq_true ⟨by omega, c2⟩), if_neg (by omega)]
abbrev P_X12_isFalse : Nat → Option am_E := am_fy tb_X12_isFalse
def v_X12_isFalse (D : aD) (a1 : Int) (a2 : Int) : Int := if v_X12_isIn D a1 0 (wr ((D 70 51) - 1)) = 0 then (-1) else if v_X12_isDay D a2 = 0 then (-1) else w_falseBy D a1 a2
def p_X12_isFalse (D : aD) (a1 : Int) (a2 : Int) : Prop := (if v_X12_isIn D a1 0 (wr ((D 70 51) - 1)) = 0 then True else (if v_X12_isDay D a2 = 0 then True else (p_falseBy D a1 a2)))
set_option maxRecDepth 100000 in
theorem ev_X12_isFalse {n : Nat} {A : aA} {D : aD} (a1 : Int) (a2 : Int) (h1 : rg a1) (h2 : rg a2) (hp : p_X12_isFalse D a1 a2) : Ev (n) 4 183 [am_r (some 70), am_i (wz a1), am_i (wz a2)] A D (ri (v_X12_isFalse D a1 a2)) A D := by
  unfold p_X12_isFalse at hp
  unfold v_X12_isFalse
  refine Ev_of (c := 3) (P := P_X12_isFalse) (lo := [some (am_r (some 70)), some (am_i (wz a1)), some (am_i (wz a2))]) rfl rfl rfl (fun d hd s hr => ?_)
  refine ok (m_iload_n (q := 1) rfl rfl rfl rfl) ?_
  refine ok (m_iconst (q := 2) rfl rfl rfl) ?_
  refine ok (m_aload_n (q := 3) rfl rfl rfl rfl) ?_
  refine ok (m_gfs (z := 51) (q := 6) rfl rfl rfl hr rfl rfl rfl rfl rfl) ?_
  refine ok (m_iconst (q := 7) rfl rfl rfl) ?_
  refine ok (m_isub (q := 8) rfl rfl rfl) ?_
  refine oke (e_ci (x_cs (q := 11) rfl rfl rfl rfl rfl rfl rfl rfl rfl) (ev_X12_isIn (D := D) a1 0 (wr ((D 70 51) - 1)) h1 ⟨by decide, by decide⟩ (rg_wr _)) (Nat.le_trans (by decide) hd) hr) (fun s1 r2 => ?_)
  refine okp (m_ifeq (qt := 30) (qf := 14) rfl rfl (Ev_rg (ev_X12_isIn (D := D) a1 0 (wr ((D 70 51) - 1)) h1 ⟨by decide, by decide⟩ (rg_wr _)) hr) rfl rfl) (fun c3 => ?_) (fun c3 => ?_)
  · refine ok (m_iconst (q := 31) rfl rfl rfl) ?_
    exact ok (m_reti rfl rfl) (ok_i r2 ⟨by decide, by decide⟩)
  · replace hp := iq c3 hp
    refine ok (m_iload_n (q := 15) rfl rfl rfl rfl) ?_
    refine oke (e_ci (x_cs (q := 18) rfl rfl rfl rfl rfl rfl rfl rfl rfl) (ev_X12_isDay (D := D) a2 h2) (Nat.le_trans (by decide) hd) r2) (fun s4 r5 => ?_)
    refine okp (m_ifeq (qt := 30) (qf := 21) rfl rfl (Ev_rg (ev_X12_isDay (D := D) a2 h2) r2) rfl rfl) (fun c6 => ?_) (fun c6 => ?_)
    · refine ok (m_iconst (q := 31) rfl rfl rfl) ?_
      exact ok (m_reti rfl rfl) (ok_i r5 ⟨by decide, by decide⟩)
    · replace hp := iq c6 hp
      refine ok (m_aload_n (q := 22) rfl rfl rfl rfl) ?_
      refine ok (m_iload_n (q := 23) rfl rfl rfl rfl) ?_
      refine ok (m_iload_n (q := 24) rfl rfl rfl rfl) ?_
      have g9 := hp
      refine oke (e_ci (x_cv (q := 27) rfl rfl rfl rfl rfl rfl rfl rfl rfl rfl (is_st r5 rfl rfl)) (ev_X12_falseBy (D := D) a1 a2 h1 h2 g9) (Nat.le_trans (by decide) hd) r5) (fun s7 r8 => ?_)
      refine ok (m_goto (q := 31) rfl rfl rfl) ?_
      exact ok (m_reti rfl rfl) (ok_i r8 (Ev_rg (ev_X12_falseBy (D := D) a1 a2 h1 h2 g9) r5))
abbrev P_X11_isFalse : Nat → Option am_E := am_fy tb_X11_isFalse
def v_X11_isFalse (D : aD) (a1 : Int) (a2 : Int) : Int := if v_X11_between D a1 0 (wr ((D 1002 2) - 1)) = 0 then (-1) else if v_X11_isDay D a2 = 0 then (-1) else w_falseBy D a1 a2
def p_X11_isFalse (D : aD) (a1 : Int) (a2 : Int) : Prop := (if v_X11_between D a1 0 (wr ((D 1002 2) - 1)) = 0 then True else (if v_X11_isDay D a2 = 0 then True else (0 ≤ a1 ∧ a1 < D 1002 2) ∧ (p_falsehood D a1 a2)))
set_option maxRecDepth 100000 in
theorem ev_X11_isFalse {n : Nat} {A : aA} {D : aD} (a1 : Int) (a2 : Int) (h1 : rg a1) (h2 : rg a2) (hp : p_X11_isFalse D a1 a2) : Ev (n) 7 91 [am_r (some 32), am_i (wz a1), am_i (wz a2)] A D (ri (v_X11_isFalse D a1 a2)) A D := by
  unfold p_X11_isFalse at hp
  unfold v_X11_isFalse
  refine Ev_of (c := 6) (P := P_X11_isFalse) (lo := [some (am_r (some 32)), some (am_i (wz a1)), some (am_i (wz a2))]) rfl rfl rfl (fun d hd s hr => ?_)
  refine ok (m_iload_n (q := 1) rfl rfl rfl rfl) ?_
  refine ok (m_iconst (q := 2) rfl rfl rfl) ?_
  refine ok (m_aload_n (q := 3) rfl rfl rfl rfl) ?_
  have f_1 := Rp_fx0_2 hr
  refine ok (m_gfy (q := 6) rfl rfl rfl hr rfl rfl rfl) ?_
  refine oke (e_ci (x_cv (q := 9) rfl rfl rfl rfl rfl rfl rfl rfl rfl rfl (is_ty hr rfl f_1)) (ev_size 2 f_1) (Nat.le_trans (by decide) hd) hr) (fun s2 r3 => ?_)
  refine ok (m_iconst (q := 10) rfl rfl rfl) ?_
  refine ok (m_isub (q := 11) rfl rfl rfl) ?_
  refine oke (e_ci (x_cs (q := 14) rfl rfl rfl rfl rfl rfl rfl rfl rfl) (ev_X11_between (D := D) a1 0 (wr ((D 1002 2) - 1)) h1 ⟨by decide, by decide⟩ (rg_wr _)) (Nat.le_trans (by decide) hd) r3) (fun s4 r5 => ?_)
  refine okp (m_ifeq (qt := 24) (qf := 17) rfl rfl (Ev_rg (ev_X11_between (D := D) a1 0 (wr ((D 1002 2) - 1)) h1 ⟨by decide, by decide⟩ (rg_wr _)) r3) rfl rfl) (fun c6 => ?_) (fun c6 => ?_)
  · refine ok (m_iconst (q := 25) rfl rfl rfl) ?_
    exact ok (m_reti rfl rfl) (ok_i r5 ⟨by decide, by decide⟩)
  · replace hp := iq c6 hp
    refine ok (m_iload_n (q := 18) rfl rfl rfl rfl) ?_
    refine oke (e_ci (x_cs (q := 21) rfl rfl rfl rfl rfl rfl rfl rfl rfl) (ev_X11_isDay (D := D) a2 h2) (Nat.le_trans (by decide) hd) r5) (fun s7 r8 => ?_)
    refine okp (m_ifne (qt := 26) (qf := 24) rfl rfl (Ev_rg (ev_X11_isDay (D := D) a2 h2) r5) rfl rfl) (fun c9 => ?_) (fun c9 => ?_)
    · refine ok (m_iconst (q := 25) rfl rfl rfl) ?_
      exact ok (m_reti rfl rfl) (ok_i r8 ⟨by decide, by decide⟩)
    · replace hp := iq c9 hp
      refine ok (m_aload_n (q := 27) rfl rfl rfl rfl) ?_
      refine ok (m_gfc (q := 30) rfl rfl rfl r8 rfl rfl rfl) ?_
      refine ok (m_aload_n (q := 31) rfl rfl rfl rfl) ?_
      have f_10 := Rp_fx0_2 r8
      refine ok (m_gfy (q := 34) rfl rfl rfl r8 rfl rfl rfl) ?_
      refine ok (m_iload_n (q := 35) rfl rfl rfl rfl) ?_
      obtain ⟨g13, hp⟩ := hp
      have f_14 := Rp_el2 (D := D) r8 g13
      refine oke (e_cr (x_cv (q := 38) rfl rfl rfl rfl rfl rfl rfl rfl rfl rfl (is_ty r8 rfl f_10)) (ev_get2 a1 g13) (Nat.le_trans (by decide) hd) r8) (fun s11 r12 => ?_)
      refine ok (m_cast (q := 41) rfl rfl rfl (isN_ty r12 rfl f_14)) ?_
      refine ok (m_iload_n (q := 42) rfl rfl rfl rfl) ?_
      have g17 := hp
      refine oke (e_ci (x_cv (q := 45) rfl rfl rfl rfl rfl rfl rfl rfl rfl rfl (is_st r12 rfl rfl)) (ev_X3_falsehood (D := D) a1 a2 f_14 h2 g17) (Nat.le_trans (by decide) hd) r12) (fun s15 r16 => ?_)
      exact ok (m_reti rfl rfl) (ok_i r16 (Ev_rg (ev_X3_falsehood (D := D) a1 a2 f_14 h2 g17) r12))
/-- rows written as a whole -/
def row (D : aD) (a m : Nat) (g : Int → Int) : aD := fun c i => if c = a ∧ 0 ≤ i ∧ i < (m : Int) then g i else D c i
theorem row_c {a m c : Nat} {g : Int → Int} (h : c ≠ a) : row D a m g c = D c := by funext i; exact if_neg (fun e => h e.1)
theorem row_i {a m : Nat} {g : Int → Int} {i : Int} (h0 : 0 ≤ i) (h1 : i < (m : Int)) : row D a m g a i = g i := if_pos ⟨rfl, h0, h1⟩
theorem row_o {a m : Nat} {g : Int → Int} {i : Int} (h : ¬ (0 ≤ i ∧ i < (m : Int))) : row D a m g a i = D a i := if_neg (fun e => h e.2)
theorem fil_row {a m : Nat} {v : Int} : fil D a m v = row D a m (fun _ => v) := rfl
theorem row_row {a m : Nat} {g g' : Int → Int} : row (row D a m g) a m g' = row D a m g' := by
  funext c i; unfold row
  by_cases h : c = a ∧ 0 ≤ i ∧ i < (m : Int)
  · simp only [if_pos h]
  · simp only [if_neg h]
theorem row_up {a m : Nat} {g : Int → Int} {i v : Int} (h0 : 0 ≤ i) (h1 : i < (m : Int)) : up (row D a m g) a i v = row D a m (fun j => if j = i then v else g j) := by
  funext c j
  show (if c = a ∧ j = i then v else if c = a ∧ 0 ≤ j ∧ j < (m : Int) then g j else D c j) = if c = a ∧ 0 ≤ j ∧ j < (m : Int) then (if j = i then v else g j) else D c j
  by_cases hc : c = a
  · by_cases hj : j = i
    · rw [if_pos ⟨hc, hj⟩, if_pos ⟨hc, by omega, by omega⟩, if_pos hj]
    · rw [if_neg (fun e => hj e.2)]
      by_cases h : 0 ≤ j ∧ j < (m : Int)
      · rw [if_pos ⟨hc, h⟩, if_pos ⟨hc, h⟩, if_neg hj]
      · rw [if_neg (fun e => h e.2), if_neg (fun e => h e.2)]
  · rw [if_neg (fun e => hc e.1), if_neg (fun e => hc e.1), if_neg (fun e => hc e.1)]
theorem row_cg {a m : Nat} {g g' : Int → Int} (h : ∀ i, 0 ≤ i → i < (m : Int) → g i = g' i) : row D a m g = row D a m g' := by
  funext c i; unfold row
  by_cases e : c = a ∧ 0 ≤ i ∧ i < (m : Int)
  · rw [if_pos e, if_pos e, h i e.2.1 e.2.2]
  · rw [if_neg e, if_neg e]
theorem row_self {a m : Nat} : row D a m (D a) = D := by
  funext c i; unfold row
  by_cases e : c = a ∧ 0 ≤ i ∧ i < (m : Int)
  · rw [if_pos e, e.1]
  · rw [if_neg e]
theorem Sm.row {D' : aD} {a m : Nat} {g : Int → Int} (h : Sm D' D) (hc : Nat.ble (lev a) 0 = false) : Sm (row D' a m g) D := fun c q => by
  rw [row_c (fun e => by rw [e, hc] at q; cases q)]; exact h c q
theorem kn_cg {F : aD} (h : Sm F D) (p k : Int) : v_X12_isKnown F p k = v_X12_isKnown D p k := by unfold v_X12_isKnown; rw [h 86 rfl, h 87 rfl]
theorem en_cg {F : aD} (h : Sm F D) (p k : Int) : v_X12_endOf F p k = v_X12_endOf D p k := by unfold v_X12_endOf; rw [h 91 rfl, h 88 rfl]
theorem xe_cg {F : aD} (h : Sm F D) (p k : Int) : v_X5_endAsKnown F p k = v_X5_endAsKnown D p k := by unfold v_X5_endAsKnown v_X5_isKnownLeftBy; rw [h 2505 rfl, h 2506 rfl]
theorem in_cg {F : aD} (h : Sm F D) (s d k : Int) : w_inOf F s d k = w_inOf D s d k := by
  have e : inStep F s d k = inStep D s d k := by
    funext b p; unfold inStep; rw [h 83 rfl, h 85 rfl, kn_cg h, en_cg h]
  unfold w_inOf; rw [e, h 70 rfl]
theorem nc_cg {F : aD} (h : Sm F D) (s d k : Int) : w_nextChange F s d k = w_nextChange D s d k := by
  have e : ncStep F s d k = ncStep D s d k := by
    funext b p; unfold ncStep; rw [h 83 rfl, h 85 rfl, kn_cg h, xe_cg h]
  unfold w_nextChange; rw [e, h 70 rfl]
theorem pin_cg {F : aD} (h : Sm F D) {s d k : Int} (hp : p_inOf D s d k) : p_inOf F s d k := ⟨Iv_cg h hp.1, hp.2⟩
/-- days served in a post up to a day -/
def svP (D : aD) (s k p d : Int) : Bool := decide (0 ≤ w_inOf D s d k ∧ D 78 (D 84 (w_inOf D s d k)) = p)
def w_served (D : aD) (s k p : Int) : Int := cf (svP D s k p) (k + 1)
def u_tally (D : aD) (s k : Int) : aD := row D 52 6 (w_served D s k)
def p_tally (D : aD) (_ k : Int) : Prop := Iv D ∧ 0 ≤ k ∧ k ≤ 999
theorem ev_X3_tallyServed (s k : Int) (h1 : rg s) (h2 : rg k) (hp : p_tally D s k) : Ev (n + 1) 6 26 [am_r (some 50), am_i (wz s), am_i (wz k)] A D rv A (u_tally D s k) := by
  obtain ⟨hI, hk⟩ := hp
  have hc := hI.ct; unfold I_ct at hc
  refine rl_X3_tallyServed s k h1 h2 ?_
  rw [fil_row]
  have K := dn_jmp (K := fun d => K_X3_tallyServed_10 (n + 1) A (row D 52 6 (fun p => cf (svP D s k p) d)) s k d (u_tally D s k)) (lo := 0) (N := k + 1) ?_ ?_ 0 (Int.le_refl _) (by omega)
  · exact K
  · refine rl_X3_tallyServed_10 _ _ _ h1 h2 (rgb (by omega) (by omega)) ?_
    rw [if_pos (by omega)]; rfl
  · intro d d0 d1 ih
    have hm : Sm (row D 52 6 (fun p => cf (svP D s k p) d)) D := (Sm.refl D).row rfl
    have hpi : p_inOf D s d k := ⟨hI, ⟨by omega, by omega⟩, hk⟩
    have hw := inOf_b (D := D) (s := s) (d := d) (k := k) (by omega)
    refine rl_X3_tallyServed_10 _ _ _ h1 h2 (rgb (by omega) (by omega)) ?_
    rw [if_neg (by omega), in_cg hm, nc_cg hm, hm 2103 rfl, hm 2502 rfl]
    refine ⟨pin_cg hm hpi, ?_⟩
    obtain ⟨nx, e, n1, n2, n3⟩ := st_run hpi (t := k) ⟨by omega, by omega⟩
    rw [e]
    have ihn := ih nx n1 n2
    have er := fun p => cf_run (P := svP D s k p) (a := d) (b := nx) (by omega) (by omega) (fun i i0 i1 => by unfold svP; rw [n3 i i0 i1])
    by_cases c1 : w_inOf D s d k < 0
    · rw [if_pos c1]
      have e2 : (fun p => cf (svP D s k p) nx) = (fun p => cf (svP D s k p) d) := by
        funext p
        have := er p
        rw [if_neg (by unfold svP; simp only [decide_eq_true_eq]; omega)] at this
        omega
      rw [e2] at ihn; exact ihn
    · rw [if_neg c1, (plc_eq hI (p := w_inOf D s d k) (by omega) (by omega)).2.2.1]
      have hg := hI.pg (w_inOf D s d k) (by omega) (by omega)
      have hl := hI.pl (D 84 (w_inOf D s d k)) (by omega) (by omega)
      have hb := cf_b (P := svP D s k (D 78 (D 84 (w_inOf D s d k)))) d d0
      refine ⟨⟨by omega, by omega⟩, ?_⟩
      rw [row_i (by omega) (by omega), row_up (by omega) (by omega), wr_id (z := nx - d) (by omega) (by omega), wr_id (by omega) (by omega)]
      refine Eq.mp ?_ ihn
      congr 2
      funext p
      have := er p
      by_cases c2 : p = D 78 (D 84 (w_inOf D s d k))
      · rw [if_pos c2]
        rw [if_pos (by unfold svP; exact decide_eq_true ⟨by omega, c2.symm⟩)] at this
        rw [← c2]; omega
      · rw [if_neg c2]
        rw [if_neg (by unfold svP; simp only [decide_eq_true_eq]; exact fun q => c2 q.2.symm)] at this
        omega
theorem fl_tally (D : aD) (s k : Int) (t : Nat) (i : Int) (ht : Nat.ble t 49 = true) : u_tally D s k (900 + t) i = D (900 + t) i := by
  unfold u_tally; rw [row_c (fl_ne rfl ht)]
end G3
