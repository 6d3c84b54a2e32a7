/-! The chain's rows: empty, free. -/
section W4
variable {n : Nat} {A : aA} {D : aD}
abbrev P_X1_addPlace : Nat → Option am_E := am_fy tb_X1_addPlace
def K_X1_addPlace_2 (n : Nat) (A : aA) (D : aD) (i1 : Int) (a2 : Int) (a3 : Int) (x : Int) (D' : aD) : Prop := Lp n 0 P_X1_addPlace 2 [some (am_r (some 62)), some (am_r (some (A 11 i1))), some (am_i (wz a2)), some (am_i (wz a3))] [] A D (ri x) A D'
set_option maxRecDepth 100000 in
theorem rl_X1_addPlace {n : Nat} {A : aA} {D D' : aD} (i1 : Int) (a2 : Int) (f1 : D 911 i1 = 1) (h2 : rg a2) {x : Int} (hp : K_X1_addPlace_2 (n) A D i1 a2 0 x D') : Ev (n) (1) 4 [am_r (some 62), am_r (some (A 11 i1)), am_i (wz a2)] A D (ri x) A D' := by
  refine Ev_of (c := 0) (P := P_X1_addPlace) (lo := [some (am_r (some 62)), some (am_r (some (A 11 i1))), some (am_i (wz a2)), none]) rfl rfl rfl (fun d hd s hr => ?_)
  refine ok (m_iconst (q := 1) rfl rfl rfl) ?_
  refine ok (m_istore_n (q := 2) (lo' := [some (am_r (some 62)), some (am_r (some (A 11 i1))), some (am_i (wz a2)), some (am_i (wz 0))]) rfl rfl rfl rfl rfl) ?_
  exact hp d hd _ hr
set_option maxRecDepth 100000 in
theorem rl_X1_addPlace_2 {n : Nat} {A : aA} {D D' : aD} (i1 : Int) (a2 : Int) (a3 : Int) (f1 : D 911 i1 = 1) (h2 : rg a2) (h3 : rg a3) {x : Int} (hp : (if D 62 7 ≤ a3 then (if D 62 7 < 6 then (0 ≤ D 62 7 ∧ D 62 7 < 6 ∧ 0 ≤ i1 ∧ i1 < 1000) ∧ (0 ≤ D 62 7 ∧ D 62 7 < 6) ∧ (x = wr ((D 62 7) + 1) ∧ D' = (up (up (up D 1200 (D 62 7) i1) 64 (D 62 7) a2) 62 7 (wr ((D 62 7) + 1)))) else (x = (-1) ∧ D' = D)) else (0 ≤ a3 ∧ a3 < 6 ∧ 0 ≤ D 1200 a3) ∧ (if D 2100 (D 1200 a3) = D 2100 i1 then (x = (-1) ∧ D' = D) else K_X1_addPlace_2 (n) A D i1 a2 (wr (a3 + 1)) x D'))) : K_X1_addPlace_2 (n) A D i1 a2 a3 x D' := by
  unfold K_X1_addPlace_2
  refine fun d hd s hr => ?_
  refine ok (m_iload_n (q := 3) rfl rfl rfl rfl) ?_
  refine ok (m_aload_n (q := 4) rfl rfl rfl rfl) ?_
  refine ok (m_gfs (z := 7) (q := 7) rfl rfl rfl hr rfl rfl rfl rfl rfl) ?_
  refine okc (m_cmpge (qt := 34) (qf := 10) rfl rfl h3 (Rp_rg hr 62 7) rfl rfl) (fun c1 => ?_) (fun c1 => ?_)
  · replace hp := ip c1 hp
    refine ok (m_aload_n (q := 35) rfl rfl rfl rfl) ?_
    refine ok (m_gfs (z := 7) (q := 38) rfl rfl rfl hr rfl rfl rfl rfl rfl) ?_
    refine ok (m_bipush (q := 40) rfl rfl rfl) ?_
    refine okc (m_cmplt (qt := 45) (qf := 43) rfl rfl (Rp_rg hr 62 7) ⟨by decide, by decide⟩ rfl rfl) (fun c2 => ?_) (fun c2 => ?_)
    · replace hp := ip c2 hp
      refine ok (m_aload_n (q := 46) rfl rfl rfl rfl) ?_
      have f_3 := Rp_fx2_0 hr
      refine ok (m_gfy (q := 49) rfl rfl rfl hr rfl rfl rfl) ?_
      refine ok (m_aload_n (q := 50) rfl rfl rfl rfl) ?_
      refine ok (m_gfs (z := 7) (q := 53) rfl rfl rfl hr rfl rfl rfl rfl rfl) ?_
      refine ok (m_aload_n (q := 54) rfl rfl rfl rfl) ?_
      obtain ⟨g6, hp⟩ := hp
      refine oke (e_aas0 (q := 55) rfl rfl rfl hr f1 g6) (fun s5 r4 => ?_)
      refine ok (m_aload_n (q := 56) rfl rfl rfl rfl) ?_
      refine ok (m_gfc (q := 59) rfl rfl rfl r4 rfl rfl rfl) ?_
      refine ok (m_aload_n (q := 60) rfl rfl rfl rfl) ?_
      refine ok (m_gfs (z := 7) (q := 63) (w := D 62 7) rfl rfl rfl r4 rfl rfl rfl rfl rfl) ?_
      refine ok (m_iload_n (q := 64) rfl rfl rfl rfl) ?_
      obtain ⟨g9, hp⟩ := hp
      refine oke (e_ias (q := 65) rfl rfl rfl r4 rfl rfl g9 h2) (fun s8 r7 => ?_)
      refine ok (m_aload_n (q := 66) rfl rfl rfl rfl) ?_
      refine ok (m_dup (q := 67) rfl rfl rfl rfl) ?_
      refine ok (m_gfs (z := 7) (q := 70) (w := D 62 7) rfl rfl rfl r7 rfl rfl rfl rfl rfl) ?_
      refine ok (m_iconst (q := 71) rfl rfl rfl) ?_
      refine ok (m_iadd (q := 72) rfl rfl rfl) ?_
      refine oke (e_pfs (q := 75) rfl rfl rfl r7 rfl rfl rfl rfl (rg_wr _)) (fun s11 r10 => ?_)
      refine ok (m_aload_n (q := 76) rfl rfl rfl rfl) ?_
      refine ok (m_gfs (z := 7) (q := 79) (w := wr ((D 62 7) + 1)) rfl rfl rfl r10 rfl rfl rfl rfl up_eq) ?_
      exact ok (m_reti rfl rfl) (ok_iq r10 (rg_c (Rp_rg r10 62 7) up_eq) hp)
    · replace hp := iq c2 hp
      refine ok (m_iconst (q := 44) rfl rfl rfl) ?_
      exact ok (m_reti rfl rfl) (ok_iq hr ⟨by decide, by decide⟩ hp)
  · replace hp := iq c1 hp
    refine ok (m_aload_n (q := 11) rfl rfl rfl rfl) ?_
    have f_12 := Rp_fx2_0 hr
    refine ok (m_gfy (q := 14) rfl rfl rfl hr rfl rfl rfl) ?_
    refine ok (m_iload_n (q := 15) rfl rfl rfl rfl) ?_
    obtain ⟨g13, hp⟩ := hp
    refine ok (m_aal0 (q := 16) rfl rfl rfl hr g13 rfl) ?_
    have f_14 : D 911 (D 1200 a3) = 1 := Rp_ch0 (D := D) hr g13.2.2
    refine ok (m_gft (t := 11) (q := 19) rfl rfl rfl hr rfl f_14 rfl rfl rfl) ?_
    refine ok (m_aload_n (q := 20) rfl rfl rfl rfl) ?_
    refine ok (m_gft (t := 11) (q := 23) rfl rfl rfl hr rfl f1 rfl rfl rfl) ?_
    refine okc (m_cmpne (qt := 28) (qf := 26) rfl rfl (show rg (D 2100 (D 1200 a3)) from Rp_rg hr 2100 (D 1200 a3)) (show rg (D 2100 i1) from Rp_rg hr 2100 i1) rfl rfl) (fun c15 => ?_) (fun c15 => ?_)
    · replace hp := ip c15 hp
      refine ok (m_iconst (q := 27) rfl rfl rfl) ?_
      exact ok (m_reti rfl rfl) (ok_iq hr ⟨by decide, by decide⟩ hp)
    · replace hp := iq c15 hp
      refine ok (m_iinc (q := 31) (lo' := [some (am_r (some 62)), some (am_r (some (A 11 i1))), some (am_i (wz a2)), some (am_i (wz (wr (a3 + 1))))]) rfl rfl rfl rfl rfl rfl rfl) ?_
      refine ok (m_goto (q := 2) rfl rfl rfl) ?_
      exact hp d hd _ hr
abbrev P_X12_empty : Nat → Option am_E := am_fy tb_X12_empty
def K_X12_empty_5 (n : Nat) (A : aA) (D : aD) (a1 : Int) (a2 : Int) (a3 : Int) (a4 : Int) (x : Int) (D' : aD) : Prop := Lp n 2 P_X12_empty 5 [some (am_r (some 70)), some (am_i (wz a1)), some (am_i (wz a2)), some (am_i (wz a3)), some (am_i (wz a4))] [] A D (ri x) A D'
set_option maxRecDepth 100000 in
theorem rl_X12_empty {n : Nat} {A : aA} {D D' : aD} (a1 : Int) (a2 : Int) (h1 : rg a1) (h2 : rg a2) {x : Int} (hp : K_X12_empty_5 (n) A D a1 a2 0 0 x D') : Ev (n) (3) 200 [am_r (some 70), am_i (wz a1), am_i (wz a2)] A D (ri x) A D' := by
  refine Ev_of (c := 2) (P := P_X12_empty) (lo := [some (am_r (some 70)), some (am_i (wz a1)), some (am_i (wz a2)), none, none]) rfl rfl rfl (fun d hd s hr => ?_)
  refine ok (m_iconst (q := 1) rfl rfl rfl) ?_
  refine ok (m_istore_n (q := 2) (lo' := [some (am_r (some 70)), some (am_i (wz a1)), some (am_i (wz a2)), some (am_i (wz 0)), none]) rfl rfl rfl rfl rfl) ?_
  refine ok (m_iconst (q := 3) rfl rfl rfl) ?_
  refine ok (m_istore (q := 5) (lo' := [some (am_r (some 70)), some (am_i (wz a1)), some (am_i (wz a2)), some (am_i (wz 0)), some (am_i (wz 0))]) rfl rfl rfl rfl rfl) ?_
  exact hp d hd _ hr
set_option maxRecDepth 100000 in
theorem rl_X12_empty_5 {n : Nat} {A : aA} {D D' : aD} (a1 : Int) (a2 : Int) (a3 : Int) (a4 : Int) (h1 : rg a1) (h2 : rg a2) (h3 : rg a3) (b3 : 0 ≤ a3 ∧ a3 ≤ 1) (h4 : rg a4) {x : Int} (hp : (if D 70 68 ≤ a4 then (if v_X12_isPlace D a1 = 0 then (x = (-1) ∧ D' = D) else (if v_X12_isIn D a2 0 1999 = 0 then (x = (-1) ∧ D' = D) else (if a3 = 0 then (if D 70 68 = 6 then (x = (-1) ∧ D' = D) else (0 ≤ D 70 68 ∧ D 70 68 < 6) ∧ (x = wr ((D 70 68) + 1) ∧ D' = (up (up (up D 124 (D 70 68) a1) 125 (D 70 68) a2) 70 68 (wr ((D 70 68) + 1))))) else (x = (-1) ∧ D' = D)))) else (if a3 = 0 then (0 ≤ a4 ∧ a4 < 6) ∧ (if D 124 a4 = a1 then K_X12_empty_5 (n) A D a1 a2 1 (wr (a4 + 1)) x D' else K_X12_empty_5 (n) A D a1 a2 0 (wr (a4 + 1)) x D') else K_X12_empty_5 (n) A D a1 a2 1 (wr (a4 + 1)) x D'))) : K_X12_empty_5 (n) A D a1 a2 a3 a4 x D' := by
  unfold K_X12_empty_5
  refine fun d hd s hr => ?_
  refine ok (m_iload (q := 7) rfl rfl rfl rfl) ?_
  refine ok (m_aload_n (q := 8) rfl rfl rfl rfl) ?_
  refine ok (m_gfs (z := 68) (q := 11) rfl rfl rfl hr rfl rfl rfl rfl rfl) ?_
  refine okc (m_cmpge (qt := 41) (qf := 14) rfl rfl h4 (Rp_rg hr 70 68) rfl rfl) (fun c1 => ?_) (fun c1 => ?_)
  · replace hp := ip c1 hp
    refine ok (m_aload_n (q := 42) rfl rfl rfl rfl) ?_
    refine ok (m_iload_n (q := 43) rfl rfl rfl rfl) ?_
    refine oke (e_ci (x_cv (q := 46) rfl rfl rfl rfl rfl rfl rfl rfl rfl rfl (is_st hr rfl rfl)) (ev_X12_isPlace (D := D) a1 h1) (Nat.le_trans (by decide) hd) hr) (fun s2 r3 => ?_)
    refine okc (m_ifeq (qt := 73) (qf := 49) rfl rfl (Ev_rg (ev_X12_isPlace (D := D) a1 h1) hr) rfl rfl) (fun c4 => ?_) (fun c4 => ?_)
    · replace hp := ip c4 hp
      refine ok (m_iconst (q := 74) rfl rfl rfl) ?_
      exact ok (m_reti rfl rfl) (ok_iq r3 ⟨by decide, by decide⟩ hp)
    · replace hp := iq c4 hp
      refine ok (m_iload_n (q := 50) rfl rfl rfl rfl) ?_
      refine ok (m_iconst (q := 51) rfl rfl rfl) ?_
      refine ok (m_sipush (q := 54) rfl rfl rfl) ?_
      refine oke (e_ci (x_cs (q := 57) rfl rfl rfl rfl rfl rfl rfl rfl rfl) (ev_X12_isIn (D := D) a2 0 1999 h2 ⟨by decide, by decide⟩ ⟨by decide, by decide⟩) (Nat.le_trans (by decide) hd) r3) (fun s5 r6 => ?_)
      refine okc (m_ifeq (qt := 73) (qf := 60) rfl rfl (Ev_rg (ev_X12_isIn (D := D) a2 0 1999 h2 ⟨by decide, by decide⟩ ⟨by decide, by decide⟩) r3) rfl rfl) (fun c7 => ?_) (fun c7 => ?_)
      · replace hp := ip c7 hp
        refine ok (m_iconst (q := 74) rfl rfl rfl) ?_
        exact ok (m_reti rfl rfl) (ok_iq r6 ⟨by decide, by decide⟩ hp)
      · replace hp := iq c7 hp
        refine ok (m_iload_n (q := 61) rfl rfl rfl rfl) ?_
        refine okc (m_ifne (qt := 73) (qf := 64) rfl rfl h3 rfl rfl) (fun c8 => ?_) (fun c8 => ?_)
        · replace hp := ip c8 hp
          refine ok (m_aload_n (q := 65) rfl rfl rfl rfl) ?_
          refine ok (m_gfs (z := 68) (q := 68) rfl rfl rfl r6 rfl rfl rfl rfl rfl) ?_
          refine ok (m_bipush (q := 70) rfl rfl rfl) ?_
          refine okc (m_cmpne (qt := 75) (qf := 73) rfl rfl (Rp_rg r6 70 68) ⟨by decide, by decide⟩ rfl rfl) (fun c9 => ?_) (fun c9 => ?_)
          · replace hp := ip c9 hp
            refine ok (m_iconst (q := 74) rfl rfl rfl) ?_
            exact ok (m_reti rfl rfl) (ok_iq r6 ⟨by decide, by decide⟩ hp)
          · replace hp := iq c9 hp
            refine ok (m_aload_n (q := 76) rfl rfl rfl rfl) ?_
            refine ok (m_gfc (q := 79) rfl rfl rfl r6 rfl rfl rfl) ?_
            refine ok (m_aload_n (q := 80) rfl rfl rfl rfl) ?_
            refine ok (m_gfs (z := 68) (q := 83) rfl rfl rfl r6 rfl rfl rfl rfl rfl) ?_
            refine ok (m_iload_n (q := 84) rfl rfl rfl rfl) ?_
            obtain ⟨g12, hp⟩ := hp
            refine oke (e_ias (q := 85) rfl rfl rfl r6 rfl rfl g12 h1) (fun s11 r10 => ?_)
            refine ok (m_aload_n (q := 86) rfl rfl rfl rfl) ?_
            refine ok (m_gfc (q := 89) rfl rfl rfl r10 rfl rfl rfl) ?_
            refine ok (m_aload_n (q := 90) rfl rfl rfl rfl) ?_
            refine ok (m_gfs (z := 68) (q := 93) (w := D 70 68) rfl rfl rfl r10 rfl rfl rfl rfl rfl) ?_
            refine ok (m_iload_n (q := 94) rfl rfl rfl rfl) ?_
            refine oke (e_ias (q := 95) rfl rfl rfl r10 rfl rfl g12 h2) (fun s14 r13 => ?_)
            refine ok (m_aload_n (q := 96) rfl rfl rfl rfl) ?_
            refine ok (m_dup (q := 97) rfl rfl rfl rfl) ?_
            refine ok (m_gfs (z := 68) (q := 100) (w := D 70 68) rfl rfl rfl r13 rfl rfl rfl rfl rfl) ?_
            refine ok (m_iconst (q := 101) rfl rfl rfl) ?_
            refine ok (m_iadd (q := 102) rfl rfl rfl) ?_
            refine oke (e_pfs (q := 105) rfl rfl rfl r13 rfl rfl rfl rfl (rg_wr _)) (fun s16 r15 => ?_)
            refine ok (m_aload_n (q := 106) rfl rfl rfl rfl) ?_
            refine ok (m_gfs (z := 68) (q := 109) (w := wr ((D 70 68) + 1)) rfl rfl rfl r15 rfl rfl rfl rfl up_eq) ?_
            exact ok (m_reti rfl rfl) (ok_iq r15 (rg_c (Rp_rg r15 70 68) up_eq) hp)
        · replace hp := iq c8 hp
          refine ok (m_iconst (q := 74) rfl rfl rfl) ?_
          exact ok (m_reti rfl rfl) (ok_iq r6 ⟨by decide, by decide⟩ hp)
  · replace hp := iq c1 hp
    refine ok (m_iload_n (q := 15) rfl rfl rfl rfl) ?_
    refine okc (m_ifne (qt := 29) (qf := 18) rfl rfl h3 rfl rfl) (fun c17 => ?_) (fun c17 => ?_)
    · replace hp := ip c17 hp
      refine ok (m_aload_n (q := 19) rfl rfl rfl rfl) ?_
      refine ok (m_gfc (q := 22) rfl rfl rfl hr rfl rfl rfl) ?_
      refine ok (m_iload (q := 24) rfl rfl rfl rfl) ?_
      obtain ⟨g18, hp⟩ := hp
      refine ok (m_ials (q := 25) rfl rfl rfl hr rfl rfl g18 rfl) ?_
      refine ok (m_iload_n (q := 26) rfl rfl rfl rfl) ?_
      refine okc (m_cmpne (qt := 33) (qf := 29) rfl rfl (Rp_rg hr 124 a4) h1 rfl rfl) (fun c19 => ?_) (fun c19 => ?_)
      · replace hp := ip c19 hp
        refine ok (m_iconst (q := 30) rfl rfl rfl) ?_
        refine ok (m_goto (q := 34) rfl rfl rfl) ?_
        refine ok (m_istore_n (q := 35) (lo' := [some (am_r (some 70)), some (am_i (wz a1)), some (am_i (wz a2)), some (am_i (wz 1)), some (am_i (wz a4))]) rfl rfl rfl rfl rfl) ?_
        refine ok (m_iinc (q := 38) (lo' := [some (am_r (some 70)), some (am_i (wz a1)), some (am_i (wz a2)), some (am_i (wz 1)), some (am_i (wz (wr (a4 + 1))))]) rfl rfl rfl rfl rfl rfl rfl) ?_
        refine ok (m_goto (q := 5) rfl rfl rfl) ?_
        exact hp d hd _ hr
      · replace hp := iq c19 hp
        refine ok (m_iconst (q := 34) rfl rfl rfl) ?_
        refine ok (m_istore_n (q := 35) (lo' := [some (am_r (some 70)), some (am_i (wz a1)), some (am_i (wz a2)), some (am_i (wz 0)), some (am_i (wz a4))]) rfl rfl rfl rfl rfl) ?_
        refine ok (m_iinc (q := 38) (lo' := [some (am_r (some 70)), some (am_i (wz a1)), some (am_i (wz a2)), some (am_i (wz 0)), some (am_i (wz (wr (a4 + 1))))]) rfl rfl rfl rfl rfl rfl rfl) ?_
        refine ok (m_goto (q := 5) rfl rfl rfl) ?_
        exact hp d hd _ hr
    · replace hp := iq c17 hp
      refine ok (m_iconst (q := 30) rfl rfl rfl) ?_
      refine ok (m_goto (q := 34) rfl rfl rfl) ?_
      refine ok (m_istore_n (q := 35) (lo' := [some (am_r (some 70)), some (am_i (wz a1)), some (am_i (wz a2)), some (am_i (wz 1)), some (am_i (wz a4))]) rfl rfl rfl rfl rfl) ?_
      refine ok (m_iinc (q := 38) (lo' := [some (am_r (some 70)), some (am_i (wz a1)), some (am_i (wz a2)), some (am_i (wz 1)), some (am_i (wz (wr (a4 + 1))))]) rfl rfl rfl rfl rfl rfl rfl) ?_
      refine ok (m_goto (q := 5) rfl rfl rfl) ?_
      exact hp d hd _ hr
abbrev P_X1_addServant : Nat → Option am_E := am_fy tb_X1_addServant
def K_X1_addServant_5 (n : Nat) (A : aA) (D : aD) (i1 : Int) (a2 : Int) (a3 : Int) (a4 : Int) (x : Int) (D' : aD) : Prop := Lp n 0 P_X1_addServant 5 [some (am_r (some 62)), some (am_r (some (A 10 i1))), some (am_i (wz a2)), some (am_i (wz a3)), some (am_i (wz a4))] [] A D (ri x) A D'
def K_X1_addServant_81 (n : Nat) (A : aA) (D : aD) (i1 : Int) (a2 : Int) (a3 : Int) (a4 : Int) (x : Int) (D' : aD) : Prop := Lp n 0 P_X1_addServant 81 [some (am_r (some 62)), some (am_r (some (A 10 i1))), some (am_i (wz a2)), some (am_i (wz a3)), some (am_i (wz a4))] [] A D (ri x) A D'
set_option maxRecDepth 100000 in
theorem rl_X1_addServant {n : Nat} {A : aA} {D D' : aD} (i1 : Int) (a2 : Int) (f1 : D 910 i1 = 1) (h2 : rg a2) {x : Int} (hp : K_X1_addServant_5 (n) A D i1 a2 0 0 x D') : Ev (n) (1) 5 [am_r (some 62), am_r (some (A 10 i1)), am_i (wz a2)] A D (ri x) A D' := by
  refine Ev_of (c := 0) (P := P_X1_addServant) (lo := [some (am_r (some 62)), some (am_r (some (A 10 i1))), some (am_i (wz a2)), none, none]) rfl rfl rfl (fun d hd s hr => ?_)
  refine ok (m_iconst (q := 1) rfl rfl rfl) ?_
  refine ok (m_istore_n (q := 2) (lo' := [some (am_r (some 62)), some (am_r (some (A 10 i1))), some (am_i (wz a2)), some (am_i (wz 0)), none]) rfl rfl rfl rfl rfl) ?_
  refine ok (m_iconst (q := 3) rfl rfl rfl) ?_
  refine ok (m_istore (q := 5) (lo' := [some (am_r (some 62)), some (am_r (some (A 10 i1))), some (am_i (wz a2)), some (am_i (wz 0)), some (am_i (wz 0))]) rfl rfl rfl rfl rfl) ?_
  exact hp d hd _ hr
set_option maxRecDepth 100000 in
theorem rl_X1_addServant_5 {n : Nat} {A : aA} {D D' : aD} (i1 : Int) (a2 : Int) (a3 : Int) (a4 : Int) (f1 : D 910 i1 = 1) (h2 : rg a2) (h3 : rg a3) (h4 : rg a4) {x : Int} (hp : (if D 62 8 ≤ a4 then (if D 62 8 < 6 then K_X1_addServant_81 (n) A D i1 a2 a3 (D 62 8) x D' else (x = (-1) ∧ D' = D)) else (0 ≤ a4 ∧ a4 < 6 ∧ 0 ≤ D 1201 a4) ∧ (if D 2000 (D 1201 a4) = D 2000 i1 then (x = (-1) ∧ D' = D) else (if D 2000 i1 ≤ D 2000 (D 1201 a4) then K_X1_addServant_5 (n) A D i1 a2 (wr (a3 + 0)) (wr (a4 + 1)) x D' else K_X1_addServant_5 (n) A D i1 a2 (wr (a3 + 1)) (wr (a4 + 1)) x D')))) : K_X1_addServant_5 (n) A D i1 a2 a3 a4 x D' := by
  unfold K_X1_addServant_5
  refine fun d hd s hr => ?_
  refine ok (m_iload (q := 7) rfl rfl rfl rfl) ?_
  refine ok (m_aload_n (q := 8) rfl rfl rfl rfl) ?_
  refine ok (m_gfs (z := 8) (q := 11) rfl rfl rfl hr rfl rfl rfl rfl rfl) ?_
  refine okc (m_cmpge (qt := 64) (qf := 14) rfl rfl h4 (Rp_rg hr 62 8) rfl rfl) (fun c1 => ?_) (fun c1 => ?_)
  · replace hp := ip c1 hp
    refine ok (m_aload_n (q := 65) rfl rfl rfl rfl) ?_
    refine ok (m_gfs (z := 8) (q := 68) rfl rfl rfl hr rfl rfl rfl rfl rfl) ?_
    refine ok (m_bipush (q := 70) rfl rfl rfl) ?_
    refine okc (m_cmplt (qt := 75) (qf := 73) rfl rfl (Rp_rg hr 62 8) ⟨by decide, by decide⟩ rfl rfl) (fun c2 => ?_) (fun c2 => ?_)
    · replace hp := ip c2 hp
      refine ok (m_aload_n (q := 76) rfl rfl rfl rfl) ?_
      refine ok (m_gfs (z := 8) (q := 79) rfl rfl rfl hr rfl rfl rfl rfl rfl) ?_
      refine ok (m_istore (q := 81) (lo' := [some (am_r (some 62)), some (am_r (some (A 10 i1))), some (am_i (wz a2)), some (am_i (wz a3)), some (am_i (wz (D 62 8)))]) rfl rfl rfl rfl rfl) ?_
      exact hp d hd _ hr
    · replace hp := iq c2 hp
      refine ok (m_iconst (q := 74) rfl rfl rfl) ?_
      exact ok (m_reti rfl rfl) (ok_iq hr ⟨by decide, by decide⟩ hp)
  · replace hp := iq c1 hp
    refine ok (m_aload_n (q := 15) rfl rfl rfl rfl) ?_
    have f_3 := Rp_fx2_1 hr
    refine ok (m_gfy (q := 18) rfl rfl rfl hr rfl rfl rfl) ?_
    refine ok (m_iload (q := 20) rfl rfl rfl rfl) ?_
    obtain ⟨g4, hp⟩ := hp
    refine ok (m_aal1 (q := 21) rfl rfl rfl hr g4 rfl) ?_
    have f_5 : D 910 (D 1201 a4) = 1 := Rp_ch1 (D := D) hr g4.2.2
    refine ok (m_gft (t := 10) (q := 24) rfl rfl rfl hr rfl f_5 rfl rfl rfl) ?_
    refine ok (m_aload_n (q := 25) rfl rfl rfl rfl) ?_
    refine ok (m_gft (t := 10) (q := 28) rfl rfl rfl hr rfl f1 rfl rfl rfl) ?_
    refine okc (m_cmpne (qt := 33) (qf := 31) rfl rfl (show rg (D 2000 (D 1201 a4)) from Rp_rg hr 2000 (D 1201 a4)) (show rg (D 2000 i1) from Rp_rg hr 2000 i1) rfl rfl) (fun c6 => ?_) (fun c6 => ?_)
    · replace hp := ip c6 hp
      refine ok (m_iconst (q := 32) rfl rfl rfl) ?_
      exact ok (m_reti rfl rfl) (ok_iq hr ⟨by decide, by decide⟩ hp)
    · replace hp := iq c6 hp
      refine ok (m_iload_n (q := 34) rfl rfl rfl rfl) ?_
      refine ok (m_aload_n (q := 35) rfl rfl rfl rfl) ?_
      have f_7 := Rp_fx2_1 hr
      refine ok (m_gfy (q := 38) rfl rfl rfl hr rfl rfl rfl) ?_
      refine ok (m_iload (q := 40) rfl rfl rfl rfl) ?_
      refine ok (m_aal1 (q := 41) rfl rfl rfl hr g4 rfl) ?_
      have f_8 : D 910 (D 1201 a4) = 1 := Rp_ch1 (D := D) hr g4.2.2
      refine ok (m_gft (t := 10) (q := 44) rfl rfl rfl hr rfl f_8 rfl rfl rfl) ?_
      refine ok (m_aload_n (q := 45) rfl rfl rfl rfl) ?_
      refine ok (m_gft (t := 10) (q := 48) rfl rfl rfl hr rfl f1 rfl rfl rfl) ?_
      refine okc (m_cmpge (qt := 55) (qf := 51) rfl rfl (show rg (D 2000 (D 1201 a4)) from Rp_rg hr 2000 (D 1201 a4)) (show rg (D 2000 i1) from Rp_rg hr 2000 i1) rfl rfl) (fun c9 => ?_) (fun c9 => ?_)
      · replace hp := ip c9 hp
        refine ok (m_iconst (q := 56) rfl rfl rfl) ?_
        refine ok (m_iadd (q := 57) rfl rfl rfl) ?_
        refine ok (m_istore_n (q := 58) (lo' := [some (am_r (some 62)), some (am_r (some (A 10 i1))), some (am_i (wz a2)), some (am_i (wz (wr (a3 + 0)))), some (am_i (wz a4))]) rfl rfl rfl rfl rfl) ?_
        refine ok (m_iinc (q := 61) (lo' := [some (am_r (some 62)), some (am_r (some (A 10 i1))), some (am_i (wz a2)), some (am_i (wz (wr (a3 + 0)))), some (am_i (wz (wr (a4 + 1))))]) rfl rfl rfl rfl rfl rfl rfl) ?_
        refine ok (m_goto (q := 5) rfl rfl rfl) ?_
        exact hp d hd _ hr
      · replace hp := iq c9 hp
        refine ok (m_iconst (q := 52) rfl rfl rfl) ?_
        refine ok (m_goto (q := 56) rfl rfl rfl) ?_
        refine ok (m_iadd (q := 57) rfl rfl rfl) ?_
        refine ok (m_istore_n (q := 58) (lo' := [some (am_r (some 62)), some (am_r (some (A 10 i1))), some (am_i (wz a2)), some (am_i (wz (wr (a3 + 1)))), some (am_i (wz a4))]) rfl rfl rfl rfl rfl) ?_
        refine ok (m_iinc (q := 61) (lo' := [some (am_r (some 62)), some (am_r (some (A 10 i1))), some (am_i (wz a2)), some (am_i (wz (wr (a3 + 1)))), some (am_i (wz (wr (a4 + 1))))]) rfl rfl rfl rfl rfl rfl rfl) ?_
        refine ok (m_goto (q := 5) rfl rfl rfl) ?_
        exact hp d hd _ hr
set_option maxRecDepth 100000 in
theorem rl_X1_addServant_81 {n : Nat} {A : aA} {D D' : aD} (i1 : Int) (a2 : Int) (a3 : Int) (a4 : Int) (f1 : D 910 i1 = 1) (h2 : rg a2) (h3 : rg a3) (h4 : rg a4) {x : Int} (hp : (if a4 ≤ a3 then (0 ≤ a3 ∧ a3 < 6 ∧ 0 ≤ i1 ∧ i1 < 1000) ∧ (0 ≤ a3 ∧ a3 < 6) ∧ (x = wr ((D 62 8) + 1) ∧ D' = (up (up (up D 1201 a3 i1) 66 a3 a2) 62 8 (wr ((D 62 8) + 1)))) else (0 ≤ wr (a4 - 1) ∧ wr (a4 - 1) < 6 ∧ 0 ≤ D 1201 (wr (a4 - 1))) ∧ (0 ≤ a4 ∧ a4 < 6 ∧ 0 ≤ D 1201 (wr (a4 - 1)) ∧ D 1201 (wr (a4 - 1)) < 1000) ∧ (0 ≤ wr (a4 - 1) ∧ wr (a4 - 1) < 6) ∧ (0 ≤ a4 ∧ a4 < 6) ∧ K_X1_addServant_81 (n) A (up (up D 1201 a4 (D 1201 (wr (a4 - 1)))) 66 a4 (D 66 (wr (a4 - 1)))) i1 a2 a3 (wr (a4 + (-1))) x D')) : K_X1_addServant_81 (n) A D i1 a2 a3 a4 x D' := by
  unfold K_X1_addServant_81
  refine fun d hd s hr => ?_
  refine ok (m_iload (q := 83) rfl rfl rfl rfl) ?_
  refine ok (m_iload_n (q := 84) rfl rfl rfl rfl) ?_
  refine okc (m_cmple (qt := 125) (qf := 87) rfl rfl h4 h3 rfl rfl) (fun c10 => ?_) (fun c10 => ?_)
  · replace hp := ip c10 hp
    refine ok (m_aload_n (q := 126) rfl rfl rfl rfl) ?_
    have f_11 := Rp_fx2_1 hr
    refine ok (m_gfy (q := 129) rfl rfl rfl hr rfl rfl rfl) ?_
    refine ok (m_iload_n (q := 130) rfl rfl rfl rfl) ?_
    refine ok (m_aload_n (q := 131) rfl rfl rfl rfl) ?_
    obtain ⟨g14, hp⟩ := hp
    refine oke (e_aas1 (q := 132) rfl rfl rfl hr f1 g14) (fun s13 r12 => ?_)
    refine ok (m_aload_n (q := 133) rfl rfl rfl rfl) ?_
    refine ok (m_gfc (q := 136) rfl rfl rfl r12 rfl rfl rfl) ?_
    refine ok (m_iload_n (q := 137) rfl rfl rfl rfl) ?_
    refine ok (m_iload_n (q := 138) rfl rfl rfl rfl) ?_
    obtain ⟨g17, hp⟩ := hp
    refine oke (e_ias (q := 139) rfl rfl rfl r12 rfl rfl g17 h2) (fun s16 r15 => ?_)
    refine ok (m_aload_n (q := 140) rfl rfl rfl rfl) ?_
    refine ok (m_dup (q := 141) rfl rfl rfl rfl) ?_
    refine ok (m_gfs (z := 8) (q := 144) (w := D 62 8) rfl rfl rfl r15 rfl rfl rfl rfl rfl) ?_
    refine ok (m_iconst (q := 145) rfl rfl rfl) ?_
    refine ok (m_iadd (q := 146) rfl rfl rfl) ?_
    refine oke (e_pfs (q := 149) rfl rfl rfl r15 rfl rfl rfl rfl (rg_wr _)) (fun s19 r18 => ?_)
    refine ok (m_aload_n (q := 150) rfl rfl rfl rfl) ?_
    refine ok (m_gfs (z := 8) (q := 153) (w := wr ((D 62 8) + 1)) rfl rfl rfl r18 rfl rfl rfl rfl up_eq) ?_
    exact ok (m_reti rfl rfl) (ok_iq r18 (rg_c (Rp_rg r18 62 8) up_eq) hp)
  · replace hp := iq c10 hp
    refine ok (m_aload_n (q := 88) rfl rfl rfl rfl) ?_
    have f_20 := Rp_fx2_1 hr
    refine ok (m_gfy (q := 91) rfl rfl rfl hr rfl rfl rfl) ?_
    refine ok (m_iload (q := 93) rfl rfl rfl rfl) ?_
    refine ok (m_aload_n (q := 94) rfl rfl rfl rfl) ?_
    have f_21 := Rp_fx2_1 hr
    refine ok (m_gfy (q := 97) rfl rfl rfl hr rfl rfl rfl) ?_
    refine ok (m_iload (q := 99) rfl rfl rfl rfl) ?_
    refine ok (m_iconst (q := 100) rfl rfl rfl) ?_
    refine ok (m_isub (q := 101) rfl rfl rfl) ?_
    obtain ⟨g22, hp⟩ := hp
    refine ok (m_aal1 (q := 102) rfl rfl rfl hr g22 rfl) ?_
    have f_23 : D 910 (D 1201 (wr (a4 - 1))) = 1 := Rp_ch1 (D := D) hr g22.2.2
    obtain ⟨g26, hp⟩ := hp
    refine oke (e_aas1 (q := 103) rfl rfl rfl hr f_23 g26) (fun s25 r24 => ?_)
    refine ok (m_aload_n (q := 104) rfl rfl rfl rfl) ?_
    refine ok (m_gfc (q := 107) rfl rfl rfl r24 rfl rfl rfl) ?_
    refine ok (m_iload (q := 109) rfl rfl rfl rfl) ?_
    refine ok (m_aload_n (q := 110) rfl rfl rfl rfl) ?_
    refine ok (m_gfc (q := 113) rfl rfl rfl r24 rfl rfl rfl) ?_
    refine ok (m_iload (q := 115) rfl rfl rfl rfl) ?_
    refine ok (m_iconst (q := 116) rfl rfl rfl) ?_
    refine ok (m_isub (q := 117) rfl rfl rfl) ?_
    obtain ⟨g27, hp⟩ := hp
    refine ok (m_ials (q := 118) (w := D 66 (wr (a4 - 1))) rfl rfl rfl r24 rfl rfl g27 rfl) ?_
    obtain ⟨g30, hp⟩ := hp
    refine oke (e_ias (q := 119) rfl rfl rfl r24 rfl rfl g30 (show rg (D 66 (wr (a4 - 1))) from Rp_rg r24 66 (wr (a4 - 1)))) (fun s29 r28 => ?_)
    refine ok (m_iinc (q := 122) (lo' := [some (am_r (some 62)), some (am_r (some (A 10 i1))), some (am_i (wz a2)), some (am_i (wz a3)), some (am_i (wz (wr (a4 + (-1)))))]) rfl rfl rfl rfl rfl rfl rfl) ?_
    refine ok (m_goto (q := 81) rfl rfl rfl) ?_
    exact hp d hd _ r28
abbrev P_X12_free : Nat → Option am_E := am_fy tb_X12_free
def K_X12_free_5 (n : Nat) (A : aA) (D : aD) (a1 : Int) (a2 : Int) (a3 : Int) (a4 : Int) (x : Int) (D' : aD) : Prop := Lp n 2 P_X12_free 5 [some (am_r (some 70)), some (am_i (wz a1)), some (am_i (wz a2)), some (am_i (wz a3)), some (am_i (wz a4))] [] A D (ri x) A D'
set_option maxRecDepth 100000 in
theorem rl_X12_free {n : Nat} {A : aA} {D D' : aD} (a1 : Int) (a2 : Int) (h1 : rg a1) (h2 : rg a2) {x : Int} (hp : K_X12_free_5 (n) A D a1 a2 0 0 x D') : Ev (n) (3) 201 [am_r (some 70), am_i (wz a1), am_i (wz a2)] A D (ri x) A D' := by
  refine Ev_of (c := 2) (P := P_X12_free) (lo := [some (am_r (some 70)), some (am_i (wz a1)), some (am_i (wz a2)), none, none]) rfl rfl rfl (fun d hd s hr => ?_)
  refine ok (m_iconst (q := 1) rfl rfl rfl) ?_
  refine ok (m_istore_n (q := 2) (lo' := [some (am_r (some 70)), some (am_i (wz a1)), some (am_i (wz a2)), some (am_i (wz 0)), none]) rfl rfl rfl rfl rfl) ?_
  refine ok (m_iconst (q := 3) rfl rfl rfl) ?_
  refine ok (m_istore (q := 5) (lo' := [some (am_r (some 70)), some (am_i (wz a1)), some (am_i (wz a2)), some (am_i (wz 0)), some (am_i (wz 0))]) rfl rfl rfl rfl rfl) ?_
  exact hp d hd _ hr
set_option maxRecDepth 100000 in
theorem rl_X12_free_5 {n : Nat} {A : aA} {D D' : aD} (a1 : Int) (a2 : Int) (a3 : Int) (a4 : Int) (h1 : rg a1) (h2 : rg a2) (h3 : rg a3) (b3 : 0 ≤ a3 ∧ a3 ≤ 1) (h4 : rg a4) {x : Int} (hp : (if D 70 69 ≤ a4 then (if v_X12_isServant D a1 = 0 then (x = (-1) ∧ D' = D) else (if v_X12_isIn D a2 0 1999 = 0 then (x = (-1) ∧ D' = D) else (if a3 = 0 then (if D 70 69 = 6 then (x = (-1) ∧ D' = D) else (0 ≤ D 70 69 ∧ D 70 69 < 6) ∧ (x = wr ((D 70 69) + 1) ∧ D' = (up (up (up D 126 (D 70 69) a1) 127 (D 70 69) a2) 70 69 (wr ((D 70 69) + 1))))) else (x = (-1) ∧ D' = D)))) else (if a3 = 0 then (0 ≤ a4 ∧ a4 < 6) ∧ (if D 126 a4 = a1 then K_X12_free_5 (n) A D a1 a2 1 (wr (a4 + 1)) x D' else K_X12_free_5 (n) A D a1 a2 0 (wr (a4 + 1)) x D') else K_X12_free_5 (n) A D a1 a2 1 (wr (a4 + 1)) x D'))) : K_X12_free_5 (n) A D a1 a2 a3 a4 x D' := by
  unfold K_X12_free_5
  refine fun d hd s hr => ?_
  refine ok (m_iload (q := 7) rfl rfl rfl rfl) ?_
  refine ok (m_aload_n (q := 8) rfl rfl rfl rfl) ?_
  refine ok (m_gfs (z := 69) (q := 11) rfl rfl rfl hr rfl rfl rfl rfl rfl) ?_
  refine okc (m_cmpge (qt := 41) (qf := 14) rfl rfl h4 (Rp_rg hr 70 69) rfl rfl) (fun c1 => ?_) (fun c1 => ?_)
  · replace hp := ip c1 hp
    refine ok (m_aload_n (q := 42) rfl rfl rfl rfl) ?_
    refine ok (m_iload_n (q := 43) rfl rfl rfl rfl) ?_
    refine oke (e_ci (x_cv (q := 46) rfl rfl rfl rfl rfl rfl rfl rfl rfl rfl (is_st hr rfl rfl)) (ev_X12_isServant (D := D) a1 h1) (Nat.le_trans (by decide) hd) hr) (fun s2 r3 => ?_)
    refine okc (m_ifeq (qt := 73) (qf := 49) rfl rfl (Ev_rg (ev_X12_isServant (D := D) a1 h1) hr) rfl rfl) (fun c4 => ?_) (fun c4 => ?_)
    · replace hp := ip c4 hp
      refine ok (m_iconst (q := 74) rfl rfl rfl) ?_
      exact ok (m_reti rfl rfl) (ok_iq r3 ⟨by decide, by decide⟩ hp)
    · replace hp := iq c4 hp
      refine ok (m_iload_n (q := 50) rfl rfl rfl rfl) ?_
      refine ok (m_iconst (q := 51) rfl rfl rfl) ?_
      refine ok (m_sipush (q := 54) rfl rfl rfl) ?_
      refine oke (e_ci (x_cs (q := 57) rfl rfl rfl rfl rfl rfl rfl rfl rfl) (ev_X12_isIn (D := D) a2 0 1999 h2 ⟨by decide, by decide⟩ ⟨by decide, by decide⟩) (Nat.le_trans (by decide) hd) r3) (fun s5 r6 => ?_)
      refine okc (m_ifeq (qt := 73) (qf := 60) rfl rfl (Ev_rg (ev_X12_isIn (D := D) a2 0 1999 h2 ⟨by decide, by decide⟩ ⟨by decide, by decide⟩) r3) rfl rfl) (fun c7 => ?_) (fun c7 => ?_)
      · replace hp := ip c7 hp
        refine ok (m_iconst (q := 74) rfl rfl rfl) ?_
        exact ok (m_reti rfl rfl) (ok_iq r6 ⟨by decide, by decide⟩ hp)
      · replace hp := iq c7 hp
        refine ok (m_iload_n (q := 61) rfl rfl rfl rfl) ?_
        refine okc (m_ifne (qt := 73) (qf := 64) rfl rfl h3 rfl rfl) (fun c8 => ?_) (fun c8 => ?_)
        · replace hp := ip c8 hp
          refine ok (m_aload_n (q := 65) rfl rfl rfl rfl) ?_
          refine ok (m_gfs (z := 69) (q := 68) rfl rfl rfl r6 rfl rfl rfl rfl rfl) ?_
          refine ok (m_bipush (q := 70) rfl rfl rfl) ?_
          refine okc (m_cmpne (qt := 75) (qf := 73) rfl rfl (Rp_rg r6 70 69) ⟨by decide, by decide⟩ rfl rfl) (fun c9 => ?_) (fun c9 => ?_)
          · replace hp := ip c9 hp
            refine ok (m_iconst (q := 74) rfl rfl rfl) ?_
            exact ok (m_reti rfl rfl) (ok_iq r6 ⟨by decide, by decide⟩ hp)
          · replace hp := iq c9 hp
            refine ok (m_aload_n (q := 76) rfl rfl rfl rfl) ?_
            refine ok (m_gfc (q := 79) rfl rfl rfl r6 rfl rfl rfl) ?_
            refine ok (m_aload_n (q := 80) rfl rfl rfl rfl) ?_
            refine ok (m_gfs (z := 69) (q := 83) rfl rfl rfl r6 rfl rfl rfl rfl rfl) ?_
            refine ok (m_iload_n (q := 84) rfl rfl rfl rfl) ?_
            obtain ⟨g12, hp⟩ := hp
            refine oke (e_ias (q := 85) rfl rfl rfl r6 rfl rfl g12 h1) (fun s11 r10 => ?_)
            refine ok (m_aload_n (q := 86) rfl rfl rfl rfl) ?_
            refine ok (m_gfc (q := 89) rfl rfl rfl r10 rfl rfl rfl) ?_
            refine ok (m_aload_n (q := 90) rfl rfl rfl rfl) ?_
            refine ok (m_gfs (z := 69) (q := 93) (w := D 70 69) rfl rfl rfl r10 rfl rfl rfl rfl rfl) ?_
            refine ok (m_iload_n (q := 94) rfl rfl rfl rfl) ?_
            refine oke (e_ias (q := 95) rfl rfl rfl r10 rfl rfl g12 h2) (fun s14 r13 => ?_)
            refine ok (m_aload_n (q := 96) rfl rfl rfl rfl) ?_
            refine ok (m_dup (q := 97) rfl rfl rfl rfl) ?_
            refine ok (m_gfs (z := 69) (q := 100) (w := D 70 69) rfl rfl rfl r13 rfl rfl rfl rfl rfl) ?_
            refine ok (m_iconst (q := 101) rfl rfl rfl) ?_
            refine ok (m_iadd (q := 102) rfl rfl rfl) ?_
            refine oke (e_pfs (q := 105) rfl rfl rfl r13 rfl rfl rfl rfl (rg_wr _)) (fun s16 r15 => ?_)
            refine ok (m_aload_n (q := 106) rfl rfl rfl rfl) ?_
            refine ok (m_gfs (z := 69) (q := 109) (w := wr ((D 70 69) + 1)) rfl rfl rfl r15 rfl rfl rfl rfl up_eq) ?_
            exact ok (m_reti rfl rfl) (ok_iq r15 (rg_c (Rp_rg r15 70 69) up_eq) hp)
        · replace hp := iq c8 hp
          refine ok (m_iconst (q := 74) rfl rfl rfl) ?_
          exact ok (m_reti rfl rfl) (ok_iq r6 ⟨by decide, by decide⟩ hp)
  · replace hp := iq c1 hp
    refine ok (m_iload_n (q := 15) rfl rfl rfl rfl) ?_
    refine okc (m_ifne (qt := 29) (qf := 18) rfl rfl h3 rfl rfl) (fun c17 => ?_) (fun c17 => ?_)
    · replace hp := ip c17 hp
      refine ok (m_aload_n (q := 19) rfl rfl rfl rfl) ?_
      refine ok (m_gfc (q := 22) rfl rfl rfl hr rfl rfl rfl) ?_
      refine ok (m_iload (q := 24) rfl rfl rfl rfl) ?_
      obtain ⟨g18, hp⟩ := hp
      refine ok (m_ials (q := 25) rfl rfl rfl hr rfl rfl g18 rfl) ?_
      refine ok (m_iload_n (q := 26) rfl rfl rfl rfl) ?_
      refine okc (m_cmpne (qt := 33) (qf := 29) rfl rfl (Rp_rg hr 126 a4) h1 rfl rfl) (fun c19 => ?_) (fun c19 => ?_)
      · replace hp := ip c19 hp
        refine ok (m_iconst (q := 30) rfl rfl rfl) ?_
        refine ok (m_goto (q := 34) rfl rfl rfl) ?_
        refine ok (m_istore_n (q := 35) (lo' := [some (am_r (some 70)), some (am_i (wz a1)), some (am_i (wz a2)), some (am_i (wz 1)), some (am_i (wz a4))]) rfl rfl rfl rfl rfl) ?_
        refine ok (m_iinc (q := 38) (lo' := [some (am_r (some 70)), some (am_i (wz a1)), some (am_i (wz a2)), some (am_i (wz 1)), some (am_i (wz (wr (a4 + 1))))]) rfl rfl rfl rfl rfl rfl rfl) ?_
        refine ok (m_goto (q := 5) rfl rfl rfl) ?_
        exact hp d hd _ hr
      · replace hp := iq c19 hp
        refine ok (m_iconst (q := 34) rfl rfl rfl) ?_
        refine ok (m_istore_n (q := 35) (lo' := [some (am_r (some 70)), some (am_i (wz a1)), some (am_i (wz a2)), some (am_i (wz 0)), some (am_i (wz a4))]) rfl rfl rfl rfl rfl) ?_
        refine ok (m_iinc (q := 38) (lo' := [some (am_r (some 70)), some (am_i (wz a1)), some (am_i (wz a2)), some (am_i (wz 0)), some (am_i (wz (wr (a4 + 1))))]) rfl rfl rfl rfl rfl rfl rfl) ?_
        refine ok (m_goto (q := 5) rfl rfl rfl) ?_
        exact hp d hd _ hr
    · replace hp := iq c17 hp
      refine ok (m_iconst (q := 30) rfl rfl rfl) ?_
      refine ok (m_goto (q := 34) rfl rfl rfl) ?_
      refine ok (m_istore_n (q := 35) (lo' := [some (am_r (some 70)), some (am_i (wz a1)), some (am_i (wz a2)), some (am_i (wz 1)), some (am_i (wz a4))]) rfl rfl rfl rfl rfl) ?_
      refine ok (m_iinc (q := 38) (lo' := [some (am_r (some 70)), some (am_i (wz a1)), some (am_i (wz a2)), some (am_i (wz 1)), some (am_i (wz (wr (a4 + 1))))]) rfl rfl rfl rfl rfl rfl rfl) ?_
      refine ok (m_goto (q := 5) rfl rfl rfl) ?_
      exact hp d hd _ hr
def okP (D : aD) (p : Int) : Prop := thr (D 124) p (D 70 68) = 0 ∧ ¬ D 70 68 = 6
def w_addPlace (D : aD) (p _ : Int) : Int := if thr (D 124) p (D 70 68) = 0 ∧ ¬ D 70 68 = 6 then D 70 68 + 1 else -1
def u_addPlace (D : aD) (p d : Int) : aD := if thr (D 124) p (D 70 68) = 0 ∧ ¬ D 70 68 = 6 then up (up (up D 1200 (D 70 68) p) 64 (D 70 68) d) 62 7 (D 70 68 + 1) else D
def p_addPlace (D : aD) (p _ : Int) : Prop := Iv D ∧ 0 ≤ p ∧ p < D 70 3
theorem ev_X1_addPlace (p d : Int) (f1 : D 911 p = 1) (h2 : rg d) (hp : p_addPlace D p d) : Ev n 1 4 [am_r (some 62), am_r (some (A 11 p)), am_i (wz d)] A D (ri (w_addPlace D p d)) A (u_addPlace D p d) := by
  obtain ⟨hI, hp⟩ := hp
  have hct := hI.ct; unfold I_ct at hct
  have hn := hI.cn; unfold I_cn at hn
  have hpl := hI.pl p hp.1 hp.2
  refine rl_X1_addPlace p d f1 h2 ?_
  have ht := thr_b (D 124) p (D 70 68) hn.1.2.1
  by_cases c : thr (D 124) p (D 70 68) = 0
  · have hk : ∀ k, 0 ≤ k → k < D 70 68 → D 124 k ≠ p := by
      rcases ht with ⟨s1, s2⟩ | ⟨s1, _⟩
      · exact s2
      · omega
    refine dn_ind (K := fun j => K_X1_addPlace_2 n A D p d j (w_addPlace D p d) (u_addPlace D p d)) (lo := 0) (N := D 70 68) ?_ ?_ 0 (by omega) (by omega)
    · refine rl_X1_addPlace_2 _ _ _ f1 h2 (rgb (by omega) (by omega)) ?_
      rw [if_pos (by omega)]
      unfold w_addPlace u_addPlace
      by_cases c2 : D 70 68 = 6
      · rw [if_neg (by omega), if_neg (fun z => z.2 c2), if_neg (fun z => z.2 c2)]; exact ⟨rfl, rfl⟩
      · rw [if_pos (by omega), if_pos ⟨c, c2⟩, if_pos ⟨c, c2⟩, hn.1.1, wr_id (by omega) (by omega)]
        exact ⟨by omega, by omega, rfl, rfl⟩
    · intro j j0 j1 ih
      have hj := hn.2.2.1 j j0 j1
      have hq := hI.pl (D 124 j) (by omega) (by omega)
      refine rl_X1_addPlace_2 _ _ _ f1 h2 (rgb (by omega) (by omega)) ?_
      rw [if_neg (by omega), hj.1, hq.1, hpl.1, if_neg (hk j j0 j1), wr1 j0 j1 (by omega)]
      exact ⟨by omega, ih⟩
  · obtain ⟨k, k0, k1, k2⟩ : ∃ k, 0 ≤ k ∧ k < D 70 68 ∧ D 124 k = p := by
      rcases ht with ⟨s1, s2⟩ | ⟨s1, s2⟩
      · omega
      · exact s2
    have ew : w_addPlace D p d = -1 ∧ u_addPlace D p d = D := by
      unfold w_addPlace u_addPlace; rw [if_neg (fun z => c z.1), if_neg (fun z => c z.1)]; exact ⟨rfl, rfl⟩
    rw [ew.1, ew.2]
    refine dn_ind (K := fun j => K_X1_addPlace_2 n A D p d j (-1) D) (lo := 0) (N := k) ?_ ?_ 0 (by omega) (by omega)
    · have hj := hn.2.2.1 k k0 k1
      have hq := hI.pl (D 124 k) (by omega) (by omega)
      refine rl_X1_addPlace_2 _ _ _ f1 h2 (rgb (by omega) (by omega)) ?_
      rw [if_neg (by omega), hj.1, hq.1, hpl.1, if_pos k2]
      exact ⟨by omega, rfl, rfl⟩
    · intro j j0 j1 ih
      have hj := hn.2.2.1 j j0 (by omega)
      have hq := hI.pl (D 124 j) (by omega) (by omega)
      refine rl_X1_addPlace_2 _ _ _ f1 h2 (rgb (by omega) (by omega)) ?_
      rw [if_neg (by omega), hj.1, hq.1, hpl.1, wr1 j0 j1 (by omega)]
      refine ⟨by omega, ?_⟩
      split
      · exact ⟨rfl, rfl⟩
      · exact ih
theorem fl_addPlace (D : aD) (p d : Int) (t : Nat) (i : Int) (ht : Nat.ble t 49 = true) : u_addPlace D p d (900 + t) i = D (900 + t) i := by
  unfold u_addPlace
  split
  · rw [up_c (fl_ne rfl ht), up_c (fl_ne rfl ht), up_c (fl_ne rfl ht)]
  · rfl
abbrev P_X11_empty : Nat → Option am_E := am_fy tb_X11_empty
def v_X11_empty (D : aD) (a1 : Int) (a2 : Int) : Int := if v_X11_isPlace D a1 = 0 then (-1) else if v_X11_between D a2 0 1999 = 0 then (-1) else w_addPlace D a1 a2
def u_X11_empty (D : aD) (a1 : Int) (a2 : Int) : aD := if v_X11_isPlace D a1 = 0 then D else if v_X11_between D a2 0 1999 = 0 then D else (u_addPlace D a1 a2)
def p_X11_empty (D : aD) (a1 : Int) (a2 : Int) : Prop := (if v_X11_isPlace D a1 = 0 then True else (if v_X11_between D a2 0 1999 = 0 then True else (0 ≤ a1 ∧ a1 < D 1002 1) ∧ (p_addPlace D a1 a2)))
set_option maxRecDepth 100000 in
theorem ev_X11_empty {n : Nat} {A : aA} {D : aD} (a1 : Int) (a2 : Int) (h1 : rg a1) (h2 : rg a2) (hp : p_X11_empty D a1 a2) : Ev (n) 5 99 [am_r (some 32), am_i (wz a1), am_i (wz a2)] A D (ri (v_X11_empty D a1 a2)) A (u_X11_empty D a1 a2) := by
  unfold p_X11_empty at hp
  unfold v_X11_empty u_X11_empty
  refine Ev_of (c := 4) (P := P_X11_empty) (lo := [some (am_r (some 32)), some (am_i (wz a1)), some (am_i (wz a2))]) rfl rfl rfl (fun d hd s hr => ?_)
  refine ok (m_aload_n (q := 1) rfl rfl rfl rfl) ?_
  refine ok (m_iload_n (q := 2) rfl rfl rfl rfl) ?_
  refine oke (e_ci (x_cv (q := 5) rfl rfl rfl rfl rfl rfl rfl rfl rfl rfl (is_st hr rfl rfl)) (ev_X11_isPlace (D := D) a1 h1) (Nat.le_trans (by decide) hd) hr) (fun s1 r2 => ?_)
  refine okf (m_ifeq (qt := 19) (qf := 8) rfl rfl (Ev_rg (ev_X11_isPlace (D := D) a1 h1) hr) rfl rfl) (fun c3 => ?_) (fun c3 => ?_)
  · refine ok (m_iconst (q := 20) rfl rfl rfl) ?_
    exact ok (m_reti rfl rfl) (ok_i r2 ⟨by decide, by decide⟩)
  · replace hp := iq c3 hp
    refine ok (m_iload_n (q := 9) rfl rfl rfl rfl) ?_
    refine ok (m_iconst (q := 10) rfl rfl rfl) ?_
    refine ok (m_sipush (q := 13) rfl rfl rfl) ?_
    refine oke (e_ci (x_cs (q := 16) rfl rfl rfl rfl rfl rfl rfl rfl rfl) (ev_X11_between (D := D) a2 0 1999 h2 ⟨by decide, by decide⟩ ⟨by decide, by decide⟩) (Nat.le_trans (by decide) hd) r2) (fun s4 r5 => ?_)
    refine okf (m_ifne (qt := 21) (qf := 19) rfl rfl (Ev_rg (ev_X11_between (D := D) a2 0 1999 h2 ⟨by decide, by decide⟩ ⟨by decide, by decide⟩) r2) rfl rfl) (fun c6 => ?_) (fun c6 => ?_)
    · refine ok (m_iconst (q := 20) rfl rfl rfl) ?_
      exact ok (m_reti rfl rfl) (ok_i r5 ⟨by decide, by decide⟩)
    · replace hp := iq c6 hp
      refine ok (m_aload_n (q := 22) rfl rfl rfl rfl) ?_
      refine ok (m_gfc (q := 25) rfl rfl rfl r5 rfl rfl rfl) ?_
      refine ok (m_aload_n (q := 26) rfl rfl rfl rfl) ?_
      have f_7 := Rp_fx0_1 r5
      refine ok (m_gfy (q := 29) rfl rfl rfl r5 rfl rfl rfl) ?_
      refine ok (m_iload_n (q := 30) rfl rfl rfl rfl) ?_
      obtain ⟨g10, hp⟩ := hp
      have f_11 := Rp_el1 (D := D) r5 g10
      refine oke (e_cr (x_cv (q := 33) rfl rfl rfl rfl rfl rfl rfl rfl rfl rfl (is_ty r5 rfl f_7)) (ev_get1 a1 g10) (Nat.le_trans (by decide) hd) r5) (fun s8 r9 => ?_)
      refine ok (m_cast (q := 36) rfl rfl rfl (isN_ty r9 rfl f_11)) ?_
      refine ok (m_iload_n (q := 37) rfl rfl rfl rfl) ?_
      have g14 := hp
      refine oke (e_ci (x_cv (q := 40) rfl rfl rfl rfl rfl rfl rfl rfl rfl rfl (is_st r9 rfl rfl)) (ev_X1_addPlace (D := D) a1 a2 f_11 h2 g14) (Nat.le_trans (by decide) hd) r9) (fun s12 r13 => ?_)
      exact ok (m_reti rfl rfl) (ok_i r13 (Ev_rg (ev_X1_addPlace (D := D) a1 a2 f_11 h2 g14) r9))
theorem fl_X11_empty (D : aD) (a1 : Int) (a2 : Int) (t : Nat) (i : Int) (ht : Nat.ble t 49 = true) : u_X11_empty D a1 a2 (900 + t) i = D (900 + t) i := fl_if (rfl) (fl_if (rfl) ((fl_addPlace D a1 a2 t i ht).trans (rfl)))
theorem K_empty {p d x : Int} {D' : aD} (h1 : rg p) (h2 : rg d) (hu : 0 ≤ D 70 68 ∧ D 70 68 ≤ 6) (H : K_X12_empty_5 n A D p d (thr (D 124) p (D 70 68)) (D 70 68) x D') : K_X12_empty_5 n A D p d 0 0 x D' := by
  refine dn_ind (K := fun j => K_X12_empty_5 n A D p d (thr (D 124) p j) j x D') (lo := 0) (N := D 70 68) H ?_ 0 (by omega) (by omega)
  intro j j0 j1 ih
  have hb := thr_b (D 124) p j j0
  refine rl_X12_empty_5 _ _ _ _ h1 h2 (rgb (by omega) (by omega)) (by omega) (rgb (by omega) (by omega)) ?_
  rw [if_neg (by omega), wr1 j0 j1 (by omega)]
  rw [thr_s j0] at ih
  by_cases c1 : thr (D 124) p j = 0
  · rw [if_pos c1] at ih ⊢
    refine ⟨by omega, ?_⟩
    by_cases c2 : D 124 j = p
    · rw [if_pos c2] at ih ⊢; exact ih
    · rw [if_neg c2] at ih ⊢; exact ih
  · rw [if_neg c1] at ih ⊢; exact ih
theorem c_empty (hI : Inv D) (p d : Int) (h1 : rg p) (h2 : rg d) : Wr 99 200 [am_i (wz p), am_i (wz d)] A D := by
  have hc := hI.iv.ct; unfold I_ct at hc
  have hn := hI.iv.cn; unfold I_cn at hn
  have ht := thr_b (D 124) p (D 70 68) hn.1.2.1
  have pX : p_X11_empty D p d := by
    unfold p_X11_empty
    rw [xPl hI.iv, inb_eq]
    split
    · trivial
    split
    · trivial
    rename_i c1 c2
    have z := (isPl hI.iv).mp c1
    exact ⟨by omega, hI.iv, z⟩
  by_cases q : ¬ v_X12_isPlace D p = 0 ∧ ¬ v_X12_isIn D d 0 1999 = 0 ∧ thr (D 124) p (D 70 68) = 0 ∧ ¬ D 70 68 = 6
  · obtain ⟨q1, q2, q3, q4⟩ := q
    have z := (isPl hI.iv).mp q1
    have z2 := isI.mp q2
    have hnk : ∀ k, 0 ≤ k → k < D 70 68 → D 124 k ≠ p := by
      rcases ht with ⟨s1, s2⟩ | ⟨s1, _⟩
      · exact s2
      · omega
    have e1 : u_X11_empty D p d = up (up (up D 1200 (D 70 68) p) 64 (D 70 68) d) 62 7 (D 70 68 + 1) := by
      unfold u_X11_empty u_addPlace
      rw [xPl hI.iv, inb_eq, if_neg q1, if_neg q2, if_pos ⟨q3, q4⟩]
    have e3 : v_X11_empty D p d = D 70 68 + 1 := by
      unfold v_X11_empty w_addPlace
      rw [xPl hI.iv, inb_eq, if_neg q1, if_neg q2, if_pos ⟨q3, q4⟩]
    refine ⟨D 70 68 + 1, A, _, up (up (up (up (up (up D 1200 (D 70 68) p) 64 (D 70 68) d) 62 7 (D 70 68 + 1)) 124 (D 70 68) p) 125 (D 70 68) d) 70 68 (D 70 68 + 1), (Ev_i (Ev_D (ev_X11_empty (n := 0) p d h1 h2 pX) e1) e3).le (by decide), (rl_X12_empty (n := 0) p d h1 h2 ?_).le (by decide), ⟨?_, ?_⟩, ?_⟩
    · refine K_empty h1 h2 (by simp (disch := decide) only [up_cf]; omega) ?_
      simp (disch := decide) only [up_cf]
      refine rl_X12_empty_5 _ _ _ _ h1 h2 (rgb (by omega) (by omega)) (by omega) (rgb (by omega) (by omega)) ?_
      unfold v_X12_isPlace
      simp (disch := decide) only [up_cf]
      rw [if_pos (Int.le_refl _), if_neg (by exact q1), if_neg (by exact q2), if_pos q3, if_neg q4, wr_id (by omega) (by omega)]
      exact ⟨by omega, rfl, rfl⟩
    · obtain ⟨p1, p2, p3, p4, p5, p6, p7, p8, p9, p10, p11, p12, p13, p14, p15⟩ := hI.iv
      refine iv15 ?_ ?_ ?_ ?_ ?_ ?_ ?_ ?_ ?_ ?_ ?_ ?_ ?_ ?_ ?_
      · simpa (disch := decide) only [I_ct, up_cf, up_i, up_eq] using p1
      · simpa (disch := decide) only [I_cu, up_cf, up_i, up_eq] using p2
      · simpa (disch := decide) only [I_tp, up_cf, up_i, up_eq] using p3
      · simpa (disch := decide) only [I_lg, up_cf, up_i, up_eq] using p4
      · simpa (disch := decide) only [I_hs, up_cf, up_i, up_eq] using p5
      · simpa (disch := decide) only [I_sv, up_cf, up_i, up_eq] using p6
      · simpa (disch := decide) only [I_pl, up_cf, up_i, up_eq] using p7
      · simpa (disch := decide) only [I_pg, up_cf, up_i, up_eq] using p8
      · simpa (disch := decide) only [I_bx, up_cf, up_i, up_eq] using p9
      · simpa (disch := decide) only [I_tm, up_cf, up_i, up_eq] using p10
      · simpa (disch := decide) only [I_ak, v_X12_ageOn, up_cf, up_i, up_eq] using p11
      · simpa (disch := decide) only [I_ws, up_cf, up_i, up_eq] using p12
      · simpa (disch := decide) only [I_wf, up_cf, up_i, up_eq] using p13
      · simpa (disch := decide) only [I_td, up_cf, up_i, up_eq] using p14
      · simp (disch := decide) only [I_cn, up_cf, up_i, up_eq]
        refine ⟨⟨trivial, by omega, by omega⟩, hn.2.1, fun k k0 k1 => ?_, hn.2.2.2.1, hn.2.2.2.2.1, hn.2.2.2.2.2.1, hn.2.2.2.2.2.2.1, fun k k' k0 k1 k2 => ?_⟩
        · by_cases e : k = D 70 68
          · subst e; simp only [up_eq]; exact ⟨trivial, trivial, z.1, z.2, z2.1, z2.2⟩
          · simp only [up_i e]; exact hn.2.2.1 k k0 (by omega)
        · by_cases e : k' = D 70 68
          · subst e; rw [up_eq, up_i (by omega)]; exact hnk k k0 (by omega)
          · rw [up_i e, up_i (by omega)]; exact hn.2.2.2.2.2.2.2 k k' k0 k1 (by omega)
    · exact Irb_k (fun c q => by rw [up_cf (nrb q rfl), up_cf (nrb q rfl), up_cf (nrb q rfl), up_cf (nrb q rfl), up_cf (nrb q rfl), up_cf (nrb q rfl)]) (by simp (disch := decide) only [up_cf, up_i]; exact ⟨trivial, trivial⟩) (fun l _ => by simp (disch := decide) only [up_cf]) hI.rb
    · unfold Fr; simp (disch := decide) only [up_cf]; exact ⟨trivial, trivial, by omega, by omega, by first | exact id | trivial⟩
  · have hX : v_X11_empty D p d = -1 ∧ u_X11_empty D p d = D := by
      unfold v_X11_empty u_X11_empty w_addPlace u_addPlace
      rw [xPl hI.iv, inb_eq]
      by_cases c1 : v_X12_isPlace D p = 0
      · rw [if_pos c1, if_pos c1]; exact ⟨rfl, rfl⟩
      rw [if_neg c1, if_neg c1]
      by_cases c2 : v_X12_isIn D d 0 1999 = 0
      · rw [if_pos c2, if_pos c2]; exact ⟨rfl, rfl⟩
      rw [if_neg c2, if_neg c2, if_neg (fun z => q ⟨c1, c2, z⟩), if_neg (fun z => q ⟨c1, c2, z⟩)]; exact ⟨rfl, rfl⟩
    have hM : Ev 0 3 200 [am_r (some 70), am_i (wz p), am_i (wz d)] A D (ri (-1)) A D := by
      refine rl_X12_empty p d h1 h2 (K_empty h1 h2 (by omega) ?_)
      refine rl_X12_empty_5 _ _ _ _ h1 h2 (rgb (by omega) (by omega)) (by omega) (rgb (by omega) (by omega)) ?_
      rw [if_pos (Int.le_refl _)]
      by_cases c1 : v_X12_isPlace D p = 0
      · rw [if_pos c1]; exact ⟨rfl, rfl⟩
      rw [if_neg c1]
      by_cases c2 : v_X12_isIn D d 0 1999 = 0
      · rw [if_pos c2]; exact ⟨rfl, rfl⟩
      rw [if_neg c2]
      by_cases c3 : thr (D 124) p (D 70 68) = 0
      · rw [if_pos c3, if_pos (Decidable.not_not.mp (fun c4 => q ⟨c1, c2, c3, c4⟩))]; exact ⟨rfl, rfl⟩
      · rw [if_neg c3]; exact ⟨rfl, rfl⟩
    exact Rd.wr ⟨-1, (Ev_i (Ev_D (ev_X11_empty (n := 0) p d h1 h2 pX) hX.2) hX.1).le (by decide), hM.le (by decide)⟩ hI
/-- free: the class keeps its servants by their numbers -/
def frP (D : aD) (s j : Int) : Bool := decide (D 1201 j < s)
def fat (D : aD) (s : Int) : Int := cf (frP D s) (D 70 69)
theorem pre_cf {P : Int → Bool} {N : Int} (h : ∀ i j, 0 ≤ i → i < j → j < N → P j = true → P i = true) : ∀ j, 0 ≤ j → j ≤ N → ∀ i, 0 ≤ i → i < j → (P i = true ↔ i < cf P j) := by
  have key : ∀ m : Nat, (m : Int) ≤ N → ∀ i, 0 ≤ i → i < (m : Int) → (P i = true ↔ i < cf P m) := by
    intro m
    induction m with
    | zero => intro _ i i0 i1; omega
    | succ m ih =>
      intro hm i i0 i1
      have hb := cf_b (P := P) (m : Int) (by omega)
      rw [show ((m + 1 : Nat) : Int) = (m : Int) + 1 by omega, cf_s (by omega)]
      by_cases e : i = (m : Int)
      · subst e
        by_cases c : P m = true
        · rw [if_pos c]
          have hall : cf P m = m := by
            have hz := hb.2
            rcases Int.lt_or_eq_of_le hz with q | q
            · have q1 := ih (by omega) (cf P m) hb.1 q
              have q2 := h (cf P m) m hb.1 q (by omega) c
              have := q1.mp q2
              omega
            · exact q
          rw [hall]; exact ⟨fun _ => by omega, fun _ => c⟩
        · rw [if_neg c]; exact ⟨fun q => absurd q c, fun q => by omega⟩
      · have q := ih (by omega) i i0 (by omega)
        by_cases c : P m = true
        · rw [if_pos c]
          constructor
          · intro z; have := q.mp z; omega
          · intro z
            exact h i m i0 (by omega) (by omega) c
        · rw [if_neg c]; exact q
  intro j j0 j1 i i0 i1
  have := key j.toNat (by omega) i i0 (by omega)
  rwa [Int.toNat_of_nonneg j0] at this
theorem fat_sp (hI : Iv D) {s : Int} : ∀ j, 0 ≤ j → j < D 70 69 → (D 1201 j < s ↔ j < fat D s) := by
  have hn := hI.cn; unfold I_cn at hn
  intro j j0 j1
  have := pre_cf (P := frP D s) (N := D 70 69) (fun i j i0 ij j1 q => by
    unfold frP at *
    have q := of_decide_eq_true q
    have := hn.2.2.2.2.2.1 i j i0 ij j1
    exact decide_eq_true (by omega)) (D 70 69) (by omega) (Int.le_refl _) j j0 j1
  unfold frP at this
  rw [decide_eq_true_eq] at this
  exact this
def sh2 (D : aD) (a m : Int) : aD := fun c j => if (c = 1201 ∨ c = 66) ∧ a < j ∧ j ≤ m then D c (j - 1) else D c j
theorem sh2_c {a m : Int} {c : Nat} (h : ¬ (c = 1201 ∨ c = 66)) : sh2 D a m c = D c := by funext j; exact if_neg (fun e => h e.1)
def w_addServant (D : aD) (s _ : Int) : Int := if thr (D 126) s (D 70 69) = 0 ∧ ¬ D 70 69 = 6 then D 70 69 + 1 else -1
def u_addServant (D : aD) (s d : Int) : aD := if thr (D 126) s (D 70 69) = 0 ∧ ¬ D 70 69 = 6 then up (up (up (sh2 D (fat D s) (D 70 69)) 1201 (fat D s) s) 66 (fat D s) d) 62 8 (D 70 69 + 1) else D
def p_addServant (D : aD) (s _ : Int) : Prop := Iv D ∧ 0 ≤ s ∧ s < D 70 1
theorem K_add81 {s d : Int} (hI : Iv D) (f1 : D 910 s = 1) (h2 : rg d) (hs : 0 ≤ s ∧ s < D 70 1) (h6 : D 70 69 < 6) (ha : 0 ≤ fat D s ∧ fat D s ≤ D 70 69) : ∀ m : Nat, fat D s + m ≤ D 70 69 → K_X1_addServant_81 n A (sh2 D (fat D s + m) (D 70 69)) s d (fat D s) (fat D s + m) (D 70 69 + 1) (up (up (up (sh2 D (fat D s) (D 70 69)) 1201 (fat D s) s) 66 (fat D s) d) 62 8 (D 70 69 + 1)) := by
  have hct := hI.ct; unfold I_ct at hct
  have hn := hI.cn; unfold I_cn at hn
  generalize fat D s = a at *
  intro m
  induction m with
  | zero =>
    intro hm
    rw [show a + ((0 : Nat) : Int) = a by omega]
    refine rl_X1_addServant_81 _ _ _ _ (by rw [sh2_c (by decide)]; exact f1) h2 (rgb (by omega) (by omega)) (rgb (by omega) (by omega)) ?_
    rw [if_pos (Int.le_refl _), sh2_c (c := 62) (by decide), hn.2.1.1, wr_id (by omega) (by omega)]
    exact ⟨by omega, by omega, rfl, rfl⟩
  | succ m ih =>
    intro hm
    have i1 := ih (by omega)
    have hm1 : wr (a + ((m + 1 : Nat) : Int) - 1) = a + m := by rw [wr_id (by omega) (by omega)]; omega
    have hm2 : wr (a + ((m + 1 : Nat) : Int) + -1) = a + m := by rw [wr_id (by omega) (by omega)]; omega
    have hv : ∀ c, sh2 D (a + ((m + 1 : Nat) : Int)) (D 70 69) c (a + m) = D c (a + m) := fun c => if_neg (fun e => by omega)
    obtain ⟨k, k0, k1, k2, _⟩ := hn.2.2.2.2.1 (a + m) (by omega) (by omega)
    have hk := hn.2.2.2.1 k k0 k1
    refine rl_X1_addServant_81 _ _ _ _ (by rw [sh2_c (by decide)]; exact f1) h2 (rgb (by omega) (by omega)) (rgb (by omega) (by omega)) ?_
    rw [if_neg (by omega), hm1, hm2, hv, hv]
    refine ⟨by omega, by omega, by omega, by omega, ?_⟩
    refine Eq.mp ?_ i1
    congr 1
    funext c j
    show (if (c = 1201 ∨ c = 66) ∧ a + (m : Int) < j ∧ j ≤ D 70 69 then D c (j - 1) else D c j) = if c = 66 ∧ j = a + ((m + 1 : Nat) : Int) then D 66 (a + m) else if c = 1201 ∧ j = a + ((m + 1 : Nat) : Int) then D 1201 (a + m) else if (c = 1201 ∨ c = 66) ∧ a + ((m + 1 : Nat) : Int) < j ∧ j ≤ D 70 69 then D c (j - 1) else D c j
    by_cases ej : j = a + ((m + 1 : Nat) : Int)
    · have e2 : j - 1 = a + m := by omega
      by_cases c1 : c = 66
      · rw [if_pos ⟨Or.inr c1, by omega, by omega⟩, if_pos ⟨c1, ej⟩, e2, c1]
      · rw [if_neg (c := c = 66 ∧ j = a + ((m + 1 : Nat) : Int)) (fun z => c1 z.1)]
        by_cases c2 : c = 1201
        · rw [if_pos ⟨Or.inl c2, by omega, by omega⟩, if_pos ⟨c2, ej⟩, e2, c2]
        · rw [if_neg (fun z => z.1.elim c2 c1), if_neg (fun z => c2 z.1), if_neg (fun z => z.1.elim c2 c1)]
    · rw [if_neg (c := c = 66 ∧ j = a + ((m + 1 : Nat) : Int)) (fun z => ej z.2), if_neg (c := c = 1201 ∧ j = a + ((m + 1 : Nat) : Int)) (fun z => ej z.2)]
      by_cases cc : (c = 1201 ∨ c = 66) ∧ a + (m : Int) < j ∧ j ≤ D 70 69
      · rw [if_pos cc, if_pos ⟨cc.1, by omega, cc.2.2⟩]
      · rw [if_neg cc, if_neg (fun z => cc ⟨z.1, by omega, z.2.2⟩)]
theorem ev_X1_addServant (s d : Int) (f1 : D 910 s = 1) (h2 : rg d) (hp : p_addServant D s d) : Ev n 1 5 [am_r (some 62), am_r (some (A 10 s)), am_i (wz d)] A D (ri (w_addServant D s d)) A (u_addServant D s d) := by
  obtain ⟨hI, hs⟩ := hp
  have hn := hI.cn; unfold I_cn at hn
  have hsv := hI.sv s hs.1 hs.2
  have hsj : ∀ j, 0 ≤ j → j < D 70 69 → (0 ≤ D 1201 j ∧ D 1201 j < D 70 1) ∧ D 2000 (D 1201 j) = D 1201 j := fun j j0 j1 => by
    obtain ⟨k, k0, k1, k2, _⟩ := hn.2.2.2.2.1 j j0 j1
    have hk := hn.2.2.2.1 k k0 k1
    exact ⟨by omega, (hI.sv (D 1201 j) (by omega) (by omega)).1⟩
  refine rl_X1_addServant s d f1 h2 ?_
  have ht := thr_b (D 126) s (D 70 69) hn.2.1.2.1
  by_cases c : thr (D 126) s (D 70 69) = 0
  · have hk : ∀ j, 0 ≤ j → j < D 70 69 → D 1201 j ≠ s := by
      rcases ht with ⟨s1, s2⟩ | ⟨s1, _⟩
      · intro j j0 j1
        obtain ⟨k, k0, k1, k2, _⟩ := hn.2.2.2.2.1 j j0 j1
        rw [k2]; exact s2 k k0 k1
      · omega
    refine dn_ind (K := fun j => K_X1_addServant_5 n A D s d (cf (frP D s) j) j (w_addServant D s d) (u_addServant D s d)) (lo := 0) (N := D 70 69) ?_ ?_ 0 (by omega) (by omega)
    · have hb := cf_b (P := frP D s) (D 70 69) (by omega)
      refine rl_X1_addServant_5 _ _ _ _ f1 h2 (rgb (by omega) (by omega)) (rgb (by omega) (by omega)) ?_
      rw [if_pos (by omega)]
      unfold w_addServant u_addServant
      by_cases c2 : D 70 69 = 6
      · rw [if_neg (by omega), if_neg (fun z => z.2 c2), if_neg (fun z => z.2 c2)]; exact ⟨rfl, rfl⟩
      · rw [if_pos (by omega), if_pos ⟨c, c2⟩, if_pos ⟨c, c2⟩, hn.2.1.1]
        have K := K_add81 (n := n) (A := A) hI f1 h2 hs (by omega) hb (D 70 69 - fat D s).toNat (by unfold fat; omega)
        rw [show fat D s + ((D 70 69 - fat D s).toNat : Int) = D 70 69 by unfold fat; omega] at K
        have e : sh2 D (D 70 69) (D 70 69) = D := by funext c j; exact if_neg (fun z => by omega)
        rw [e] at K; exact K
    · intro j j0 j1 ih
      have hb := cf_b (P := frP D s) j j0
      have hj := hsj j j0 j1
      refine rl_X1_addServant_5 _ _ _ _ f1 h2 (rgb (by omega) (by omega)) (rgb (by omega) (by omega)) ?_
      rw [if_neg (by omega), hj.2, hsv.1, if_neg (hk j j0 j1), wr1 j0 j1 (by omega), wr_id (by omega) (by omega), wr_id (by omega) (by omega)]
      refine ⟨by omega, ?_⟩
      rw [cf_s j0] at ih
      by_cases c2 : D 1201 j < s
      · rw [if_neg (by omega)]; rw [if_pos (by unfold frP; exact decide_eq_true c2)] at ih; exact ih
      · rw [if_pos (by omega)]; rw [if_neg (by unfold frP; simpa using c2)] at ih; rw [Int.add_zero]; exact ih
  · obtain ⟨k, k0, k1, k2⟩ : ∃ k, 0 ≤ k ∧ k < D 70 69 ∧ D 1201 k = s := by
      rcases ht with ⟨s1, s2⟩ | ⟨s1, k, k0, k1, k2⟩
      · omega
      · obtain ⟨_, _, _, _, j, j0, j1, j2, _⟩ := hn.2.2.2.1 k k0 k1
        exact ⟨j, j0, j1, j2.trans k2⟩
    have ew : w_addServant D s d = -1 ∧ u_addServant D s d = D := by
      unfold w_addServant u_addServant; rw [if_neg (fun z => c z.1), if_neg (fun z => c z.1)]; exact ⟨rfl, rfl⟩
    rw [ew.1, ew.2]
    refine dn_ind (K := fun j => K_X1_addServant_5 n A D s d (cf (frP D s) j) j (-1) D) (lo := 0) (N := k) ?_ ?_ 0 (by omega) (by omega)
    · have hb := cf_b (P := frP D s) k k0
      have hj := hsj k k0 k1
      refine rl_X1_addServant_5 _ _ _ _ f1 h2 (rgb (by omega) (by omega)) (rgb (by omega) (by omega)) ?_
      rw [if_neg (by omega), hj.2, hsv.1, if_pos k2]
      exact ⟨by omega, rfl, rfl⟩
    · intro j j0 j1 ih
      have hb := cf_b (P := frP D s) j j0
      have hj := hsj j j0 (by omega)
      refine rl_X1_addServant_5 _ _ _ _ f1 h2 (rgb (by omega) (by omega)) (rgb (by omega) (by omega)) ?_
      rw [if_neg (by omega), hj.2, hsv.1, wr1 j0 j1 (by omega), wr_id (by omega) (by omega), wr_id (by omega) (by omega)]
      refine ⟨by omega, ?_⟩
      rw [cf_s j0] at ih
      by_cases c3 : D 1201 j = s
      · rw [if_pos c3]; exact ⟨rfl, rfl⟩
      rw [if_neg c3]
      by_cases c2 : D 1201 j < s
      · rw [if_neg (by omega)]; rw [if_pos (by unfold frP; exact decide_eq_true c2)] at ih; exact ih
      · rw [if_pos (by omega)]; rw [if_neg (by unfold frP; simpa using c2)] at ih; rw [Int.add_zero]; exact ih
theorem fl_addServant (D : aD) (s d : Int) (t : Nat) (i : Int) (ht : Nat.ble t 49 = true) : u_addServant D s d (900 + t) i = D (900 + t) i := by
  unfold u_addServant
  split
  · rw [up_c (fl_ne rfl ht), up_c (fl_ne rfl ht), up_c (fl_ne rfl ht), sh2_c (fun z => by have := Nat.le_of_ble_eq_true ht; omega)]
  · rfl
abbrev P_X11_free : Nat → Option am_E := am_fy tb_X11_free
def v_X11_free (D : aD) (a1 : Int) (a2 : Int) : Int := if v_X11_isServant D a1 = 0 then (-1) else if v_X11_between D a2 0 1999 = 0 then (-1) else w_addServant D a1 a2
def u_X11_free (D : aD) (a1 : Int) (a2 : Int) : aD := if v_X11_isServant D a1 = 0 then D else if v_X11_between D a2 0 1999 = 0 then D else (u_addServant D a1 a2)
def p_X11_free (D : aD) (a1 : Int) (a2 : Int) : Prop := (if v_X11_isServant D a1 = 0 then True else (if v_X11_between D a2 0 1999 = 0 then True else (0 ≤ a1 ∧ a1 < D 1002 0) ∧ (p_addServant D a1 a2)))
set_option maxRecDepth 100000 in
theorem ev_X11_free {n : Nat} {A : aA} {D : aD} (a1 : Int) (a2 : Int) (h1 : rg a1) (h2 : rg a2) (hp : p_X11_free D a1 a2) : Ev (n) 5 100 [am_r (some 32), am_i (wz a1), am_i (wz a2)] A D (ri (v_X11_free D a1 a2)) A (u_X11_free D a1 a2) := by
  unfold p_X11_free at hp
  unfold v_X11_free u_X11_free
  refine Ev_of (c := 4) (P := P_X11_free) (lo := [some (am_r (some 32)), some (am_i (wz a1)), some (am_i (wz a2))]) rfl rfl rfl (fun d hd s hr => ?_)
  refine ok (m_aload_n (q := 1) rfl rfl rfl rfl) ?_
  refine ok (m_iload_n (q := 2) rfl rfl rfl rfl) ?_
  refine oke (e_ci (x_cv (q := 5) rfl rfl rfl rfl rfl rfl rfl rfl rfl rfl (is_st hr rfl rfl)) (ev_X11_isServant (D := D) a1 h1) (Nat.le_trans (by decide) hd) hr) (fun s1 r2 => ?_)
  refine okf (m_ifeq (qt := 19) (qf := 8) rfl rfl (Ev_rg (ev_X11_isServant (D := D) a1 h1) hr) rfl rfl) (fun c3 => ?_) (fun c3 => ?_)
  · refine ok (m_iconst (q := 20) rfl rfl rfl) ?_
    exact ok (m_reti rfl rfl) (ok_i r2 ⟨by decide, by decide⟩)
  · replace hp := iq c3 hp
    refine ok (m_iload_n (q := 9) rfl rfl rfl rfl) ?_
    refine ok (m_iconst (q := 10) rfl rfl rfl) ?_
    refine ok (m_sipush (q := 13) rfl rfl rfl) ?_
    refine oke (e_ci (x_cs (q := 16) rfl rfl rfl rfl rfl rfl rfl rfl rfl) (ev_X11_between (D := D) a2 0 1999 h2 ⟨by decide, by decide⟩ ⟨by decide, by decide⟩) (Nat.le_trans (by decide) hd) r2) (fun s4 r5 => ?_)
    refine okf (m_ifne (qt := 21) (qf := 19) rfl rfl (Ev_rg (ev_X11_between (D := D) a2 0 1999 h2 ⟨by decide, by decide⟩ ⟨by decide, by decide⟩) r2) rfl rfl) (fun c6 => ?_) (fun c6 => ?_)
    · refine ok (m_iconst (q := 20) rfl rfl rfl) ?_
      exact ok (m_reti rfl rfl) (ok_i r5 ⟨by decide, by decide⟩)
    · replace hp := iq c6 hp
      refine ok (m_aload_n (q := 22) rfl rfl rfl rfl) ?_
      refine ok (m_gfc (q := 25) rfl rfl rfl r5 rfl rfl rfl) ?_
      refine ok (m_aload_n (q := 26) rfl rfl rfl rfl) ?_
      have f_7 := Rp_fx0_0 r5
      refine ok (m_gfy (q := 29) rfl rfl rfl r5 rfl rfl rfl) ?_
      refine ok (m_iload_n (q := 30) rfl rfl rfl rfl) ?_
      obtain ⟨g10, hp⟩ := hp
      have f_11 := Rp_el0 (D := D) r5 g10
      refine oke (e_cr (x_cv (q := 33) rfl rfl rfl rfl rfl rfl rfl rfl rfl rfl (is_ty r5 rfl f_7)) (ev_get0 a1 g10) (Nat.le_trans (by decide) hd) r5) (fun s8 r9 => ?_)
      refine ok (m_cast (q := 36) rfl rfl rfl (isN_ty r9 rfl f_11)) ?_
      refine ok (m_iload_n (q := 37) rfl rfl rfl rfl) ?_
      have g14 := hp
      refine oke (e_ci (x_cv (q := 40) rfl rfl rfl rfl rfl rfl rfl rfl rfl rfl (is_st r9 rfl rfl)) (ev_X1_addServant (D := D) a1 a2 f_11 h2 g14) (Nat.le_trans (by decide) hd) r9) (fun s12 r13 => ?_)
      exact ok (m_reti rfl rfl) (ok_i r13 (Ev_rg (ev_X1_addServant (D := D) a1 a2 f_11 h2 g14) r9))
theorem fl_X11_free (D : aD) (a1 : Int) (a2 : Int) (t : Nat) (i : Int) (ht : Nat.ble t 49 = true) : u_X11_free D a1 a2 (900 + t) i = D (900 + t) i := fl_if (rfl) (fl_if (rfl) ((fl_addServant D a1 a2 t i ht).trans (rfl)))
theorem K_free {s d x : Int} {D' : aD} (h1 : rg s) (h2 : rg d) (hu : 0 ≤ D 70 69 ∧ D 70 69 ≤ 6) (H : K_X12_free_5 n A D s d (thr (D 126) s (D 70 69)) (D 70 69) x D') : K_X12_free_5 n A D s d 0 0 x D' := by
  refine dn_ind (K := fun j => K_X12_free_5 n A D s d (thr (D 126) s j) j x D') (lo := 0) (N := D 70 69) H ?_ 0 (by omega) (by omega)
  intro j j0 j1 ih
  have hb := thr_b (D 126) s j j0
  refine rl_X12_free_5 _ _ _ _ h1 h2 (rgb (by omega) (by omega)) (by omega) (rgb (by omega) (by omega)) ?_
  rw [if_neg (by omega), wr1 j0 j1 (by omega)]
  rw [thr_s j0] at ih
  by_cases c1 : thr (D 126) s j = 0
  · rw [if_pos c1] at ih ⊢
    refine ⟨by omega, ?_⟩
    by_cases c2 : D 126 j = s
    · rw [if_pos c2] at ih ⊢; exact ih
    · rw [if_neg c2] at ih ⊢; exact ih
  · rw [if_neg c1] at ih ⊢; exact ih
theorem c_free (hI : Inv D) (s d : Int) (h1 : rg s) (h2 : rg d) : Wr 100 201 [am_i (wz s), am_i (wz d)] A D := by
  have hc := hI.iv.ct; unfold I_ct at hc
  have hn := hI.iv.cn; unfold I_cn at hn
  have ht := thr_b (D 126) s (D 70 69) hn.2.1.2.1
  have pX : p_X11_free D s d := by
    unfold p_X11_free
    rw [xSv hI.iv, inb_eq]
    split
    · trivial
    split
    · trivial
    rename_i c1 c2
    have z := (isSv hI.iv).mp c1
    exact ⟨by omega, hI.iv, z⟩
  by_cases q : ¬ v_X12_isServant D s = 0 ∧ ¬ v_X12_isIn D d 0 1999 = 0 ∧ thr (D 126) s (D 70 69) = 0 ∧ ¬ D 70 69 = 6
  · obtain ⟨q1, q2, q3, q4⟩ := q
    have z := (isSv hI.iv).mp q1
    have z2 := isI.mp q2
    have hnk : ∀ k, 0 ≤ k → k < D 70 69 → D 126 k ≠ s := by
      rcases ht with ⟨s1, s2⟩ | ⟨s1, _⟩
      · exact s2
      · omega
    have hfs := fat_sp hI.iv (s := s)
    have hfb := cf_b (P := frP D s) (D 70 69) (by omega)
    have e1 : u_X11_free D s d = up (up (up (sh2 D (fat D s) (D 70 69)) 1201 (fat D s) s) 66 (fat D s) d) 62 8 (D 70 69 + 1) := by
      unfold u_X11_free u_addServant
      rw [xSv hI.iv, inb_eq, if_neg q1, if_neg q2, if_pos ⟨q3, q4⟩]
    have e3 : v_X11_free D s d = D 70 69 + 1 := by
      unfold v_X11_free w_addServant
      rw [xSv hI.iv, inb_eq, if_neg q1, if_neg q2, if_pos ⟨q3, q4⟩]
    have hfe : fat D s = cf (frP D s) (D 70 69) := rfl
    rw [← hfe] at hfb
    generalize fat D s = a at *
    have hS : ∀ c : Nat, ¬ (c = 1201 ∨ c = 66) → sh2 D a (D 70 69) c = D c := fun c q => sh2_c q
    refine ⟨D 70 69 + 1, A, _, up (up (up (up (up (up (sh2 D a (D 70 69)) 1201 a s) 66 a d) 62 8 (D 70 69 + 1)) 126 (D 70 69) s) 127 (D 70 69) d) 70 69 (D 70 69 + 1), (Ev_i (Ev_D (ev_X11_free (n := 0) s d h1 h2 pX) e1) e3).le (by decide), (rl_X12_free (n := 0) s d h1 h2 ?_).le (by decide), ⟨?_, ?_⟩, ?_⟩
    · refine K_free h1 h2 (by simp (disch := decide) only [up_cf, hS]; omega) ?_
      simp (disch := decide) only [up_cf, hS]
      refine rl_X12_free_5 _ _ _ _ h1 h2 (rgb (by omega) (by omega)) (by omega) (rgb (by omega) (by omega)) ?_
      unfold v_X12_isServant
      simp (disch := decide) only [up_cf, hS]
      rw [if_pos (Int.le_refl _), if_neg (by exact q1), if_neg (by exact q2), if_pos q3, if_neg q4, wr_id (by omega) (by omega)]
      exact ⟨by omega, rfl, rfl⟩
    · obtain ⟨p1, p2, p3, p4, p5, p6, p7, p8, p9, p10, p11, p12, p13, p14, p15⟩ := hI.iv
      refine iv15 ?_ ?_ ?_ ?_ ?_ ?_ ?_ ?_ ?_ ?_ ?_ ?_ ?_ ?_ ?_
      · simpa (disch := decide) only [I_ct, up_cf, up_i, up_eq, hS] using p1
      · simpa (disch := decide) only [I_cu, up_cf, up_i, up_eq, hS] using p2
      · simpa (disch := decide) only [I_tp, up_cf, up_i, up_eq, hS] using p3
      · simpa (disch := decide) only [I_lg, up_cf, up_i, up_eq, hS] using p4
      · simpa (disch := decide) only [I_hs, up_cf, up_i, up_eq, hS] using p5
      · simpa (disch := decide) only [I_sv, up_cf, up_i, up_eq, hS] using p6
      · simpa (disch := decide) only [I_pl, up_cf, up_i, up_eq, hS] using p7
      · simpa (disch := decide) only [I_pg, up_cf, up_i, up_eq, hS] using p8
      · simpa (disch := decide) only [I_bx, up_cf, up_i, up_eq, hS] using p9
      · simpa (disch := decide) only [I_tm, up_cf, up_i, up_eq, hS] using p10
      · simpa (disch := decide) only [I_ak, v_X12_ageOn, up_cf, up_i, up_eq, hS] using p11
      · simpa (disch := decide) only [I_ws, up_cf, up_i, up_eq, hS] using p12
      · simpa (disch := decide) only [I_wf, up_cf, up_i, up_eq, hS] using p13
      · simpa (disch := decide) only [I_td, up_cf, up_i, up_eq, hS] using p14
      · have nS : ∀ j, 0 ≤ j → j < D 70 69 + 1 → up (sh2 D a (D 70 69)) 1201 a s 1201 j = (if j < a then D 1201 j else if j = a then s else D 1201 (j - 1)) := fun j j0 j1 => by
          by_cases c1 : j = a
          · rw [c1, up_eq, if_neg (by omega), if_pos rfl]
          · rw [up_i c1]
            show (if (1201 = 1201 ∨ 1201 = 66) ∧ a < j ∧ j ≤ D 70 69 then D 1201 (j - 1) else D 1201 j) = _
            by_cases c2 : j < a
            · rw [if_neg (fun z => by omega), if_pos c2]
            · rw [if_pos ⟨Or.inl rfl, by omega, by omega⟩, if_neg c2, if_neg c1]
        have nF : ∀ j, 0 ≤ j → j < D 70 69 + 1 → up (up (sh2 D a (D 70 69)) 1201 a s) 66 a d 66 j = (if j < a then D 66 j else if j = a then d else D 66 (j - 1)) := fun j j0 j1 => by
          by_cases c1 : j = a
          · rw [c1, up_eq, if_neg (by omega), if_pos rfl]
          · rw [up_i c1, up_c (by decide)]
            show (if (66 = 1201 ∨ 66 = 66) ∧ a < j ∧ j ≤ D 70 69 then D 66 (j - 1) else D 66 j) = _
            by_cases c2 : j < a
            · rw [if_neg (fun z => by omega), if_pos c2]
            · rw [if_pos ⟨Or.inr rfl, by omega, by omega⟩, if_neg c2, if_neg c1]
        simp (disch := decide) only [I_cn, up_cf (c := 62), up_cf (c := 70), up_cf (c := 126), up_cf (c := 127), up_cf (c := 66) (c' := 1201), up_cf (c := 66) (c' := 62), up_cf (c := 66) (c' := 70), up_cf (c := 66) (c' := 1200), up_cf (c := 66) (c' := 64), up_cf (c := 66) (c' := 124), up_cf (c := 66) (c' := 125), up_cf (c := 66) (c' := 126), up_cf (c := 66) (c' := 127), up_cf (c := 1201) (c' := 62), up_cf (c := 1201) (c' := 70), up_cf (c := 1201) (c' := 1200), up_cf (c := 1201) (c' := 64), up_cf (c := 1201) (c' := 124), up_cf (c := 1201) (c' := 125), up_cf (c := 1201) (c' := 126), up_cf (c := 1201) (c' := 127), up_i, up_eq, hS]
        refine ⟨hn.1, ⟨trivial, by omega, by omega⟩, hn.2.2.1, fun k k0 k1 => ?_, fun j j0 j1 => ?_, fun j j' j0 jj j1 => ?_, fun k k' k0 k1 k2 => ?_, hn.2.2.2.2.2.2.2⟩
        · by_cases e : k = D 70 69
          · subst e; simp only [up_eq]
            exact ⟨z.1, z.2, z2.1, z2.2, a, by omega, by omega, up_eq, up_eq⟩
          · simp only [up_i e]
            obtain ⟨r1, r2, r3, r4, j, r5, r6, r7, r8⟩ := hn.2.2.2.1 k k0 (by omega)
            refine ⟨r1, r2, r3, r4, if j < a then j else j + 1, by split <;> omega, by split <;> omega, ?_, ?_⟩
            · rw [nS _ (by split <;> omega) (by split <;> omega)]
              by_cases c : j < a
              · rw [if_pos c, if_pos c]; exact r7
              · rw [if_neg c, if_neg (by omega), if_neg (by omega), show j + 1 - 1 = j by omega]; exact r7
            · rw [nF _ (by split <;> omega) (by split <;> omega)]
              by_cases c : j < a
              · rw [if_pos c, if_pos c]; exact r8
              · rw [if_neg c, if_neg (by omega), if_neg (by omega), show j + 1 - 1 = j by omega]; exact r8
        · rw [nS j j0 j1, nF j j0 j1]
          by_cases c1 : j = a
          · refine ⟨D 70 69, by omega, by omega, ?_, ?_⟩
            · rw [up_eq, if_neg (by omega), if_pos c1]
            · rw [up_eq, if_neg (by omega), if_pos c1]
          · obtain ⟨k, r1, r2, r3, r4⟩ := hn.2.2.2.2.1 (if j < a then j else j - 1) (by split <;> omega) (by split <;> omega)
            refine ⟨k, r1, by omega, ?_, ?_⟩
            · rw [up_i (by omega)]
              by_cases c : j < a
              · rw [if_pos c]; rw [if_pos c] at r3; exact r3
              · rw [if_neg c, if_neg c1]; rw [if_neg c] at r3; exact r3
            · rw [up_i (by omega)]
              by_cases c : j < a
              · rw [if_pos c]; rw [if_pos c] at r4; exact r4
              · rw [if_neg c, if_neg c1]; rw [if_neg c] at r4; exact r4
        · rw [nS j j0 (by omega), nS j' (by omega) j1]
          have hne : ∀ i, 0 ≤ i → i < D 70 69 → D 1201 i ≠ s := fun i i0 i1 => by
            obtain ⟨k, k0, k1, k2, _⟩ := hn.2.2.2.2.1 i i0 i1
            rw [k2]; exact hnk k k0 k1
          by_cases c1 : j < a
          · rw [if_pos c1]
            have s1 := (hfs j j0 (by omega)).mpr c1
            by_cases c2 : j' < a
            · rw [if_pos c2]; exact hn.2.2.2.2.2.1 j j' j0 jj (by omega)
            · rw [if_neg c2]
              by_cases c3 : j' = a
              · rw [if_pos c3]; exact s1
              · rw [if_neg c3]
                have s2 := hfs (j' - 1) (by omega) (by omega)
                have s3 := hne (j' - 1) (by omega) (by omega)
                omega
          · rw [if_neg c1, if_neg (by omega : ¬ j' < a), if_neg (by omega : ¬ j' = a)]
            have s2 := hfs (j' - 1) (by omega) (by omega)
            have s3 := hne (j' - 1) (by omega) (by omega)
            by_cases c3 : j = a
            · rw [if_pos c3]; omega
            · rw [if_neg c3]; exact hn.2.2.2.2.2.1 (j - 1) (j' - 1) (by omega) (by omega) (by omega)
        · by_cases e : k' = D 70 69
          · subst e; rw [up_eq, up_i (by omega)]; exact hnk k k0 (by omega)
          · rw [up_i e, up_i (by omega)]; exact hn.2.2.2.2.2.2.1 k k' k0 k1 (by omega)
    · exact Irb_k (fun c q => by rw [up_cf (nrb q rfl), up_cf (nrb q rfl), up_cf (nrb q rfl), up_cf (nrb q rfl), up_cf (nrb q rfl), up_cf (nrb q rfl), hS c (fun z => by rcases z with rfl | rfl <;> cases q)]) (by simp (disch := decide) only [up_cf, up_i, hS]; exact ⟨trivial, trivial⟩) (fun l _ => by simp (disch := decide) only [up_cf, hS]) hI.rb
    · unfold Fr; simp (disch := decide) only [up_cf, hS]; exact ⟨trivial, trivial, by omega, by omega, by first | exact id | trivial⟩
  · have hX : v_X11_free D s d = -1 ∧ u_X11_free D s d = D := by
      unfold v_X11_free u_X11_free w_addServant u_addServant
      rw [xSv hI.iv, inb_eq]
      by_cases c1 : v_X12_isServant D s = 0
      · rw [if_pos c1, if_pos c1]; exact ⟨rfl, rfl⟩
      rw [if_neg c1, if_neg c1]
      by_cases c2 : v_X12_isIn D d 0 1999 = 0
      · rw [if_pos c2, if_pos c2]; exact ⟨rfl, rfl⟩
      rw [if_neg c2, if_neg c2, if_neg (fun z => q ⟨c1, c2, z⟩), if_neg (fun z => q ⟨c1, c2, z⟩)]; exact ⟨rfl, rfl⟩
    have hM : Ev 0 3 201 [am_r (some 70), am_i (wz s), am_i (wz d)] A D (ri (-1)) A D := by
      refine rl_X12_free s d h1 h2 (K_free h1 h2 (by omega) ?_)
      refine rl_X12_free_5 _ _ _ _ h1 h2 (rgb (by omega) (by omega)) (by omega) (rgb (by omega) (by omega)) ?_
      rw [if_pos (Int.le_refl _)]
      by_cases c1 : v_X12_isServant D s = 0
      · rw [if_pos c1]; exact ⟨rfl, rfl⟩
      rw [if_neg c1]
      by_cases c2 : v_X12_isIn D d 0 1999 = 0
      · rw [if_pos c2]; exact ⟨rfl, rfl⟩
      rw [if_neg c2]
      by_cases c3 : thr (D 126) s (D 70 69) = 0
      · rw [if_pos c3, if_pos (Decidable.not_not.mp (fun c4 => q ⟨c1, c2, c3, c4⟩))]; exact ⟨rfl, rfl⟩
      · rw [if_neg c3]; exact ⟨rfl, rfl⟩
    exact Rd.wr ⟨-1, (Ev_i (Ev_D (ev_X11_free (n := 0) s d h1 h2 pX) hX.2) hX.1).le (by decide), hM.le (by decide)⟩ hI
end W4
