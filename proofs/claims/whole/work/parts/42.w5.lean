/-! Like asks; who stayed; habits. -/
section W5
variable {n : Nat} {A : aA} {D : aD}
abbrev P_X12_areLike : Nat → Option am_E := am_fy tb_X12_areLike
def v_X12_areLike (D : aD) (a1 : Int) (a2 : Int) : Int := if a1 = a2 then 0 else if D 133 a1 = D 133 a2 then 0 else if D 78 (D 131 a1) = D 78 (D 131 a2) then if D 77 (D 131 a1) = D 77 (D 131 a2) then if w_bits D (D 72 (D 130 a1)) = w_bits D (D 72 (D 130 a2)) then if 5 < wr ((wr ((v_X12_ageOn D (D 130 a1) (D 132 a1)) - (v_X12_ageOn D (D 130 a2) (D 132 a2)))).natAbs : Int) then 0 else 1 else 0 else 0 else 0
def p_X12_areLike (D : aD) (a1 : Int) (a2 : Int) : Prop := (0 ≤ a1 ∧ a1 < 60) ∧ (0 ≤ a2 ∧ a2 < 60) ∧ (if a1 = a2 then True else (if D 133 a1 = D 133 a2 then True else (0 ≤ D 131 a1 ∧ D 131 a1 < 30) ∧ (0 ≤ D 131 a2 ∧ D 131 a2 < 30) ∧ (if D 78 (D 131 a1) = D 78 (D 131 a2) then (if D 77 (D 131 a1) = D 77 (D 131 a2) then (0 ≤ D 130 a1 ∧ D 130 a1 < 24) ∧ (p_bits D (D 72 (D 130 a1))) ∧ (0 ≤ D 130 a2 ∧ D 130 a2 < 24) ∧ (p_bits D (D 72 (D 130 a2))) ∧ (if w_bits D (D 72 (D 130 a1)) = w_bits D (D 72 (D 130 a2)) then (p_X12_ageOn D (D 130 a1) (D 132 a1)) ∧ (p_X12_ageOn D (D 130 a2) (D 132 a2)) else True) else True) else True)))
theorem b_X12_areLike (D : aD) (a1 : Int) (a2 : Int) : 0 ≤ v_X12_areLike D a1 a2 ∧ v_X12_areLike D a1 a2 ≤ 1 := b01 (fun c3 => ⟨by decide, by decide⟩) (fun c3 => b01 (fun c4 => ⟨by decide, by decide⟩) (fun c4 => b01 (fun c7 => b01 (fun c8 => b01 (fun c17 => b01 (fun c24 => ⟨by decide, by decide⟩) (fun c24 => ⟨by decide, by decide⟩)) (fun c17 => ⟨by decide, by decide⟩)) (fun c8 => ⟨by decide, by decide⟩)) (fun c7 => ⟨by decide, by decide⟩)))
set_option maxRecDepth 100000 in
theorem ev_X12_areLike {n : Nat} {A : aA} {D : aD} (a1 : Int) (a2 : Int) (h1 : rg a1) (h2 : rg a2) (hp : p_X12_areLike D a1 a2) : Ev (n) 2 206 [am_r (some 70), am_i (wz a1), am_i (wz a2)] A D (ri (v_X12_areLike D a1 a2)) A D := by
  unfold p_X12_areLike at hp
  unfold v_X12_areLike
  refine Ev_of (c := 1) (P := P_X12_areLike) (lo := [some (am_r (some 70)), some (am_i (wz a1)), some (am_i (wz a2)), none, none]) rfl rfl rfl (fun d hd s hr => ?_)
  refine ok (m_aload_n (q := 1) rfl rfl rfl rfl) ?_
  refine ok (m_gfc (q := 4) rfl rfl rfl hr rfl rfl rfl) ?_
  refine ok (m_iload_n (q := 5) rfl rfl rfl rfl) ?_
  obtain ⟨g1, hp⟩ := hp
  refine ok (m_ials (q := 6) rfl rfl rfl hr rfl rfl g1 rfl) ?_
  refine ok (m_istore_n (q := 7) (lo' := [some (am_r (some 70)), some (am_i (wz a1)), some (am_i (wz a2)), some (am_i (wz (D 131 a1))), none]) rfl rfl rfl rfl rfl) ?_
  refine ok (m_aload_n (q := 8) rfl rfl rfl rfl) ?_
  refine ok (m_gfc (q := 11) rfl rfl rfl hr rfl rfl rfl) ?_
  refine ok (m_iload_n (q := 12) rfl rfl rfl rfl) ?_
  obtain ⟨g2, hp⟩ := hp
  refine ok (m_ials (q := 13) rfl rfl rfl hr rfl rfl g2 rfl) ?_
  refine ok (m_istore (q := 15) (lo' := [some (am_r (some 70)), some (am_i (wz a1)), some (am_i (wz a2)), some (am_i (wz (D 131 a1))), some (am_i (wz (D 131 a2)))]) rfl rfl rfl rfl rfl) ?_
  refine ok (m_iload_n (q := 16) rfl rfl rfl rfl) ?_
  refine ok (m_iload_n (q := 17) rfl rfl rfl rfl) ?_
  refine okp (m_cmpeq (qt := 67) (qf := 20) rfl rfl h1 h2 rfl rfl) (fun c3 => ?_) (fun c3 => ?_)
  · refine ok (m_iconst (q := 68) rfl rfl rfl) ?_
    exact ok (m_retb rfl rfl ⟨by decide, by decide⟩) (ok_i hr ⟨by decide, by decide⟩)
  · replace hp := iq c3 hp
    refine ok (m_aload_n (q := 21) rfl rfl rfl rfl) ?_
    refine ok (m_gfc (q := 24) rfl rfl rfl hr rfl rfl rfl) ?_
    refine ok (m_iload_n (q := 25) rfl rfl rfl rfl) ?_
    refine ok (m_bals (q := 26) rfl rfl rfl hr rfl rfl g1 rfl) ?_
    refine ok (m_aload_n (q := 27) rfl rfl rfl rfl) ?_
    refine ok (m_gfc (q := 30) rfl rfl rfl hr rfl rfl rfl) ?_
    refine ok (m_iload_n (q := 31) rfl rfl rfl rfl) ?_
    refine ok (m_bals (q := 32) rfl rfl rfl hr rfl rfl g2 rfl) ?_
    refine okp (m_cmpeq (qt := 67) (qf := 35) rfl rfl (Rp_rg hr 133 a1) (Rp_rg hr 133 a2) rfl rfl) (fun c4 => ?_) (fun c4 => ?_)
    · refine ok (m_iconst (q := 68) rfl rfl rfl) ?_
      exact ok (m_retb rfl rfl ⟨by decide, by decide⟩) (ok_i hr ⟨by decide, by decide⟩)
    · replace hp := iq c4 hp
      refine ok (m_aload_n (q := 36) rfl rfl rfl rfl) ?_
      refine ok (m_gfc (q := 39) rfl rfl rfl hr rfl rfl rfl) ?_
      refine ok (m_iload_n (q := 40) rfl rfl rfl rfl) ?_
      obtain ⟨g5, hp⟩ := hp
      refine ok (m_ials (q := 41) rfl rfl rfl hr rfl rfl g5 rfl) ?_
      refine ok (m_aload_n (q := 42) rfl rfl rfl rfl) ?_
      refine ok (m_gfc (q := 45) rfl rfl rfl hr rfl rfl rfl) ?_
      refine ok (m_iload (q := 47) rfl rfl rfl rfl) ?_
      obtain ⟨g6, hp⟩ := hp
      refine ok (m_ials (q := 48) rfl rfl rfl hr rfl rfl g6 rfl) ?_
      refine okp (m_cmpne (qt := 67) (qf := 51) rfl rfl (Rp_rg hr 78 (D 131 a1)) (Rp_rg hr 78 (D 131 a2)) rfl rfl) (fun c7 => ?_) (fun c7 => ?_)
      · replace hp := ip c7 hp
        refine ok (m_aload_n (q := 52) rfl rfl rfl rfl) ?_
        refine ok (m_gfc (q := 55) rfl rfl rfl hr rfl rfl rfl) ?_
        refine ok (m_iload_n (q := 56) rfl rfl rfl rfl) ?_
        refine ok (m_ials (q := 57) rfl rfl rfl hr rfl rfl g5 rfl) ?_
        refine ok (m_aload_n (q := 58) rfl rfl rfl rfl) ?_
        refine ok (m_gfc (q := 61) rfl rfl rfl hr rfl rfl rfl) ?_
        refine ok (m_iload (q := 63) rfl rfl rfl rfl) ?_
        refine ok (m_ials (q := 64) rfl rfl rfl hr rfl rfl g6 rfl) ?_
        refine okp (m_cmpeq (qt := 69) (qf := 67) rfl rfl (Rp_rg hr 77 (D 131 a1)) (Rp_rg hr 77 (D 131 a2)) rfl rfl) (fun c8 => ?_) (fun c8 => ?_)
        · replace hp := ip c8 hp
          refine ok (m_aload_n (q := 70) rfl rfl rfl rfl) ?_
          refine ok (m_gfc (q := 73) rfl rfl rfl hr rfl rfl rfl) ?_
          refine ok (m_aload_n (q := 74) rfl rfl rfl rfl) ?_
          refine ok (m_gfc (q := 77) rfl rfl rfl hr rfl rfl rfl) ?_
          refine ok (m_iload_n (q := 78) rfl rfl rfl rfl) ?_
          refine ok (m_ials (q := 79) rfl rfl rfl hr rfl rfl g1 rfl) ?_
          obtain ⟨g9, hp⟩ := hp
          refine ok (m_ials (q := 80) rfl rfl rfl hr rfl rfl g9 rfl) ?_
          obtain ⟨g12, hp⟩ := hp
          refine oke (e_ci (x_cs (q := 83) rfl rfl rfl rfl rfl rfl rfl rfl rfl) (ev_X12_bits (D := D) (D 72 (D 130 a1)) (Rp_rg hr 72 (D 130 a1)) g12) (Nat.le_trans (by decide) hd) hr) (fun s10 r11 => ?_)
          refine ok (m_aload_n (q := 84) rfl rfl rfl rfl) ?_
          refine ok (m_gfc (q := 87) rfl rfl rfl r11 rfl rfl rfl) ?_
          refine ok (m_aload_n (q := 88) rfl rfl rfl rfl) ?_
          refine ok (m_gfc (q := 91) rfl rfl rfl r11 rfl rfl rfl) ?_
          refine ok (m_iload_n (q := 92) rfl rfl rfl rfl) ?_
          refine ok (m_ials (q := 93) rfl rfl rfl r11 rfl rfl g2 rfl) ?_
          obtain ⟨g13, hp⟩ := hp
          refine ok (m_ials (q := 94) rfl rfl rfl r11 rfl rfl g13 rfl) ?_
          obtain ⟨g16, hp⟩ := hp
          refine oke (e_ci (x_cs (q := 97) rfl rfl rfl rfl rfl rfl rfl rfl rfl) (ev_X12_bits (D := D) (D 72 (D 130 a2)) (Rp_rg r11 72 (D 130 a2)) g16) (Nat.le_trans (by decide) hd) r11) (fun s14 r15 => ?_)
          refine okp (m_cmpne (qt := 144) (qf := 100) rfl rfl (Ev_rg (ev_X12_bits (D := D) (D 72 (D 130 a1)) (Rp_rg hr 72 (D 130 a1)) g12) hr) (Ev_rg (ev_X12_bits (D := D) (D 72 (D 130 a2)) (Rp_rg r11 72 (D 130 a2)) g16) r11) rfl rfl) (fun c17 => ?_) (fun c17 => ?_)
          · replace hp := ip c17 hp
            refine ok (m_aload_n (q := 101) rfl rfl rfl rfl) ?_
            refine ok (m_aload_n (q := 102) rfl rfl rfl rfl) ?_
            refine ok (m_gfc (q := 105) rfl rfl rfl r15 rfl rfl rfl) ?_
            refine ok (m_iload_n (q := 106) rfl rfl rfl rfl) ?_
            refine ok (m_ials (q := 107) rfl rfl rfl r15 rfl rfl g1 rfl) ?_
            refine ok (m_aload_n (q := 108) rfl rfl rfl rfl) ?_
            refine ok (m_gfc (q := 111) rfl rfl rfl r15 rfl rfl rfl) ?_
            refine ok (m_iload_n (q := 112) rfl rfl rfl rfl) ?_
            refine ok (m_ials (q := 113) rfl rfl rfl r15 rfl rfl g1 rfl) ?_
            obtain ⟨g20, hp⟩ := hp
            refine oke (e_ci (x_cv (q := 116) rfl rfl rfl rfl rfl rfl rfl rfl rfl rfl (is_st r15 rfl rfl)) (ev_X12_ageOn (D := D) (D 130 a1) (D 132 a1) (Rp_rg r15 130 a1) (Rp_rg r15 132 a1) g20) (Nat.le_trans (by decide) hd) r15) (fun s18 r19 => ?_)
            refine ok (m_aload_n (q := 117) rfl rfl rfl rfl) ?_
            refine ok (m_aload_n (q := 118) rfl rfl rfl rfl) ?_
            refine ok (m_gfc (q := 121) rfl rfl rfl r19 rfl rfl rfl) ?_
            refine ok (m_iload_n (q := 122) rfl rfl rfl rfl) ?_
            refine ok (m_ials (q := 123) rfl rfl rfl r19 rfl rfl g2 rfl) ?_
            refine ok (m_aload_n (q := 124) rfl rfl rfl rfl) ?_
            refine ok (m_gfc (q := 127) rfl rfl rfl r19 rfl rfl rfl) ?_
            refine ok (m_iload_n (q := 128) rfl rfl rfl rfl) ?_
            refine ok (m_ials (q := 129) rfl rfl rfl r19 rfl rfl g2 rfl) ?_
            have g23 := hp
            refine oke (e_ci (x_cv (q := 132) rfl rfl rfl rfl rfl rfl rfl rfl rfl rfl (is_st r19 rfl rfl)) (ev_X12_ageOn (D := D) (D 130 a2) (D 132 a2) (Rp_rg r19 130 a2) (Rp_rg r19 132 a2) g23) (Nat.le_trans (by decide) hd) r19) (fun s21 r22 => ?_)
            refine ok (m_isub (q := 133) rfl rfl rfl) ?_
            refine ok (m_abs (q := 136) rfl rfl rfl (rg_wr _) rfl) ?_
            refine ok (m_iconst (q := 137) rfl rfl rfl) ?_
            refine okp (m_cmpgt (qt := 144) (qf := 140) rfl rfl (rg_wr _) ⟨by decide, by decide⟩ rfl rfl) (fun c24 => ?_) (fun c24 => ?_)
            · refine ok (m_iconst (q := 145) rfl rfl rfl) ?_
              exact ok (m_retb rfl rfl ⟨by decide, by decide⟩) (ok_i r22 ⟨by decide, by decide⟩)
            · refine ok (m_iconst (q := 141) rfl rfl rfl) ?_
              refine ok (m_goto (q := 145) rfl rfl rfl) ?_
              exact ok (m_retb rfl rfl ⟨by decide, by decide⟩) (ok_i r22 ⟨by decide, by decide⟩)
          · refine ok (m_iconst (q := 145) rfl rfl rfl) ?_
            exact ok (m_retb rfl rfl ⟨by decide, by decide⟩) (ok_i r15 ⟨by decide, by decide⟩)
        · refine ok (m_iconst (q := 68) rfl rfl rfl) ?_
          exact ok (m_retb rfl rfl ⟨by decide, by decide⟩) (ok_i hr ⟨by decide, by decide⟩)
      · refine ok (m_iconst (q := 68) rfl rfl rfl) ?_
        exact ok (m_retb rfl rfl ⟨by decide, by decide⟩) (ok_i hr ⟨by decide, by decide⟩)
abbrev P_X11_like : Nat → Option am_E := am_fy tb_X11_like
def K_X11_like_42 (n : Nat) (A : aA) (D : aD) (a2 : Int) (i3 : Int) (a4 : Int) (a5 : Int) (x : Int) (D' : aD) : Prop := Lp n 4 P_X11_like 42 [some (am_r (some 32)), none, some (am_i (wz a2)), some (am_r (some (A 13 i3))), some (am_i (wz a4)), some (am_i (wz a5)), none, none] [] A D (ri x) A D'
set_option maxRecDepth 100000 in
theorem rl_X11_like {n : Nat} {A : aA} {D D' : aD} (a1 : Int) (a2 : Int) (h1 : rg a1) (h2 : rg a2) {x : Int} (hp : (if v_X11_between D a1 0 (wr ((D 1002 3) - 1)) = 0 then (x = (-1) ∧ D' = D) else (if (-1) ≤ a2 then (0 ≤ a1 ∧ a1 < D 1002 3) ∧ K_X11_like_42 (n) A D a2 a1 0 0 x D' else (x = (-1) ∧ D' = D)))) : Ev (n) (5) 103 [am_r (some 32), am_i (wz a1), am_i (wz a2)] A D (ri x) A D' := by
  refine Ev_of (c := 4) (P := P_X11_like) (lo := [some (am_r (some 32)), some (am_i (wz a1)), some (am_i (wz a2)), none, none, none, none, none]) rfl rfl rfl (fun d hd s hr => ?_)
  refine ok (m_iload_n (q := 1) rfl rfl rfl rfl) ?_
  refine ok (m_iconst (q := 2) rfl rfl rfl) ?_
  refine ok (m_aload_n (q := 3) rfl rfl rfl rfl) ?_
  have f_1 := Rp_fx0_3 hr
  refine ok (m_gfy (q := 6) rfl rfl rfl hr rfl rfl rfl) ?_
  refine oke (e_ci (x_cv (q := 9) rfl rfl rfl rfl rfl rfl rfl rfl rfl rfl (is_ty hr rfl f_1)) (ev_size 3 f_1) (Nat.le_trans (by decide) hd) hr) (fun s2 r3 => ?_)
  refine ok (m_iconst (q := 10) rfl rfl rfl) ?_
  refine ok (m_isub (q := 11) rfl rfl rfl) ?_
  refine oke (e_ci (x_cs (q := 14) rfl rfl rfl rfl rfl rfl rfl rfl rfl) (ev_X11_between (D := D) a1 0 (wr ((D 1002 3) - 1)) h1 ⟨by decide, by decide⟩ (rg_wr _)) (Nat.le_trans (by decide) hd) r3) (fun s4 r5 => ?_)
  refine okc (m_ifeq (qt := 22) (qf := 17) rfl rfl (Ev_rg (ev_X11_between (D := D) a1 0 (wr ((D 1002 3) - 1)) h1 ⟨by decide, by decide⟩ (rg_wr _)) r3) rfl rfl) (fun c6 => ?_) (fun c6 => ?_)
  · replace hp := ip c6 hp
    refine ok (m_iconst (q := 23) rfl rfl rfl) ?_
    exact ok (m_reti rfl rfl) (ok_iq r5 ⟨by decide, by decide⟩ hp)
  · replace hp := iq c6 hp
    refine ok (m_iload_n (q := 18) rfl rfl rfl rfl) ?_
    refine ok (m_iconst (q := 19) rfl rfl rfl) ?_
    refine okc (m_cmpge (qt := 24) (qf := 22) rfl rfl h2 ⟨by decide, by decide⟩ rfl rfl) (fun c7 => ?_) (fun c7 => ?_)
    · replace hp := ip c7 hp
      refine ok (m_aload_n (q := 25) rfl rfl rfl rfl) ?_
      have f_8 := Rp_fx0_3 r5
      refine ok (m_gfy (q := 28) rfl rfl rfl r5 rfl rfl rfl) ?_
      refine ok (m_iload_n (q := 29) rfl rfl rfl rfl) ?_
      obtain ⟨g11, hp⟩ := hp
      have f_12 := Rp_el3 (D := D) r5 g11
      refine oke (e_cr (x_cv (q := 32) rfl rfl rfl rfl rfl rfl rfl rfl rfl rfl (is_ty r5 rfl f_8)) (ev_get3 a1 g11) (Nat.le_trans (by decide) hd) r5) (fun s9 r10 => ?_)
      refine ok (m_cast (q := 35) rfl rfl rfl (isN_ty r10 rfl f_12)) ?_
      refine ok (m_astore_n (q := 36) (lo' := [some (am_r (some 32)), some (am_i (wz a1)), some (am_i (wz a2)), some (am_r (some (A 13 a1))), none, none, none, none]) rfl rfl rfl rfl rfl) ?_
      refine ok (m_iconst (q := 37) rfl rfl rfl) ?_
      refine ok (m_istore (q := 39) (lo' := [some (am_r (some 32)), some (am_i (wz a1)), some (am_i (wz a2)), some (am_r (some (A 13 a1))), some (am_i (wz 0)), none, none, none]) rfl rfl rfl rfl rfl) ?_
      refine ok (m_iconst (q := 40) rfl rfl rfl) ?_
      refine ok (m_istore (q := 42) (lo' := [some (am_r (some 32)), some (am_i (wz a1)), some (am_i (wz a2)), some (am_r (some (A 13 a1))), some (am_i (wz 0)), some (am_i (wz 0)), none, none]) rfl rfl rfl rfl rfl) ?_
      refine ok (mk rfl (lo' := [some (am_r (some 32)), none, some (am_i (wz a2)), some (am_r (some (A 13 a1))), some (am_i (wz 0)), some (am_i (wz 0)), none, none]) rfl) ?_
      exact hp d hd _ r10
    · replace hp := iq c7 hp
      refine ok (m_iconst (q := 23) rfl rfl rfl) ?_
      exact ok (m_reti rfl rfl) (ok_iq r5 ⟨by decide, by decide⟩ hp)
set_option maxRecDepth 100000 in
theorem rl_X11_like_42 {n : Nat} {A : aA} {D D' : aD} (a2 : Int) (i3 : Int) (a4 : Int) (a5 : Int) (h2 : rg a2) (f3 : D 913 i3 = 1) (h4 : rg a4) (h5 : rg a5) {x : Int} (hp : (if D 1002 3 ≤ a5 then (x = (-1) ∧ D' = D) else (0 ≤ a5 ∧ a5 < D 1002 3) ∧ (if v_X0_isAnsweredUnlike D i3 a5 = 0 then K_X11_like_42 (n) A D a2 i3 a4 (wr (a5 + 1)) x D' else (if a2 = (-1) then (if D 2003 (D 2300 a5) = D 2003 (D 2300 i3) then K_X11_like_42 (n) A D a2 i3 (wr (a4 + 1)) (wr (a5 + 1)) x D' else (x = a5 ∧ D' = D)) else (if a4 = a2 then (x = a5 ∧ D' = D) else K_X11_like_42 (n) A D a2 i3 (wr (a4 + 1)) (wr (a5 + 1)) x D'))))) : K_X11_like_42 (n) A D a2 i3 a4 a5 x D' := by
  unfold K_X11_like_42
  refine fun d hd s hr => ?_
  refine ok (m_iload (q := 44) rfl rfl rfl rfl) ?_
  refine ok (m_aload_n (q := 45) rfl rfl rfl rfl) ?_
  have f_13 := Rp_fx0_3 hr
  refine ok (m_gfy (q := 48) rfl rfl rfl hr rfl rfl rfl) ?_
  refine oke (e_ci (x_cv (q := 51) rfl rfl rfl rfl rfl rfl rfl rfl rfl rfl (is_ty hr rfl f_13)) (ev_size 3 f_13) (Nat.le_trans (by decide) hd) hr) (fun s14 r15 => ?_)
  refine okc (m_cmpge (qt := 138) (qf := 54) rfl rfl h5 (show rg (D 1002 3) from Rp_rg hr 1002 3) rfl rfl) (fun c16 => ?_) (fun c16 => ?_)
  · replace hp := ip c16 hp
    refine ok (m_iconst (q := 139) rfl rfl rfl) ?_
    exact ok (m_reti rfl rfl) (ok_iq r15 ⟨by decide, by decide⟩ hp)
  · replace hp := iq c16 hp
    refine ok (m_aload_n (q := 55) rfl rfl rfl rfl) ?_
    have f_17 := Rp_fx0_3 r15
    refine ok (m_gfy (q := 58) rfl rfl rfl r15 rfl rfl rfl) ?_
    refine ok (m_iload (q := 60) rfl rfl rfl rfl) ?_
    obtain ⟨g20, hp⟩ := hp
    have f_21 := Rp_el3 (D := D) r15 g20
    refine oke (e_cr (x_cv (q := 63) rfl rfl rfl rfl rfl rfl rfl rfl rfl rfl (is_ty r15 rfl f_17)) (ev_get3 a5 g20) (Nat.le_trans (by decide) hd) r15) (fun s18 r19 => ?_)
    refine ok (m_cast (q := 66) rfl rfl rfl (isN_ty r19 rfl f_21)) ?_
    refine ok (m_astore (q := 68) (lo' := [some (am_r (some 32)), none, some (am_i (wz a2)), some (am_r (some (A 13 i3))), some (am_i (wz a4)), some (am_i (wz a5)), some (am_r (some (A 13 a5))), none]) rfl rfl rfl rfl rfl) ?_
    refine ok (m_aload_n (q := 69) rfl rfl rfl rfl) ?_
    refine ok (m_aload (q := 71) rfl rfl rfl rfl) ?_
    refine oke (e_ci (x_cv (q := 74) rfl rfl rfl rfl rfl rfl rfl rfl rfl rfl (is_ty r19 rfl f3)) (ev_X0_isAnsweredUnlike (D := D) i3 a5 f3 f_21) (Nat.le_trans (by decide) hd) r19) (fun s22 r23 => ?_)
    refine okc (m_ifeq (qt := 132) (qf := 77) rfl rfl (Ev_rg (ev_X0_isAnsweredUnlike (D := D) i3 a5 f3 f_21) r19) rfl rfl) (fun c24 => ?_) (fun c24 => ?_)
    · replace hp := ip c24 hp
      refine ok (m_iinc (q := 135) (lo' := [some (am_r (some 32)), none, some (am_i (wz a2)), some (am_r (some (A 13 i3))), some (am_i (wz a4)), some (am_i (wz (wr (a5 + 1)))), some (am_r (some (A 13 a5))), none]) rfl rfl rfl rfl rfl rfl rfl) ?_
      refine ok (m_goto (q := 42) rfl rfl rfl) ?_
      refine ok (mk rfl (lo' := [some (am_r (some 32)), none, some (am_i (wz a2)), some (am_r (some (A 13 i3))), some (am_i (wz a4)), some (am_i (wz (wr (a5 + 1)))), none, none]) rfl) ?_
      exact hp d hd _ r23
    · replace hp := iq c24 hp
      refine ok (m_iload_n (q := 78) rfl rfl rfl rfl) ?_
      refine ok (m_iconst (q := 79) rfl rfl rfl) ?_
      refine okc (m_cmpne (qt := 108) (qf := 82) rfl rfl h2 ⟨by decide, by decide⟩ rfl rfl) (fun c25 => ?_) (fun c25 => ?_)
      · replace hp := ip c25 hp
        refine ok (m_aload (q := 84) rfl rfl rfl rfl) ?_
        have f_26 : D 910 (D 2300 a5) = 1 := Rp_f13_10 (D := D) (i := a5) r23 f_21
        refine ok (m_gfx (t := 13) (q := 87) (r := some (A 10 (D 2300 a5))) rfl rfl rfl r23 rfl f_21 rfl rfl rfl) ?_
        refine ok (m_gft (t := 10) (q := 90) rfl rfl rfl r23 rfl f_26 rfl rfl rfl) ?_
        refine ok (m_aload_n (q := 91) rfl rfl rfl rfl) ?_
        have f_27 : D 910 (D 2300 i3) = 1 := Rp_f13_10 (D := D) (i := i3) r23 f3
        refine ok (m_gfx (t := 13) (q := 94) (r := some (A 10 (D 2300 i3))) rfl rfl rfl r23 rfl f3 rfl rfl rfl) ?_
        refine ok (m_gft (t := 10) (q := 97) rfl rfl rfl r23 rfl f_27 rfl rfl rfl) ?_
        refine okc (m_cmpeq (qt := 104) (qf := 100) rfl rfl (show rg (D 2003 (D 2300 a5)) from Rp_rg r23 2003 (D 2300 a5)) (show rg (D 2003 (D 2300 i3)) from Rp_rg r23 2003 (D 2300 i3)) rfl rfl) (fun c28 => ?_) (fun c28 => ?_)
        · replace hp := ip c28 hp
          refine ok (m_iconst (q := 105) rfl rfl rfl) ?_
          refine ok (m_goto (q := 119) rfl rfl rfl) ?_
          refine ok (m_istore (q := 121) (lo' := [some (am_r (some 32)), none, some (am_i (wz a2)), some (am_r (some (A 13 i3))), some (am_i (wz a4)), some (am_i (wz a5)), some (am_r (some (A 13 a5))), some (am_i (wz 0))]) rfl rfl rfl rfl rfl) ?_
          refine ok (m_iload (q := 123) rfl rfl rfl rfl) ?_
          refine ok ((m_ifeq (qt := 129) (qf := 126) rfl rfl ⟨by decide, by decide⟩ rfl rfl).trans (if_pos (by decide))) ?_
          refine ok (m_iinc (q := 132) (lo' := [some (am_r (some 32)), none, some (am_i (wz a2)), some (am_r (some (A 13 i3))), some (am_i (wz (wr (a4 + 1)))), some (am_i (wz a5)), some (am_r (some (A 13 a5))), some (am_i (wz 0))]) rfl rfl rfl rfl rfl rfl rfl) ?_
          refine ok (m_iinc (q := 135) (lo' := [some (am_r (some 32)), none, some (am_i (wz a2)), some (am_r (some (A 13 i3))), some (am_i (wz (wr (a4 + 1)))), some (am_i (wz (wr (a5 + 1)))), some (am_r (some (A 13 a5))), some (am_i (wz 0))]) rfl rfl rfl rfl rfl rfl rfl) ?_
          refine ok (m_goto (q := 42) rfl rfl rfl) ?_
          refine ok (mk rfl (lo' := [some (am_r (some 32)), none, some (am_i (wz a2)), some (am_r (some (A 13 i3))), some (am_i (wz (wr (a4 + 1)))), some (am_i (wz (wr (a5 + 1)))), none, none]) rfl) ?_
          exact hp d hd _ r23
        · replace hp := iq c28 hp
          refine ok (m_iconst (q := 101) rfl rfl rfl) ?_
          refine ok (m_goto (q := 119) rfl rfl rfl) ?_
          refine ok (m_istore (q := 121) (lo' := [some (am_r (some 32)), none, some (am_i (wz a2)), some (am_r (some (A 13 i3))), some (am_i (wz a4)), some (am_i (wz a5)), some (am_r (some (A 13 a5))), some (am_i (wz 1))]) rfl rfl rfl rfl rfl) ?_
          refine ok (m_iload (q := 123) rfl rfl rfl rfl) ?_
          refine ok ((m_ifeq (qt := 129) (qf := 126) rfl rfl ⟨by decide, by decide⟩ rfl rfl).trans (if_neg (by decide))) ?_
          refine ok (m_iload (q := 128) rfl rfl rfl rfl) ?_
          exact ok (m_reti rfl rfl) (ok_iq r23 h5 hp)
      · replace hp := iq c25 hp
        refine ok (m_iload (q := 110) rfl rfl rfl rfl) ?_
        refine ok (m_iload_n (q := 111) rfl rfl rfl rfl) ?_
        refine okc (m_cmpne (qt := 118) (qf := 114) rfl rfl h4 h2 rfl rfl) (fun c29 => ?_) (fun c29 => ?_)
        · replace hp := ip c29 hp
          refine ok (m_iconst (q := 115) rfl rfl rfl) ?_
          refine ok (m_goto (q := 119) rfl rfl rfl) ?_
          refine ok (m_istore (q := 121) (lo' := [some (am_r (some 32)), none, some (am_i (wz a2)), some (am_r (some (A 13 i3))), some (am_i (wz a4)), some (am_i (wz a5)), some (am_r (some (A 13 a5))), some (am_i (wz 1))]) rfl rfl rfl rfl rfl) ?_
          refine ok (m_iload (q := 123) rfl rfl rfl rfl) ?_
          refine ok ((m_ifeq (qt := 129) (qf := 126) rfl rfl ⟨by decide, by decide⟩ rfl rfl).trans (if_neg (by decide))) ?_
          refine ok (m_iload (q := 128) rfl rfl rfl rfl) ?_
          exact ok (m_reti rfl rfl) (ok_iq r23 h5 hp)
        · replace hp := iq c29 hp
          refine ok (m_iconst (q := 119) rfl rfl rfl) ?_
          refine ok (m_istore (q := 121) (lo' := [some (am_r (some 32)), none, some (am_i (wz a2)), some (am_r (some (A 13 i3))), some (am_i (wz a4)), some (am_i (wz a5)), some (am_r (some (A 13 a5))), some (am_i (wz 0))]) rfl rfl rfl rfl rfl) ?_
          refine ok (m_iload (q := 123) rfl rfl rfl rfl) ?_
          refine ok ((m_ifeq (qt := 129) (qf := 126) rfl rfl ⟨by decide, by decide⟩ rfl rfl).trans (if_pos (by decide))) ?_
          refine ok (m_iinc (q := 132) (lo' := [some (am_r (some 32)), none, some (am_i (wz a2)), some (am_r (some (A 13 i3))), some (am_i (wz (wr (a4 + 1)))), some (am_i (wz a5)), some (am_r (some (A 13 a5))), some (am_i (wz 0))]) rfl rfl rfl rfl rfl rfl rfl) ?_
          refine ok (m_iinc (q := 135) (lo' := [some (am_r (some 32)), none, some (am_i (wz a2)), some (am_r (some (A 13 i3))), some (am_i (wz (wr (a4 + 1)))), some (am_i (wz (wr (a5 + 1)))), some (am_r (some (A 13 a5))), some (am_i (wz 0))]) rfl rfl rfl rfl rfl rfl rfl) ?_
          refine ok (m_goto (q := 42) rfl rfl rfl) ?_
          refine ok (mk rfl (lo' := [some (am_r (some 32)), none, some (am_i (wz a2)), some (am_r (some (A 13 i3))), some (am_i (wz (wr (a4 + 1)))), some (am_i (wz (wr (a5 + 1)))), none, none]) rfl) ?_
          exact hp d hd _ r23
abbrev P_X12_like : Nat → Option am_E := am_fy tb_X12_like
def K_X12_like_26 (n : Nat) (A : aA) (D : aD) (a1 : Int) (a2 : Int) (a3 : Int) (a4 : Int) (x : Int) (D' : aD) : Prop := Lp n 2 P_X12_like 26 [some (am_r (some 70)), some (am_i (wz a1)), some (am_i (wz a2)), some (am_i (wz a3)), some (am_i (wz a4))] [] A D (ri x) A D'
set_option maxRecDepth 100000 in
theorem rl_X12_like {n : Nat} {A : aA} {D D' : aD} (a1 : Int) (a2 : Int) (h1 : rg a1) (h2 : rg a2) {x : Int} (hp : (if v_X12_isIn D a1 0 (wr ((D 70 78) - 1)) = 0 then (x = (-1) ∧ D' = D) else (if (-1) ≤ a2 then K_X12_like_26 (n) A D a1 a2 a2 0 x D' else (x = (-1) ∧ D' = D)))) : Ev (n) (3) 207 [am_r (some 70), am_i (wz a1), am_i (wz a2)] A D (ri x) A D' := by
  refine Ev_of (c := 2) (P := P_X12_like) (lo := [some (am_r (some 70)), some (am_i (wz a1)), some (am_i (wz a2)), none, none]) rfl rfl rfl (fun d hd s hr => ?_)
  refine ok (m_iload_n (q := 1) rfl rfl rfl rfl) ?_
  refine ok (m_iconst (q := 2) rfl rfl rfl) ?_
  refine ok (m_aload_n (q := 3) rfl rfl rfl rfl) ?_
  refine ok (m_gfs (z := 78) (q := 6) rfl rfl rfl hr rfl rfl rfl rfl rfl) ?_
  refine ok (m_iconst (q := 7) rfl rfl rfl) ?_
  refine ok (m_isub (q := 8) rfl rfl rfl) ?_
  refine oke (e_ci (x_cs (q := 11) rfl rfl rfl rfl rfl rfl rfl rfl rfl) (ev_X12_isIn (D := D) a1 0 (wr ((D 70 78) - 1)) h1 ⟨by decide, by decide⟩ (rg_wr _)) (Nat.le_trans (by decide) hd) hr) (fun s1 r2 => ?_)
  refine okc (m_ifeq (qt := 19) (qf := 14) rfl rfl (Ev_rg (ev_X12_isIn (D := D) a1 0 (wr ((D 70 78) - 1)) h1 ⟨by decide, by decide⟩ (rg_wr _)) hr) rfl rfl) (fun c3 => ?_) (fun c3 => ?_)
  · replace hp := ip c3 hp
    refine ok (m_iconst (q := 20) rfl rfl rfl) ?_
    exact ok (m_reti rfl rfl) (ok_iq r2 ⟨by decide, by decide⟩ hp)
  · replace hp := iq c3 hp
    refine ok (m_iload_n (q := 15) rfl rfl rfl rfl) ?_
    refine ok (m_iconst (q := 16) rfl rfl rfl) ?_
    refine okc (m_cmpge (qt := 21) (qf := 19) rfl rfl h2 ⟨by decide, by decide⟩ rfl rfl) (fun c4 => ?_) (fun c4 => ?_)
    · replace hp := ip c4 hp
      refine ok (m_iload_n (q := 22) rfl rfl rfl rfl) ?_
      refine ok (m_istore_n (q := 23) (lo' := [some (am_r (some 70)), some (am_i (wz a1)), some (am_i (wz a2)), some (am_i (wz a2)), none]) rfl rfl rfl rfl rfl) ?_
      refine ok (m_iconst (q := 24) rfl rfl rfl) ?_
      refine ok (m_istore (q := 26) (lo' := [some (am_r (some 70)), some (am_i (wz a1)), some (am_i (wz a2)), some (am_i (wz a2)), some (am_i (wz 0))]) rfl rfl rfl rfl rfl) ?_
      exact hp d hd _ r2
    · replace hp := iq c4 hp
      refine ok (m_iconst (q := 20) rfl rfl rfl) ?_
      exact ok (m_reti rfl rfl) (ok_iq r2 ⟨by decide, by decide⟩ hp)
set_option maxRecDepth 100000 in
theorem rl_X12_like_26 {n : Nat} {A : aA} {D D' : aD} (a1 : Int) (a2 : Int) (a3 : Int) (a4 : Int) (h1 : rg a1) (h2 : rg a2) (h3 : rg a3) (h4 : rg a4) {x : Int} (hp : (if D 70 78 ≤ a4 then (x = (-1) ∧ D' = D) else (p_X12_areLike D a1 a4) ∧ (if v_X12_areLike D a1 a4 = 0 then K_X12_like_26 (n) A D a1 a2 a3 (wr (a4 + 1)) x D' else (if a2 = (-1) then (0 ≤ a4 ∧ a4 < 60) ∧ (0 ≤ D 130 a4 ∧ D 130 a4 < 24) ∧ (0 ≤ a1 ∧ a1 < 60) ∧ (0 ≤ D 130 a1 ∧ D 130 a1 < 24) ∧ (if D 73 (D 130 a4) = D 73 (D 130 a1) then K_X12_like_26 (n) A D a1 a2 a3 (wr (a4 + 1)) x D' else (if 0 < a3 then K_X12_like_26 (n) A D a1 a2 (wr (a3 + (-1))) (wr (a4 + 1)) x D' else (x = a4 ∧ D' = D))) else (if 0 < a3 then K_X12_like_26 (n) A D a1 a2 (wr (a3 + (-1))) (wr (a4 + 1)) x D' else (x = a4 ∧ D' = D)))))) : K_X12_like_26 (n) A D a1 a2 a3 a4 x D' := by
  unfold K_X12_like_26
  refine fun d hd s hr => ?_
  refine ok (m_iload (q := 28) rfl rfl rfl rfl) ?_
  refine ok (m_aload_n (q := 29) rfl rfl rfl rfl) ?_
  refine ok (m_gfs (z := 78) (q := 32) rfl rfl rfl hr rfl rfl rfl rfl rfl) ?_
  refine okc (m_cmpge (qt := 95) (qf := 35) rfl rfl h4 (Rp_rg hr 70 78) rfl rfl) (fun c5 => ?_) (fun c5 => ?_)
  · replace hp := ip c5 hp
    refine ok (m_iconst (q := 96) rfl rfl rfl) ?_
    exact ok (m_reti rfl rfl) (ok_iq hr ⟨by decide, by decide⟩ hp)
  · replace hp := iq c5 hp
    refine ok (m_aload_n (q := 36) rfl rfl rfl rfl) ?_
    refine ok (m_iload_n (q := 37) rfl rfl rfl rfl) ?_
    refine ok (m_iload (q := 39) rfl rfl rfl rfl) ?_
    obtain ⟨g8, hp⟩ := hp
    refine oke (e_ci (x_cv (q := 42) rfl rfl rfl rfl rfl rfl rfl rfl rfl rfl (is_st hr rfl rfl)) (ev_X12_areLike (D := D) a1 a4 h1 h4 g8) (Nat.le_trans (by decide) hd) hr) (fun s6 r7 => ?_)
    refine okc (m_ifeq (qt := 89) (qf := 45) rfl rfl (Ev_rg (ev_X12_areLike (D := D) a1 a4 h1 h4 g8) hr) rfl rfl) (fun c9 => ?_) (fun c9 => ?_)
    · replace hp := ip c9 hp
      refine ok (m_iinc (q := 92) (lo' := [some (am_r (some 70)), some (am_i (wz a1)), some (am_i (wz a2)), some (am_i (wz a3)), some (am_i (wz (wr (a4 + 1))))]) rfl rfl rfl rfl rfl rfl rfl) ?_
      refine ok (m_goto (q := 26) rfl rfl rfl) ?_
      exact hp d hd _ r7
    · replace hp := iq c9 hp
      refine ok (m_iload_n (q := 46) rfl rfl rfl rfl) ?_
      refine ok (m_iconst (q := 47) rfl rfl rfl) ?_
      refine okc (m_cmpne (qt := 79) (qf := 50) rfl rfl h2 ⟨by decide, by decide⟩ rfl rfl) (fun c10 => ?_) (fun c10 => ?_)
      · replace hp := ip c10 hp
        refine ok (m_aload_n (q := 51) rfl rfl rfl rfl) ?_
        refine ok (m_gfc (q := 54) rfl rfl rfl r7 rfl rfl rfl) ?_
        refine ok (m_aload_n (q := 55) rfl rfl rfl rfl) ?_
        refine ok (m_gfc (q := 58) rfl rfl rfl r7 rfl rfl rfl) ?_
        refine ok (m_iload (q := 60) rfl rfl rfl rfl) ?_
        obtain ⟨g11, hp⟩ := hp
        refine ok (m_ials (q := 61) rfl rfl rfl r7 rfl rfl g11 rfl) ?_
        obtain ⟨g12, hp⟩ := hp
        refine ok (m_ials (q := 62) rfl rfl rfl r7 rfl rfl g12 rfl) ?_
        refine ok (m_aload_n (q := 63) rfl rfl rfl rfl) ?_
        refine ok (m_gfc (q := 66) rfl rfl rfl r7 rfl rfl rfl) ?_
        refine ok (m_aload_n (q := 67) rfl rfl rfl rfl) ?_
        refine ok (m_gfc (q := 70) rfl rfl rfl r7 rfl rfl rfl) ?_
        refine ok (m_iload_n (q := 71) rfl rfl rfl rfl) ?_
        obtain ⟨g13, hp⟩ := hp
        refine ok (m_ials (q := 72) rfl rfl rfl r7 rfl rfl g13 rfl) ?_
        obtain ⟨g14, hp⟩ := hp
        refine ok (m_ials (q := 73) rfl rfl rfl r7 rfl rfl g14 rfl) ?_
        refine okc (m_cmpne (qt := 79) (qf := 76) rfl rfl (Rp_rg r7 73 (D 130 a4)) (Rp_rg r7 73 (D 130 a1)) rfl rfl) (fun c15 => ?_) (fun c15 => ?_)
        · replace hp := ip c15 hp
          refine ok (m_goto (q := 89) rfl rfl rfl) ?_
          refine ok (m_iinc (q := 92) (lo' := [some (am_r (some 70)), some (am_i (wz a1)), some (am_i (wz a2)), some (am_i (wz a3)), some (am_i (wz (wr (a4 + 1))))]) rfl rfl rfl rfl rfl rfl rfl) ?_
          refine ok (m_goto (q := 26) rfl rfl rfl) ?_
          exact hp d hd _ r7
        · replace hp := iq c15 hp
          refine ok (m_iload_n (q := 80) rfl rfl rfl rfl) ?_
          refine okc (m_ifgt (qt := 86) (qf := 83) rfl rfl h3 rfl rfl) (fun c16 => ?_) (fun c16 => ?_)
          · replace hp := ip c16 hp
            refine ok (m_iinc (q := 89) (lo' := [some (am_r (some 70)), some (am_i (wz a1)), some (am_i (wz a2)), some (am_i (wz (wr (a3 + (-1))))), some (am_i (wz a4))]) rfl rfl rfl rfl rfl rfl rfl) ?_
            refine ok (m_iinc (q := 92) (lo' := [some (am_r (some 70)), some (am_i (wz a1)), some (am_i (wz a2)), some (am_i (wz (wr (a3 + (-1))))), some (am_i (wz (wr (a4 + 1))))]) rfl rfl rfl rfl rfl rfl rfl) ?_
            refine ok (m_goto (q := 26) rfl rfl rfl) ?_
            exact hp d hd _ r7
          · replace hp := iq c16 hp
            refine ok (m_iload (q := 85) rfl rfl rfl rfl) ?_
            exact ok (m_reti rfl rfl) (ok_iq r7 h4 hp)
      · replace hp := iq c10 hp
        refine ok (m_iload_n (q := 80) rfl rfl rfl rfl) ?_
        refine okc (m_ifgt (qt := 86) (qf := 83) rfl rfl h3 rfl rfl) (fun c17 => ?_) (fun c17 => ?_)
        · replace hp := ip c17 hp
          refine ok (m_iinc (q := 89) (lo' := [some (am_r (some 70)), some (am_i (wz a1)), some (am_i (wz a2)), some (am_i (wz (wr (a3 + (-1))))), some (am_i (wz a4))]) rfl rfl rfl rfl rfl rfl rfl) ?_
          refine ok (m_iinc (q := 92) (lo' := [some (am_r (some 70)), some (am_i (wz a1)), some (am_i (wz a2)), some (am_i (wz (wr (a3 + (-1))))), some (am_i (wz (wr (a4 + 1))))]) rfl rfl rfl rfl rfl rfl rfl) ?_
          refine ok (m_goto (q := 26) rfl rfl rfl) ?_
          exact hp d hd _ r7
        · replace hp := iq c17 hp
          refine ok (m_iload (q := 85) rfl rfl rfl rfl) ?_
          exact ok (m_reti rfl rfl) (ok_iq r7 h4 hp)
theorem al_eq (hI : Iv D) {x y : Int} (x0 : 0 ≤ x) (x1 : x < D 70 78) (y0 : 0 ≤ y) (y1 : y < D 70 78) : (v_X0_isAnsweredUnlike D x y = 0 ↔ v_X12_areLike D x y = 0) ∧ p_X12_areLike D x y := by
  have hc := hI.ct; unfold I_ct at hc
  have hu := hI.cu; unfold I_cu at hu
  have hx := hI.ak x x0 x1
  have hy := hI.ak y y0 y1
  have px := hI.pl (D 131 x) (by omega) (by omega)
  have py := hI.pl (D 131 y) (by omega) (by omega)
  have sx := hI.sv (D 130 x) (by omega) (by omega)
  have sy := hI.sv (D 130 y) (by omega) (by omega)
  have ax := age_eq hI (s := D 130 x) (d := D 132 x) (by omega) (by omega) (by omega) (by omega)
  have ay := age_eq hI (s := D 130 y) (d := D 132 y) (by omega) (by omega) (by omega) (by omega)
  constructor
  · unfold v_X0_isAnsweredUnlike v_X12_areLike w_bits
    rw [hx.1, hx.2.1, hx.2.2.1, hx.2.2.2.1, hy.1, hy.2.1, hy.2.2.1, hy.2.2.2.1, px.2.1, px.2.2.2.1, py.2.1, py.2.2.2.1, sx.2.2.1, sy.2.2.1, bc_eq (by omega) (by omega), bc_eq (by omega) (by omega)]
    by_cases c0 : x = y
    · subst c0; simp
    · rw [if_neg c0]
      by_cases c1 : D 133 x = D 133 y
      · simp only [if_pos c1]
        constructor
        · intro _; trivial
        · intro _; repeat' split
          all_goals rfl
      · simp only [if_neg c1]
  · have hbx : p_bits D (D 72 (D 130 x)) := ⟨by omega, by omega⟩
    have hby : p_bits D (D 72 (D 130 y)) := ⟨by omega, by omega⟩
    have h1 : p_X12_ageOn D (D 130 x) (D 132 x) := ⟨by omega, by omega⟩
    have h2 : p_X12_ageOn D (D 130 y) (D 132 y) := ⟨by omega, by omega⟩
    unfold p_X12_areLike
    repeat' (first | exact hbx | exact hby | exact h1 | exact h2 | apply And.intro | split)
    all_goals first | trivial | omega
def lrn (D : aD) (a k : Int) : Nat → Int → Int → Int
  | 0, _, _ => -1
  | m + 1, seen, j => if v_X12_areLike D a j = 0 then lrn D a k m seen (j + 1) else if k = -1 then (if D 73 (D 130 j) = D 73 (D 130 a) then lrn D a k m (seen + 1) (j + 1) else j) else if seen = k then j else lrn D a k m (seen + 1) (j + 1)
theorem K_likeX {a k : Int} (hI : Iv D) (hk : rg k) (f3 : D 913 a = 1) (a0 : 0 ≤ a) (a1 : a < D 70 78) : ∀ (m : Nat) (seen j : Int), j + m = D 70 78 → 0 ≤ j → 0 ≤ seen → seen ≤ j → K_X11_like_42 n A D k a seen j (lrn D a k m seen j) D := by
  have hu := hI.cu; unfold I_cu at hu
  intro m
  induction m with
  | zero =>
    intro seen j h1 h2 h3 h4
    refine rl_X11_like_42 _ _ _ _ hk f3 (rgb (by omega) (by omega)) (rgb (by omega) (by omega)) ?_
    rw [if_pos (by omega)]; exact ⟨rfl, rfl⟩
  | succ m ih =>
    intro seen j h1 h2 h3 h4
    have e := (al_eq hI a0 a1 h2 (by omega : j < D 70 78)).1
    have ha := hI.ak a a0 a1
    have hj := hI.ak j h2 (by omega)
    have sa := hI.sv (D 130 a) (by omega) (by omega)
    have sj := hI.sv (D 130 j) (by omega) (by omega)
    refine rl_X11_like_42 _ _ _ _ hk f3 (rgb (by omega) (by omega)) (rgb (by omega) (by omega)) ?_
    rw [if_neg (by omega), wr_id (z := j + 1) (by omega) (by omega), wr_id (z := seen + 1) (by omega) (by omega), ha.1, hj.1, sa.2.2.2.1, sj.2.2.2.1]
    refine ⟨by omega, ?_⟩
    unfold lrn
    by_cases c1 : v_X12_areLike D a j = 0
    · rw [if_pos (e.mpr c1), if_pos c1]; exact ih seen (j + 1) (by omega) (by omega) h3 (by omega)
    rw [if_neg (fun z => c1 (e.mp z)), if_neg c1]
    by_cases c2 : k = -1
    · rw [if_pos c2, if_pos c2]
      by_cases c3 : D 73 (D 130 j) = D 73 (D 130 a)
      · rw [if_pos c3, if_pos c3]; exact ih (seen + 1) (j + 1) (by omega) (by omega) (by omega) (by omega)
      · rw [if_neg c3, if_neg c3]; exact ⟨rfl, rfl⟩
    rw [if_neg c2, if_neg c2]
    by_cases c3 : seen = k
    · rw [if_pos c3, if_pos c3]; exact ⟨rfl, rfl⟩
    · rw [if_neg c3, if_neg c3]; exact ih (seen + 1) (j + 1) (by omega) (by omega) (by omega) (by omega)
theorem K_likeM {a k : Int} (hI : Iv D) (hk : rg k) (h1 : rg a) (hk1 : -1 ≤ k) (a0 : 0 ≤ a) (a1 : a < D 70 78) : ∀ (m : Nat) (seen j : Int), j + m = D 70 78 → 0 ≤ j → 0 ≤ seen → seen ≤ j → (k ≠ -1 → seen ≤ k) → K_X12_like_26 n A D a k (if k = -1 then -1 else k - seen) j (lrn D a k m seen j) D := by
  have hc := hI.ct; unfold I_ct at hc
  have hu := hI.cu; unfold I_cu at hu
  have hk2 := hk.2
  intro m
  induction m with
  | zero =>
    intro seen j h1' h2 h3 h4 h5
    refine rl_X12_like_26 _ _ _ _ h1 hk ⟨by split <;> omega, by split <;> omega⟩ (rgb (by omega) (by omega)) ?_
    rw [if_pos (by omega)]; exact ⟨rfl, rfl⟩
  | succ m ih =>
    intro seen j h1' h2 h3 h4 h5
    have e := (al_eq hI a0 a1 h2 (by omega : j < D 70 78)).2
    have ha := hI.ak a a0 a1
    have hj := hI.ak j h2 (by omega)
    refine rl_X12_like_26 _ _ _ _ h1 hk ⟨by split <;> omega, by split <;> omega⟩ (rgb (by omega) (by omega)) ?_
    rw [if_neg (by omega), wr_id (z := j + 1) (by omega) (by omega)]
    refine ⟨e, ?_⟩
    unfold lrn
    by_cases c1 : v_X12_areLike D a j = 0
    · rw [if_pos c1, if_pos c1]; exact ih seen (j + 1) (by omega) (by omega) h3 (by omega) h5
    rw [if_neg c1, if_neg c1]
    by_cases c2 : k = -1
    · have i1 := ih (seen + 1) (j + 1) (by omega) (by omega) (by omega) (by omega) (fun z => absurd c2 z)
      simp only [if_pos c2] at i1 ⊢
      refine ⟨by omega, by omega, by omega, by omega, ?_⟩
      by_cases c3 : D 73 (D 130 j) = D 73 (D 130 a)
      · rw [if_pos c3, if_pos c3]; exact i1
      · rw [if_neg c3, if_neg c3, if_neg (by omega)]; exact ⟨rfl, trivial⟩
    · simp only [if_neg c2] at ih ⊢
      have h6 := h5 c2
      by_cases c3 : seen = k
      · rw [if_neg (by omega), if_pos c3]; exact ⟨rfl, trivial⟩
      · rw [if_pos (by omega), if_neg c3, wr_id (by omega) (by omega), show k - seen + -1 = k - (seen + 1) by omega]
        exact ih (seen + 1) (j + 1) (by omega) (by omega) (by omega) (by omega) (fun _ => by omega)
theorem c_like (hI : Inv D) (a k : Int) (h1 : rg a) (h2 : rg k) : Rd 103 207 [am_i (wz a), am_i (wz k)] A D := by
  have hu := hI.iv.cu; unfold I_cu at hu
  have isA : ¬ v_X12_isIn D a 0 (wr (D 70 78 - 1)) = 0 ↔ 0 ≤ a ∧ a < D 70 78 := by rw [isI, wr_id (by omega) (by omega)]; omega
  refine ⟨if v_X12_isIn D a 0 (wr (D 70 78 - 1)) = 0 then -1 else if -1 ≤ k then lrn D a k (D 70 78).toNat 0 0 else -1, ?_, ?_⟩
  · intro d' hd' s' hr
    refine (rl_X11_like (n := 0) a k h1 h2 ?_).le (by decide : 5 ≤ 200) d' hd' s' hr
    rw [inb_eq, hu.2.1.1]
    by_cases c1 : v_X12_isIn D a 0 (wr (D 70 78 - 1)) = 0
    · rw [if_pos c1, if_pos c1]; exact ⟨rfl, rfl⟩
    have z := isA.mp c1
    rw [if_neg c1, if_neg c1]
    by_cases c2 : -1 ≤ k
    · rw [if_pos c2, if_pos c2]
      exact ⟨z, K_likeX hI.iv h2 (Rp_el3 hr (by omega)) z.1 z.2 _ 0 0 (by omega) (by omega) (by omega) (by omega)⟩
    · rw [if_neg c2, if_neg c2]; exact ⟨rfl, rfl⟩
  · refine (rl_X12_like (n := 0) a k h1 h2 ?_).le (by decide)
    by_cases c1 : v_X12_isIn D a 0 (wr (D 70 78 - 1)) = 0
    · rw [if_pos c1, if_pos c1]; exact ⟨rfl, rfl⟩
    have z := isA.mp c1
    rw [if_neg c1, if_neg c1]
    by_cases c2 : -1 ≤ k
    · rw [if_pos c2, if_pos c2]
      have K := K_likeM (n := 0) (A := A) hI.iv h2 h1 c2 z.1 z.2 (D 70 78).toNat 0 0 (by omega) (by omega) (by omega) (by omega) (fun q => by omega)
      have e : (if k = -1 then (-1 : Int) else k - 0) = k := by split <;> omega
      rw [e] at K; exact K
    · rw [if_neg c2, if_neg c2]; exact ⟨rfl, rfl⟩
/-- the placing that shows it -/
abbrev P_X12_behind : Nat → Option am_E := am_fy tb_X12_behind
def K_X12_behind_4 (n : Nat) (A : aA) (D : aD) (a1 : Int) (a2 : Int) (a3 : Int) (x : Int) (D' : aD) : Prop := Lp n 1 P_X12_behind 4 [some (am_r (some 70)), some (am_i (wz a1)), some (am_i (wz a2)), some (am_i (wz a3))] [] A D (ri x) A D'
set_option maxRecDepth 100000 in
theorem rl_X12_behind {n : Nat} {A : aA} {D D' : aD} (a1 : Int) (h1 : rg a1) {x : Int} (hp : K_X12_behind_4 (n) A D a1 (-1) 0 x D') : Ev (n) (2) 184 [am_r (some 70), am_i (wz a1)] A D (ri x) A D' := by
  refine Ev_of (c := 1) (P := P_X12_behind) (lo := [some (am_r (some 70)), some (am_i (wz a1)), none, none]) rfl rfl rfl (fun d hd s hr => ?_)
  refine ok (m_iconst (q := 1) rfl rfl rfl) ?_
  refine ok (m_istore_n (q := 2) (lo' := [some (am_r (some 70)), some (am_i (wz a1)), some (am_i (wz (-1))), none]) rfl rfl rfl rfl rfl) ?_
  refine ok (m_iconst (q := 3) rfl rfl rfl) ?_
  refine ok (m_istore_n (q := 4) (lo' := [some (am_r (some 70)), some (am_i (wz a1)), some (am_i (wz (-1))), some (am_i (wz 0))]) rfl rfl rfl rfl rfl) ?_
  exact hp d hd _ hr
set_option maxRecDepth 100000 in
theorem rl_X12_behind_4 {n : Nat} {A : aA} {D D' : aD} (a1 : Int) (a2 : Int) (a3 : Int) (h1 : rg a1) (h2 : rg a2) (h3 : rg a3) {x : Int} (hp : (if D 70 4 ≤ a3 then (x = a2 ∧ D' = D) else (0 ≤ a3 ∧ a3 < 60) ∧ (0 ≤ a1 ∧ a1 < 60) ∧ (if D 83 a3 = D 109 a1 then (p_X12_isKnown D a3 (D 70 0)) ∧ (if v_X12_isKnown D a3 (D 70 0) = 0 then K_X12_behind_4 (n) A D a1 a2 (wr (a3 + 1)) x D' else (0 ≤ D 84 a3 ∧ D 84 a3 < 30) ∧ (if D 77 (D 84 a3) = D 108 a1 then K_X12_behind_4 (n) A D a1 a2 (wr (a3 + 1)) x D' else (if D 113 a1 ≤ D 85 a3 then (p_X12_endOf D a3 (D 70 0)) ∧ (if v_X12_endOf D a3 (D 70 0) = 5000 then (if wr ((D 70 0) - (D 85 a3)) ≤ 60 then K_X12_behind_4 (n) A D a1 a2 (wr (a3 + 1)) x D' else (if a2 = (-1) then K_X12_behind_4 (n) A D a1 a3 (wr (a3 + 1)) x D' else (0 ≤ a2 ∧ a2 < 60) ∧ (if D 85 a2 ≤ D 85 a3 then K_X12_behind_4 (n) A D a1 a2 (wr (a3 + 1)) x D' else K_X12_behind_4 (n) A D a1 a3 (wr (a3 + 1)) x D'))) else (if a2 = (-1) then K_X12_behind_4 (n) A D a1 a3 (wr (a3 + 1)) x D' else (0 ≤ a2 ∧ a2 < 60) ∧ (if D 85 a2 ≤ D 85 a3 then K_X12_behind_4 (n) A D a1 a2 (wr (a3 + 1)) x D' else K_X12_behind_4 (n) A D a1 a3 (wr (a3 + 1)) x D'))) else K_X12_behind_4 (n) A D a1 a2 (wr (a3 + 1)) x D'))) else K_X12_behind_4 (n) A D a1 a2 (wr (a3 + 1)) x D'))) : K_X12_behind_4 (n) A D a1 a2 a3 x D' := by
  unfold K_X12_behind_4
  refine fun d hd s hr => ?_
  refine ok (m_iload_n (q := 5) rfl rfl rfl rfl) ?_
  refine ok (m_aload_n (q := 6) rfl rfl rfl rfl) ?_
  refine ok (m_gfs (z := 4) (q := 9) rfl rfl rfl hr rfl rfl rfl rfl rfl) ?_
  refine okc (m_cmpge (qt := 136) (qf := 12) rfl rfl h3 (Rp_rg hr 70 4) rfl rfl) (fun c1 => ?_) (fun c1 => ?_)
  · replace hp := ip c1 hp
    refine ok (m_iload_n (q := 137) rfl rfl rfl rfl) ?_
    exact ok (m_reti rfl rfl) (ok_iq hr h2 hp)
  · replace hp := iq c1 hp
    refine ok (m_aload_n (q := 13) rfl rfl rfl rfl) ?_
    refine ok (m_gfc (q := 16) rfl rfl rfl hr rfl rfl rfl) ?_
    refine ok (m_iload_n (q := 17) rfl rfl rfl rfl) ?_
    obtain ⟨g2, hp⟩ := hp
    refine ok (m_ials (q := 18) rfl rfl rfl hr rfl rfl g2 rfl) ?_
    refine ok (m_aload_n (q := 19) rfl rfl rfl rfl) ?_
    refine ok (m_gfc (q := 22) rfl rfl rfl hr rfl rfl rfl) ?_
    refine ok (m_iload_n (q := 23) rfl rfl rfl rfl) ?_
    obtain ⟨g3, hp⟩ := hp
    refine ok (m_ials (q := 24) rfl rfl rfl hr rfl rfl g3 rfl) ?_
    refine okc (m_cmpne (qt := 130) (qf := 27) rfl rfl (Rp_rg hr 83 a3) (Rp_rg hr 109 a1) rfl rfl) (fun c4 => ?_) (fun c4 => ?_)
    · replace hp := ip c4 hp
      refine ok (m_aload_n (q := 28) rfl rfl rfl rfl) ?_
      refine ok (m_iload_n (q := 29) rfl rfl rfl rfl) ?_
      refine ok (m_aload_n (q := 30) rfl rfl rfl rfl) ?_
      refine ok (m_gfs (z := 0) (q := 33) rfl rfl rfl hr rfl rfl rfl rfl rfl) ?_
      obtain ⟨g7, hp⟩ := hp
      refine oke (e_ci (x_cv (q := 36) rfl rfl rfl rfl rfl rfl rfl rfl rfl rfl (is_st hr rfl rfl)) (ev_X12_isKnown (D := D) a3 (D 70 0) h3 (Rp_rg hr 70 0) g7) (Nat.le_trans (by decide) hd) hr) (fun s5 r6 => ?_)
      refine okc (m_ifeq (qt := 130) (qf := 39) rfl rfl (Ev_rg (ev_X12_isKnown (D := D) a3 (D 70 0) h3 (Rp_rg hr 70 0) g7) hr) rfl rfl) (fun c8 => ?_) (fun c8 => ?_)
      · replace hp := ip c8 hp
        refine ok (m_iinc (q := 133) (lo' := [some (am_r (some 70)), some (am_i (wz a1)), some (am_i (wz a2)), some (am_i (wz (wr (a3 + 1))))]) rfl rfl rfl rfl rfl rfl rfl) ?_
        refine ok (m_goto (q := 4) rfl rfl rfl) ?_
        exact hp d hd _ r6
      · replace hp := iq c8 hp
        refine ok (m_aload_n (q := 40) rfl rfl rfl rfl) ?_
        refine ok (m_gfc (q := 43) rfl rfl rfl r6 rfl rfl rfl) ?_
        refine ok (m_aload_n (q := 44) rfl rfl rfl rfl) ?_
        refine ok (m_gfc (q := 47) rfl rfl rfl r6 rfl rfl rfl) ?_
        refine ok (m_iload_n (q := 48) rfl rfl rfl rfl) ?_
        refine ok (m_ials (q := 49) rfl rfl rfl r6 rfl rfl g2 rfl) ?_
        obtain ⟨g9, hp⟩ := hp
        refine ok (m_ials (q := 50) rfl rfl rfl r6 rfl rfl g9 rfl) ?_
        refine ok (m_aload_n (q := 51) rfl rfl rfl rfl) ?_
        refine ok (m_gfc (q := 54) rfl rfl rfl r6 rfl rfl rfl) ?_
        refine ok (m_iload_n (q := 55) rfl rfl rfl rfl) ?_
        refine ok (m_ials (q := 56) rfl rfl rfl r6 rfl rfl g3 rfl) ?_
        refine okc (m_cmpeq (qt := 130) (qf := 59) rfl rfl (Rp_rg r6 77 (D 84 a3)) (Rp_rg r6 108 a1) rfl rfl) (fun c10 => ?_) (fun c10 => ?_)
        · replace hp := ip c10 hp
          refine ok (m_iinc (q := 133) (lo' := [some (am_r (some 70)), some (am_i (wz a1)), some (am_i (wz a2)), some (am_i (wz (wr (a3 + 1))))]) rfl rfl rfl rfl rfl rfl rfl) ?_
          refine ok (m_goto (q := 4) rfl rfl rfl) ?_
          exact hp d hd _ r6
        · replace hp := iq c10 hp
          refine ok (m_aload_n (q := 60) rfl rfl rfl rfl) ?_
          refine ok (m_gfc (q := 63) rfl rfl rfl r6 rfl rfl rfl) ?_
          refine ok (m_iload_n (q := 64) rfl rfl rfl rfl) ?_
          refine ok (m_ials (q := 65) rfl rfl rfl r6 rfl rfl g2 rfl) ?_
          refine ok (m_aload_n (q := 66) rfl rfl rfl rfl) ?_
          refine ok (m_gfc (q := 69) rfl rfl rfl r6 rfl rfl rfl) ?_
          refine ok (m_iload_n (q := 70) rfl rfl rfl rfl) ?_
          refine ok (m_ials (q := 71) rfl rfl rfl r6 rfl rfl g3 rfl) ?_
          refine okc (m_cmpge (qt := 77) (qf := 74) rfl rfl (Rp_rg r6 85 a3) (Rp_rg r6 113 a1) rfl rfl) (fun c11 => ?_) (fun c11 => ?_)
          · replace hp := ip c11 hp
            refine ok (m_aload_n (q := 78) rfl rfl rfl rfl) ?_
            refine ok (m_iload_n (q := 79) rfl rfl rfl rfl) ?_
            refine ok (m_aload_n (q := 80) rfl rfl rfl rfl) ?_
            refine ok (m_gfs (z := 0) (q := 83) rfl rfl rfl r6 rfl rfl rfl rfl rfl) ?_
            obtain ⟨g14, hp⟩ := hp
            refine oke (e_ci (x_cv (q := 86) rfl rfl rfl rfl rfl rfl rfl rfl rfl rfl (is_st r6 rfl rfl)) (ev_X12_endOf (D := D) a3 (D 70 0) h3 (Rp_rg r6 70 0) g14) (Nat.le_trans (by decide) hd) r6) (fun s12 r13 => ?_)
            refine ok (m_sipush (q := 89) rfl rfl rfl) ?_
            refine okc (m_cmpne (qt := 108) (qf := 92) rfl rfl (Ev_rg (ev_X12_endOf (D := D) a3 (D 70 0) h3 (Rp_rg r6 70 0) g14) r6) ⟨by decide, by decide⟩ rfl rfl) (fun c15 => ?_) (fun c15 => ?_)
            · replace hp := ip c15 hp
              refine ok (m_aload_n (q := 93) rfl rfl rfl rfl) ?_
              refine ok (m_gfs (z := 0) (q := 96) rfl rfl rfl r13 rfl rfl rfl rfl rfl) ?_
              refine ok (m_aload_n (q := 97) rfl rfl rfl rfl) ?_
              refine ok (m_gfc (q := 100) rfl rfl rfl r13 rfl rfl rfl) ?_
              refine ok (m_iload_n (q := 101) rfl rfl rfl rfl) ?_
              refine ok (m_ials (q := 102) rfl rfl rfl r13 rfl rfl g2 rfl) ?_
              refine ok (m_isub (q := 103) rfl rfl rfl) ?_
              refine ok (m_bipush (q := 105) rfl rfl rfl) ?_
              refine okc (m_cmple (qt := 130) (qf := 108) rfl rfl (rg_wr _) ⟨by decide, by decide⟩ rfl rfl) (fun c16 => ?_) (fun c16 => ?_)
              · replace hp := ip c16 hp
                refine ok (m_iinc (q := 133) (lo' := [some (am_r (some 70)), some (am_i (wz a1)), some (am_i (wz a2)), some (am_i (wz (wr (a3 + 1))))]) rfl rfl rfl rfl rfl rfl rfl) ?_
                refine ok (m_goto (q := 4) rfl rfl rfl) ?_
                exact hp d hd _ r13
              · replace hp := iq c16 hp
                refine ok (m_iload_n (q := 109) rfl rfl rfl rfl) ?_
                refine ok (m_iconst (q := 110) rfl rfl rfl) ?_
                refine okc (m_cmpeq (qt := 128) (qf := 113) rfl rfl h2 ⟨by decide, by decide⟩ rfl rfl) (fun c17 => ?_) (fun c17 => ?_)
                · replace hp := ip c17 hp
                  refine ok (m_iload_n (q := 129) rfl rfl rfl rfl) ?_
                  refine ok (m_istore_n (q := 130) (lo' := [some (am_r (some 70)), some (am_i (wz a1)), some (am_i (wz a3)), some (am_i (wz a3))]) rfl rfl rfl rfl rfl) ?_
                  refine ok (m_iinc (q := 133) (lo' := [some (am_r (some 70)), some (am_i (wz a1)), some (am_i (wz a3)), some (am_i (wz (wr (a3 + 1))))]) rfl rfl rfl rfl rfl rfl rfl) ?_
                  refine ok (m_goto (q := 4) rfl rfl rfl) ?_
                  exact hp d hd _ r13
                · replace hp := iq c17 hp
                  refine ok (m_aload_n (q := 114) rfl rfl rfl rfl) ?_
                  refine ok (m_gfc (q := 117) rfl rfl rfl r13 rfl rfl rfl) ?_
                  refine ok (m_iload_n (q := 118) rfl rfl rfl rfl) ?_
                  refine ok (m_ials (q := 119) rfl rfl rfl r13 rfl rfl g2 rfl) ?_
                  refine ok (m_aload_n (q := 120) rfl rfl rfl rfl) ?_
                  refine ok (m_gfc (q := 123) rfl rfl rfl r13 rfl rfl rfl) ?_
                  refine ok (m_iload_n (q := 124) rfl rfl rfl rfl) ?_
                  obtain ⟨g18, hp⟩ := hp
                  refine ok (m_ials (q := 125) rfl rfl rfl r13 rfl rfl g18 rfl) ?_
                  refine okc (m_cmpge (qt := 130) (qf := 128) rfl rfl (Rp_rg r13 85 a3) (Rp_rg r13 85 a2) rfl rfl) (fun c19 => ?_) (fun c19 => ?_)
                  · replace hp := ip c19 hp
                    refine ok (m_iinc (q := 133) (lo' := [some (am_r (some 70)), some (am_i (wz a1)), some (am_i (wz a2)), some (am_i (wz (wr (a3 + 1))))]) rfl rfl rfl rfl rfl rfl rfl) ?_
                    refine ok (m_goto (q := 4) rfl rfl rfl) ?_
                    exact hp d hd _ r13
                  · replace hp := iq c19 hp
                    refine ok (m_iload_n (q := 129) rfl rfl rfl rfl) ?_
                    refine ok (m_istore_n (q := 130) (lo' := [some (am_r (some 70)), some (am_i (wz a1)), some (am_i (wz a3)), some (am_i (wz a3))]) rfl rfl rfl rfl rfl) ?_
                    refine ok (m_iinc (q := 133) (lo' := [some (am_r (some 70)), some (am_i (wz a1)), some (am_i (wz a3)), some (am_i (wz (wr (a3 + 1))))]) rfl rfl rfl rfl rfl rfl rfl) ?_
                    refine ok (m_goto (q := 4) rfl rfl rfl) ?_
                    exact hp d hd _ r13
            · replace hp := iq c15 hp
              refine ok (m_iload_n (q := 109) rfl rfl rfl rfl) ?_
              refine ok (m_iconst (q := 110) rfl rfl rfl) ?_
              refine okc (m_cmpeq (qt := 128) (qf := 113) rfl rfl h2 ⟨by decide, by decide⟩ rfl rfl) (fun c20 => ?_) (fun c20 => ?_)
              · replace hp := ip c20 hp
                refine ok (m_iload_n (q := 129) rfl rfl rfl rfl) ?_
                refine ok (m_istore_n (q := 130) (lo' := [some (am_r (some 70)), some (am_i (wz a1)), some (am_i (wz a3)), some (am_i (wz a3))]) rfl rfl rfl rfl rfl) ?_
                refine ok (m_iinc (q := 133) (lo' := [some (am_r (some 70)), some (am_i (wz a1)), some (am_i (wz a3)), some (am_i (wz (wr (a3 + 1))))]) rfl rfl rfl rfl rfl rfl rfl) ?_
                refine ok (m_goto (q := 4) rfl rfl rfl) ?_
                exact hp d hd _ r13
              · replace hp := iq c20 hp
                refine ok (m_aload_n (q := 114) rfl rfl rfl rfl) ?_
                refine ok (m_gfc (q := 117) rfl rfl rfl r13 rfl rfl rfl) ?_
                refine ok (m_iload_n (q := 118) rfl rfl rfl rfl) ?_
                refine ok (m_ials (q := 119) rfl rfl rfl r13 rfl rfl g2 rfl) ?_
                refine ok (m_aload_n (q := 120) rfl rfl rfl rfl) ?_
                refine ok (m_gfc (q := 123) rfl rfl rfl r13 rfl rfl rfl) ?_
                refine ok (m_iload_n (q := 124) rfl rfl rfl rfl) ?_
                obtain ⟨g21, hp⟩ := hp
                refine ok (m_ials (q := 125) rfl rfl rfl r13 rfl rfl g21 rfl) ?_
                refine okc (m_cmpge (qt := 130) (qf := 128) rfl rfl (Rp_rg r13 85 a3) (Rp_rg r13 85 a2) rfl rfl) (fun c22 => ?_) (fun c22 => ?_)
                · replace hp := ip c22 hp
                  refine ok (m_iinc (q := 133) (lo' := [some (am_r (some 70)), some (am_i (wz a1)), some (am_i (wz a2)), some (am_i (wz (wr (a3 + 1))))]) rfl rfl rfl rfl rfl rfl rfl) ?_
                  refine ok (m_goto (q := 4) rfl rfl rfl) ?_
                  exact hp d hd _ r13
                · replace hp := iq c22 hp
                  refine ok (m_iload_n (q := 129) rfl rfl rfl rfl) ?_
                  refine ok (m_istore_n (q := 130) (lo' := [some (am_r (some 70)), some (am_i (wz a1)), some (am_i (wz a3)), some (am_i (wz a3))]) rfl rfl rfl rfl rfl) ?_
                  refine ok (m_iinc (q := 133) (lo' := [some (am_r (some 70)), some (am_i (wz a1)), some (am_i (wz a3)), some (am_i (wz (wr (a3 + 1))))]) rfl rfl rfl rfl rfl rfl rfl) ?_
                  refine ok (m_goto (q := 4) rfl rfl rfl) ?_
                  exact hp d hd _ r13
          · replace hp := iq c11 hp
            refine ok (m_goto (q := 130) rfl rfl rfl) ?_
            refine ok (m_iinc (q := 133) (lo' := [some (am_r (some 70)), some (am_i (wz a1)), some (am_i (wz a2)), some (am_i (wz (wr (a3 + 1))))]) rfl rfl rfl rfl rfl rfl rfl) ?_
            refine ok (m_goto (q := 4) rfl rfl rfl) ?_
            exact hp d hd _ r6
    · replace hp := iq c4 hp
      refine ok (m_iinc (q := 133) (lo' := [some (am_r (some 70)), some (am_i (wz a1)), some (am_i (wz a2)), some (am_i (wz (wr (a3 + 1))))]) rfl rfl rfl rfl rfl rfl rfl) ?_
      refine ok (m_goto (q := 4) rfl rfl rfl) ?_
      exact hp d hd _ hr
def bhC (D : aD) (c p : Int) : Prop := D 83 p = D 109 c ∧ ¬ v_X12_isKnown D p (D 70 0) = 0 ∧ ¬ D 77 (D 84 p) = D 108 c ∧ D 113 c ≤ D 85 p ∧ (¬ v_X12_endOf D p (D 70 0) = 5000 ∨ 60 < D 70 0 - D 85 p)
def bhStep (D : aD) (c b p : Int) : Int := if (D 83 p = D 109 c ∧ ¬ v_X12_isKnown D p (D 70 0) = 0 ∧ ¬ D 77 (D 84 p) = D 108 c ∧ D 113 c ≤ D 85 p ∧ (¬ v_X12_endOf D p (D 70 0) = 5000 ∨ 60 < D 70 0 - D 85 p)) ∧ (b = -1 ∨ D 85 p < D 85 b) then p else b
def w_behind (D : aD) (c : Int) : Int := foi (bhStep D c) (-1) (D 70 4)
def p_behind (D : aD) (c : Int) : Prop := Iv D ∧ 0 ≤ c ∧ c < D 70 51
theorem bh_b {c : Int} {N : Int} : ∀ j, 0 ≤ j → j ≤ N → -1 ≤ foi (bhStep D c) (-1) j ∧ foi (bhStep D c) (-1) j < j ∨ foi (bhStep D c) (-1) j = -1 := by
  refine foi_ind (Q := fun j x => -1 ≤ x ∧ x < j ∨ x = -1) (Or.inr rfl) (fun j x h0 h1 q => ?_)
  unfold bhStep
  split <;> omega
theorem ev_X12_behind (c : Int) (h1 : rg c) (hp : p_behind D c) : Ev n 2 184 [am_r (some 70), am_i (wz c)] A D (ri (w_behind D c)) A D := by
  obtain ⟨hI, c0, c1⟩ := hp
  have hc := hI.ct; unfold I_ct at hc
  have hu := hI.cu; unfold I_cu at hu
  refine rl_X12_behind c h1 ?_
  refine dn_ind (K := fun j => K_X12_behind_4 n A D c (foi (bhStep D c) (-1) j) j (w_behind D c) D) (lo := 0) (N := D 70 4) ?_ ?_ 0 (by omega) (by omega)
  · have hb := bh_b (D := D) (c := c) (N := D 70 4) (D 70 4) (by omega) (Int.le_refl _)
    refine rl_X12_behind_4 _ _ _ h1 (rgb (by omega) (by omega)) (rgb (by omega) (by omega)) ?_
    rw [if_pos (Int.le_refl _)]; exact ⟨rfl, rfl⟩
  · intro j j0 j1 ih
    have hb := bh_b (D := D) (c := c) (N := j) j j0 (Int.le_refl _)
    rw [foi_s j0] at ih
    generalize foi (bhStep D c) (-1) j = b at ih hb ⊢
    have hg := hI.pg j j0 j1
    refine rl_X12_behind_4 _ _ _ h1 (rgb (by omega) (by omega)) (rgb (by omega) (by omega)) ?_
    rw [if_neg (by omega), wr1 j0 j1 (by omega), wr_id (z := D 70 0 - D 85 j) (by omega) (by omega)]
    have hp1 : p_X12_isKnown D j (D 70 0) := ⟨by omega, by omega⟩
    have hp2 : p_X12_endOf D j (D 70 0) := ⟨by omega, by omega⟩
    have g1 : 0 ≤ j ∧ j < 60 := by omega
    have g2 : 0 ≤ c ∧ c < 60 := by omega
    have g3 : 0 ≤ D 84 j ∧ D 84 j < 30 := by omega
    have g4 : b = -1 ∨ (0 ≤ b ∧ b < 60) := by omega
    clear hg
    refine ⟨g1, g2, ?_⟩
    repeat' (first | exact hp1 | exact hp2 | apply And.intro | split)
    all_goals first
      | omega
      | (rw [show bhStep D c b j = b by unfold bhStep; exact if_neg (by omega)] at ih; exact ih)
      | (rw [show bhStep D c b j = j by unfold bhStep; exact if_pos (by omega)] at ih; exact ih)
abbrev P_X3_provenBy : Nat → Option am_E := am_fy tb_X3_provenBy
def K_X3_provenBy_5 (n : Nat) (A : aA) (D : aD) (i1 : Int) (a2 : Int) (i3 : Int) (a4 : Int) (x : Option Nat) (D' : aD) : Prop := Lp n 6 P_X3_provenBy 5 [some (am_r (some 50)), some (am_r (some (A 12 i1))), some (am_i (wz a2)), some (am_r (nr A 15 i3)), some (am_i (wz a4)), none, none, none] [] A D (rr x) A D'
def K_X3_provenBy_146 (n : Nat) (A : aA) (D : aD) (i1 : Int) (a2 : Int) (i3 : Int) (a4 : Int) (x : Option Nat) (D' : aD) : Prop := Lp n 6 P_X3_provenBy 146 [some (am_r (some 50)), some (am_r (some (A 12 i1))), some (am_i (wz a2)), some (am_r (nr A 15 i3)), some (am_i (wz a4)), none, none, none] [] A D (rr x) A D'
set_option maxRecDepth 100000 in
theorem rl_X3_provenBy {n : Nat} {A : aA} {D D' : aD} (i1 : Int) (a2 : Int) (f1 : D 912 i1 = 1) (h2 : rg a2) {x : Option Nat} (hp : K_X3_provenBy_5 (n) A D i1 a2 (-1) 0 x D') : Ev (n) (7) 28 [am_r (some 50), am_r (some (A 12 i1)), am_i (wz a2)] A D (rr x) A D' := by
  refine Ev_of (c := 6) (P := P_X3_provenBy) (lo := [some (am_r (some 50)), some (am_r (some (A 12 i1))), some (am_i (wz a2)), none, none, none, none, none]) rfl rfl rfl (fun d hd s hr => ?_)
  refine ok (m_aconst_null (q := 1) rfl rfl rfl) ?_
  refine ok (m_astore_n (q := 2) (lo' := [some (am_r (some 50)), some (am_r (some (A 12 i1))), some (am_i (wz a2)), some (am_r (none)), none, none, none, none]) rfl rfl rfl rfl rfl) ?_
  refine ok (m_iconst (q := 3) rfl rfl rfl) ?_
  refine ok (m_istore (q := 5) (lo' := [some (am_r (some 50)), some (am_r (some (A 12 i1))), some (am_i (wz a2)), some (am_r (none)), some (am_i (wz 0)), none, none, none]) rfl rfl rfl rfl rfl) ?_
  exact hp d hd _ hr
set_option maxRecDepth 100000 in
theorem rl_X3_provenBy_5 {n : Nat} {A : aA} {D D' : aD} (i1 : Int) (a2 : Int) (i3 : Int) (a4 : Int) (f1 : D 912 i1 = 1) (h2 : rg a2) (f3 : 0 ≤ i3 → D 915 i3 = 1) (h4 : rg a4) {x : Option Nat} (hp : (if D 1002 5 ≤ a4 then (if i3 < 0 then (x = none ∧ D' = D) else (p_falsehood D i1 a2) ∧ (if w_falseBy D i1 a2 = (-1) then (x = some (A 15 i3) ∧ D' = D) else (x = none ∧ D' = D))) else (0 ≤ a4 ∧ a4 < D 1002 5) ∧ (if D 2000 (D 2501 a4) = D 2201 i1 then (if D 2101 (D 2502 a4) = D 2200 i1 then (if v_X5_isKnownLeftBy D a4 a2 = 0 then (if wr (a2 - (D 2503 a4)) ≤ 60 then K_X3_provenBy_146 (n) A D i1 a2 i3 a4 x D' else K_X3_provenBy_146 (n) A D i1 a2 i3 a4 x D') else K_X3_provenBy_146 (n) A D i1 a2 i3 a4 x D') else (if D 2503 a4 < D 2203 i1 then (if v_X5_isKnownLeftBy D a4 a2 = 0 then (if wr (a2 - (D 2503 a4)) ≤ 60 then K_X3_provenBy_146 (n) A D i1 a2 i3 a4 x D' else K_X3_provenBy_146 (n) A D i1 a2 i3 a4 x D') else K_X3_provenBy_146 (n) A D i1 a2 i3 a4 x D') else (if v_X5_isKnownBy D a4 a2 = 0 then (if v_X5_isKnownLeftBy D a4 a2 = 0 then (if wr (a2 - (D 2503 a4)) ≤ 60 then K_X3_provenBy_146 (n) A D i1 a2 i3 a4 x D' else K_X3_provenBy_146 (n) A D i1 a2 i3 a4 x D') else K_X3_provenBy_146 (n) A D i1 a2 i3 a4 x D') else (if v_X5_isKnownLeftBy D a4 a2 = 0 then (if wr (a2 - (D 2503 a4)) ≤ 60 then K_X3_provenBy_146 (n) A D i1 a2 i3 a4 x D' else (if i3 < 0 then K_X3_provenBy_146 (n) A D i1 a2 a4 a4 x D' else (if D 2503 i3 ≤ D 2503 a4 then K_X3_provenBy_146 (n) A D i1 a2 i3 a4 x D' else K_X3_provenBy_146 (n) A D i1 a2 a4 a4 x D'))) else (if i3 < 0 then K_X3_provenBy_146 (n) A D i1 a2 a4 a4 x D' else (if D 2503 i3 ≤ D 2503 a4 then K_X3_provenBy_146 (n) A D i1 a2 i3 a4 x D' else K_X3_provenBy_146 (n) A D i1 a2 a4 a4 x D')))))) else (if v_X5_isKnownLeftBy D a4 a2 = 0 then (if wr (a2 - (D 2503 a4)) ≤ 60 then K_X3_provenBy_146 (n) A D i1 a2 i3 a4 x D' else K_X3_provenBy_146 (n) A D i1 a2 i3 a4 x D') else K_X3_provenBy_146 (n) A D i1 a2 i3 a4 x D')))) : K_X3_provenBy_5 (n) A D i1 a2 i3 a4 x D' := by
  unfold K_X3_provenBy_5
  refine fun d hd s hr => ?_
  refine ok (m_iload (q := 7) rfl rfl rfl rfl) ?_
  refine ok (m_aload_n (q := 8) rfl rfl rfl rfl) ?_
  have f_1 := Rp_fx0_5 hr
  refine ok (m_gfy (q := 11) rfl rfl rfl hr rfl rfl rfl) ?_
  refine oke (e_ci (x_cv (q := 14) rfl rfl rfl rfl rfl rfl rfl rfl rfl rfl (is_ty hr rfl f_1)) (ev_size 5 f_1) (Nat.le_trans (by decide) hd) hr) (fun s2 r3 => ?_)
  refine okc (m_cmpge (qt := 152) (qf := 17) rfl rfl h4 (show rg (D 1002 5) from Rp_rg hr 1002 5) rfl rfl) (fun c4 => ?_) (fun c4 => ?_)
  · replace hp := ip c4 hp
    refine ok (m_aload_n (q := 153) rfl rfl rfl rfl) ?_
    refine okc ((m_ifnull (qt := 170) (qf := 156) rfl rfl rfl rfl).trans (ifn_n r3 rfl f3)) (fun c5 => ?_) (fun c5 => ?_)
    · replace hp := ip c5 hp
      refine ok (m_aconst_null (q := 171) rfl rfl rfl) ?_
      exact ok (m_retr rfl rfl) (ok_rq r3 hp)
    · replace hp := iq c5 hp
      refine ok (o' := mr d P_X3_provenBy 156 [some (am_r (some 50)), some (am_r (some (A 12 i1))), some (am_i (wz a2)), some (am_r (some (A 15 i3))), some (am_i (wz a4)), none, none, none] [] s2) (by rw [nr_s (Int.not_lt.mp c5)]; try rfl) ?_
      refine ok (m_aload_n (q := 157) rfl rfl rfl rfl) ?_
      refine ok (m_aload_n (q := 158) rfl rfl rfl rfl) ?_
      refine ok (m_iload_n (q := 159) rfl rfl rfl rfl) ?_
      obtain ⟨g8, hp⟩ := hp
      refine oke (e_ci (x_cv (q := 162) rfl rfl rfl rfl rfl rfl rfl rfl rfl rfl (is_st r3 rfl rfl)) (ev_X3_falsehood (D := D) i1 a2 f1 h2 g8) (Nat.le_trans (by decide) hd) r3) (fun s6 r7 => ?_)
      refine ok (m_iconst (q := 163) rfl rfl rfl) ?_
      refine okc (m_cmpne (qt := 170) (qf := 166) rfl rfl (Ev_rg (ev_X3_falsehood (D := D) i1 a2 f1 h2 g8) r3) ⟨by decide, by decide⟩ rfl rfl) (fun c9 => ?_) (fun c9 => ?_)
      · replace hp := ip c9 hp
        refine ok (m_aload_n (q := 167) rfl rfl rfl rfl) ?_
        refine ok (m_goto (q := 171) rfl rfl rfl) ?_
        exact ok (m_retr rfl rfl) (ok_rq r7 hp)
      · replace hp := iq c9 hp
        refine ok (m_aconst_null (q := 171) rfl rfl rfl) ?_
        exact ok (m_retr rfl rfl) (ok_rq r7 hp)
  · replace hp := iq c4 hp
    refine ok (m_aload_n (q := 18) rfl rfl rfl rfl) ?_
    have f_10 := Rp_fx0_5 r3
    refine ok (m_gfy (q := 21) rfl rfl rfl r3 rfl rfl rfl) ?_
    refine ok (m_iload (q := 23) rfl rfl rfl rfl) ?_
    obtain ⟨g13, hp⟩ := hp
    have f_14 := Rp_el5 (D := D) r3 g13
    refine oke (e_cr (x_cv (q := 26) rfl rfl rfl rfl rfl rfl rfl rfl rfl rfl (is_ty r3 rfl f_10)) (ev_get5 a4 g13) (Nat.le_trans (by decide) hd) r3) (fun s11 r12 => ?_)
    refine ok (m_cast (q := 29) rfl rfl rfl (isN_ty r12 rfl f_14)) ?_
    refine ok (m_astore (q := 31) (lo' := [some (am_r (some 50)), some (am_r (some (A 12 i1))), some (am_i (wz a2)), some (am_r (nr A 15 i3)), some (am_i (wz a4)), some (am_r (some (A 15 a4))), none, none]) rfl rfl rfl rfl rfl) ?_
    refine ok (m_aload (q := 33) rfl rfl rfl rfl) ?_
    have f_15 : D 910 (D 2501 a4) = 1 := Rp_f15_10 (D := D) (i := a4) r12 f_14
    refine ok (m_gfx (t := 15) (q := 36) (r := some (A 10 (D 2501 a4))) rfl rfl rfl r12 rfl f_14 rfl rfl rfl) ?_
    refine ok (m_gft (t := 10) (q := 39) rfl rfl rfl r12 rfl f_15 rfl rfl rfl) ?_
    refine ok (m_aload_n (q := 40) rfl rfl rfl rfl) ?_
    refine ok (m_gft (t := 12) (q := 43) rfl rfl rfl r12 rfl f1 rfl rfl rfl) ?_
    refine okc (m_cmpne (qt := 86) (qf := 46) rfl rfl (show rg (D 2000 (D 2501 a4)) from Rp_rg r12 2000 (D 2501 a4)) (show rg (D 2201 i1) from Rp_rg r12 2201 i1) rfl rfl) (fun c16 => ?_) (fun c16 => ?_)
    · replace hp := ip c16 hp
      refine ok (m_aload (q := 48) rfl rfl rfl rfl) ?_
      have f_17 : D 911 (D 2502 a4) = 1 := Rp_f15_11 (D := D) (i := a4) r12 f_14
      refine ok (m_gfx (t := 15) (q := 51) (r := some (A 11 (D 2502 a4))) rfl rfl rfl r12 rfl f_14 rfl rfl rfl) ?_
      refine ok (m_gft (t := 11) (q := 54) rfl rfl rfl r12 rfl f_17 rfl rfl rfl) ?_
      refine ok (m_aload_n (q := 55) rfl rfl rfl rfl) ?_
      refine ok (m_gft (t := 12) (q := 58) rfl rfl rfl r12 rfl f1 rfl rfl rfl) ?_
      refine okc (m_cmpeq (qt := 86) (qf := 61) rfl rfl (show rg (D 2101 (D 2502 a4)) from Rp_rg r12 2101 (D 2502 a4)) (show rg (D 2200 i1) from Rp_rg r12 2200 i1) rfl rfl) (fun c18 => ?_) (fun c18 => ?_)
      · replace hp := ip c18 hp
        refine ok (m_iconst (q := 87) rfl rfl rfl) ?_
        refine ok (m_istore (q := 89) (lo' := [some (am_r (some 50)), some (am_r (some (A 12 i1))), some (am_i (wz a2)), some (am_r (nr A 15 i3)), some (am_i (wz a4)), some (am_r (some (A 15 a4))), some (am_i (wz 0)), none]) rfl rfl rfl rfl rfl) ?_
        refine ok (m_aload (q := 91) rfl rfl rfl rfl) ?_
        refine ok (m_iload_n (q := 92) rfl rfl rfl rfl) ?_
        refine oke (e_ci (x_cv (q := 95) rfl rfl rfl rfl rfl rfl rfl rfl rfl rfl (is_ty r12 rfl f_14)) (ev_X5_isKnownLeftBy (D := D) a4 a2 f_14 h2) (Nat.le_trans (by decide) hd) r12) (fun s19 r20 => ?_)
        refine okc (m_ifne (qt := 110) (qf := 98) rfl rfl (Ev_rg (ev_X5_isKnownLeftBy (D := D) a4 a2 f_14 h2) r12) rfl rfl) (fun c21 => ?_) (fun c21 => ?_)
        · replace hp := ip c21 hp
          refine ok (m_iload_n (q := 99) rfl rfl rfl rfl) ?_
          refine ok (m_aload (q := 101) rfl rfl rfl rfl) ?_
          refine ok (m_gft (t := 15) (q := 104) rfl rfl rfl r20 rfl f_14 rfl rfl rfl) ?_
          refine ok (m_isub (q := 105) rfl rfl rfl) ?_
          refine ok (m_bipush (q := 107) rfl rfl rfl) ?_
          refine okc (m_cmple (qt := 114) (qf := 110) rfl rfl (rg_wr _) ⟨by decide, by decide⟩ rfl rfl) (fun c22 => ?_) (fun c22 => ?_)
          · replace hp := ip c22 hp
            refine ok (m_iconst (q := 115) rfl rfl rfl) ?_
            refine ok (m_istore (q := 117) (lo' := [some (am_r (some 50)), some (am_r (some (A 12 i1))), some (am_i (wz a2)), some (am_r (nr A 15 i3)), some (am_i (wz a4)), some (am_r (some (A 15 a4))), some (am_i (wz 0)), some (am_i (wz 0))]) rfl rfl rfl rfl rfl) ?_
            refine ok (m_iload (q := 119) rfl rfl rfl rfl) ?_
            refine ok ((m_ifeq (qt := 146) (qf := 122) rfl rfl ⟨by decide, by decide⟩ rfl rfl).trans (if_pos (by decide))) ?_
            refine ok (mk rfl (lo' := [some (am_r (some 50)), some (am_r (some (A 12 i1))), some (am_i (wz a2)), some (am_r (nr A 15 i3)), some (am_i (wz a4)), none, none, none]) rfl) ?_
            exact hp d hd _ r20
          · replace hp := iq c22 hp
            refine ok (m_iconst (q := 111) rfl rfl rfl) ?_
            refine ok (m_goto (q := 115) rfl rfl rfl) ?_
            refine ok (m_istore (q := 117) (lo' := [some (am_r (some 50)), some (am_r (some (A 12 i1))), some (am_i (wz a2)), some (am_r (nr A 15 i3)), some (am_i (wz a4)), some (am_r (some (A 15 a4))), some (am_i (wz 0)), some (am_i (wz 1))]) rfl rfl rfl rfl rfl) ?_
            refine ok (m_iload (q := 119) rfl rfl rfl rfl) ?_
            refine ok ((m_ifeq (qt := 146) (qf := 122) rfl rfl ⟨by decide, by decide⟩ rfl rfl).trans (if_pos (by decide))) ?_
            refine ok (mk rfl (lo' := [some (am_r (some 50)), some (am_r (some (A 12 i1))), some (am_i (wz a2)), some (am_r (nr A 15 i3)), some (am_i (wz a4)), none, none, none]) rfl) ?_
            exact hp d hd _ r20
        · replace hp := iq c21 hp
          refine ok (m_iconst (q := 111) rfl rfl rfl) ?_
          refine ok (m_goto (q := 115) rfl rfl rfl) ?_
          refine ok (m_istore (q := 117) (lo' := [some (am_r (some 50)), some (am_r (some (A 12 i1))), some (am_i (wz a2)), some (am_r (nr A 15 i3)), some (am_i (wz a4)), some (am_r (some (A 15 a4))), some (am_i (wz 0)), some (am_i (wz 1))]) rfl rfl rfl rfl rfl) ?_
          refine ok (m_iload (q := 119) rfl rfl rfl rfl) ?_
          refine ok ((m_ifeq (qt := 146) (qf := 122) rfl rfl ⟨by decide, by decide⟩ rfl rfl).trans (if_pos (by decide))) ?_
          refine ok (mk rfl (lo' := [some (am_r (some 50)), some (am_r (some (A 12 i1))), some (am_i (wz a2)), some (am_r (nr A 15 i3)), some (am_i (wz a4)), none, none, none]) rfl) ?_
          exact hp d hd _ r20
      · replace hp := iq c18 hp
        refine ok (m_aload (q := 63) rfl rfl rfl rfl) ?_
        refine ok (m_gft (t := 15) (q := 66) rfl rfl rfl r12 rfl f_14 rfl rfl rfl) ?_
        refine ok (m_aload_n (q := 67) rfl rfl rfl rfl) ?_
        refine ok (m_gft (t := 12) (q := 70) rfl rfl rfl r12 rfl f1 rfl rfl rfl) ?_
        refine okc (m_cmplt (qt := 86) (qf := 73) rfl rfl (show rg (D 2503 a4) from Rp_rg r12 2503 a4) (show rg (D 2203 i1) from Rp_rg r12 2203 i1) rfl rfl) (fun c23 => ?_) (fun c23 => ?_)
        · replace hp := ip c23 hp
          refine ok (m_iconst (q := 87) rfl rfl rfl) ?_
          refine ok (m_istore (q := 89) (lo' := [some (am_r (some 50)), some (am_r (some (A 12 i1))), some (am_i (wz a2)), some (am_r (nr A 15 i3)), some (am_i (wz a4)), some (am_r (some (A 15 a4))), some (am_i (wz 0)), none]) rfl rfl rfl rfl rfl) ?_
          refine ok (m_aload (q := 91) rfl rfl rfl rfl) ?_
          refine ok (m_iload_n (q := 92) rfl rfl rfl rfl) ?_
          refine oke (e_ci (x_cv (q := 95) rfl rfl rfl rfl rfl rfl rfl rfl rfl rfl (is_ty r12 rfl f_14)) (ev_X5_isKnownLeftBy (D := D) a4 a2 f_14 h2) (Nat.le_trans (by decide) hd) r12) (fun s24 r25 => ?_)
          refine okc (m_ifne (qt := 110) (qf := 98) rfl rfl (Ev_rg (ev_X5_isKnownLeftBy (D := D) a4 a2 f_14 h2) r12) rfl rfl) (fun c26 => ?_) (fun c26 => ?_)
          · replace hp := ip c26 hp
            refine ok (m_iload_n (q := 99) rfl rfl rfl rfl) ?_
            refine ok (m_aload (q := 101) rfl rfl rfl rfl) ?_
            refine ok (m_gft (t := 15) (q := 104) rfl rfl rfl r25 rfl f_14 rfl rfl rfl) ?_
            refine ok (m_isub (q := 105) rfl rfl rfl) ?_
            refine ok (m_bipush (q := 107) rfl rfl rfl) ?_
            refine okc (m_cmple (qt := 114) (qf := 110) rfl rfl (rg_wr _) ⟨by decide, by decide⟩ rfl rfl) (fun c27 => ?_) (fun c27 => ?_)
            · replace hp := ip c27 hp
              refine ok (m_iconst (q := 115) rfl rfl rfl) ?_
              refine ok (m_istore (q := 117) (lo' := [some (am_r (some 50)), some (am_r (some (A 12 i1))), some (am_i (wz a2)), some (am_r (nr A 15 i3)), some (am_i (wz a4)), some (am_r (some (A 15 a4))), some (am_i (wz 0)), some (am_i (wz 0))]) rfl rfl rfl rfl rfl) ?_
              refine ok (m_iload (q := 119) rfl rfl rfl rfl) ?_
              refine ok ((m_ifeq (qt := 146) (qf := 122) rfl rfl ⟨by decide, by decide⟩ rfl rfl).trans (if_pos (by decide))) ?_
              refine ok (mk rfl (lo' := [some (am_r (some 50)), some (am_r (some (A 12 i1))), some (am_i (wz a2)), some (am_r (nr A 15 i3)), some (am_i (wz a4)), none, none, none]) rfl) ?_
              exact hp d hd _ r25
            · replace hp := iq c27 hp
              refine ok (m_iconst (q := 111) rfl rfl rfl) ?_
              refine ok (m_goto (q := 115) rfl rfl rfl) ?_
              refine ok (m_istore (q := 117) (lo' := [some (am_r (some 50)), some (am_r (some (A 12 i1))), some (am_i (wz a2)), some (am_r (nr A 15 i3)), some (am_i (wz a4)), some (am_r (some (A 15 a4))), some (am_i (wz 0)), some (am_i (wz 1))]) rfl rfl rfl rfl rfl) ?_
              refine ok (m_iload (q := 119) rfl rfl rfl rfl) ?_
              refine ok ((m_ifeq (qt := 146) (qf := 122) rfl rfl ⟨by decide, by decide⟩ rfl rfl).trans (if_pos (by decide))) ?_
              refine ok (mk rfl (lo' := [some (am_r (some 50)), some (am_r (some (A 12 i1))), some (am_i (wz a2)), some (am_r (nr A 15 i3)), some (am_i (wz a4)), none, none, none]) rfl) ?_
              exact hp d hd _ r25
          · replace hp := iq c26 hp
            refine ok (m_iconst (q := 111) rfl rfl rfl) ?_
            refine ok (m_goto (q := 115) rfl rfl rfl) ?_
            refine ok (m_istore (q := 117) (lo' := [some (am_r (some 50)), some (am_r (some (A 12 i1))), some (am_i (wz a2)), some (am_r (nr A 15 i3)), some (am_i (wz a4)), some (am_r (some (A 15 a4))), some (am_i (wz 0)), some (am_i (wz 1))]) rfl rfl rfl rfl rfl) ?_
            refine ok (m_iload (q := 119) rfl rfl rfl rfl) ?_
            refine ok ((m_ifeq (qt := 146) (qf := 122) rfl rfl ⟨by decide, by decide⟩ rfl rfl).trans (if_pos (by decide))) ?_
            refine ok (mk rfl (lo' := [some (am_r (some 50)), some (am_r (some (A 12 i1))), some (am_i (wz a2)), some (am_r (nr A 15 i3)), some (am_i (wz a4)), none, none, none]) rfl) ?_
            exact hp d hd _ r25
        · replace hp := iq c23 hp
          refine ok (m_aload (q := 75) rfl rfl rfl rfl) ?_
          refine ok (m_iload_n (q := 76) rfl rfl rfl rfl) ?_
          refine oke (e_ci (x_cv (q := 79) rfl rfl rfl rfl rfl rfl rfl rfl rfl rfl (is_ty r12 rfl f_14)) (ev_X5_isKnownBy (D := D) a4 a2 f_14 h2) (Nat.le_trans (by decide) hd) r12) (fun s28 r29 => ?_)
          refine okc (m_ifeq (qt := 86) (qf := 82) rfl rfl (Ev_rg (ev_X5_isKnownBy (D := D) a4 a2 f_14 h2) r12) rfl rfl) (fun c30 => ?_) (fun c30 => ?_)
          · replace hp := ip c30 hp
            refine ok (m_iconst (q := 87) rfl rfl rfl) ?_
            refine ok (m_istore (q := 89) (lo' := [some (am_r (some 50)), some (am_r (some (A 12 i1))), some (am_i (wz a2)), some (am_r (nr A 15 i3)), some (am_i (wz a4)), some (am_r (some (A 15 a4))), some (am_i (wz 0)), none]) rfl rfl rfl rfl rfl) ?_
            refine ok (m_aload (q := 91) rfl rfl rfl rfl) ?_
            refine ok (m_iload_n (q := 92) rfl rfl rfl rfl) ?_
            refine oke (e_ci (x_cv (q := 95) rfl rfl rfl rfl rfl rfl rfl rfl rfl rfl (is_ty r29 rfl f_14)) (ev_X5_isKnownLeftBy (D := D) a4 a2 f_14 h2) (Nat.le_trans (by decide) hd) r29) (fun s31 r32 => ?_)
            refine okc (m_ifne (qt := 110) (qf := 98) rfl rfl (Ev_rg (ev_X5_isKnownLeftBy (D := D) a4 a2 f_14 h2) r29) rfl rfl) (fun c33 => ?_) (fun c33 => ?_)
            · replace hp := ip c33 hp
              refine ok (m_iload_n (q := 99) rfl rfl rfl rfl) ?_
              refine ok (m_aload (q := 101) rfl rfl rfl rfl) ?_
              refine ok (m_gft (t := 15) (q := 104) rfl rfl rfl r32 rfl f_14 rfl rfl rfl) ?_
              refine ok (m_isub (q := 105) rfl rfl rfl) ?_
              refine ok (m_bipush (q := 107) rfl rfl rfl) ?_
              refine okc (m_cmple (qt := 114) (qf := 110) rfl rfl (rg_wr _) ⟨by decide, by decide⟩ rfl rfl) (fun c34 => ?_) (fun c34 => ?_)
              · replace hp := ip c34 hp
                refine ok (m_iconst (q := 115) rfl rfl rfl) ?_
                refine ok (m_istore (q := 117) (lo' := [some (am_r (some 50)), some (am_r (some (A 12 i1))), some (am_i (wz a2)), some (am_r (nr A 15 i3)), some (am_i (wz a4)), some (am_r (some (A 15 a4))), some (am_i (wz 0)), some (am_i (wz 0))]) rfl rfl rfl rfl rfl) ?_
                refine ok (m_iload (q := 119) rfl rfl rfl rfl) ?_
                refine ok ((m_ifeq (qt := 146) (qf := 122) rfl rfl ⟨by decide, by decide⟩ rfl rfl).trans (if_pos (by decide))) ?_
                refine ok (mk rfl (lo' := [some (am_r (some 50)), some (am_r (some (A 12 i1))), some (am_i (wz a2)), some (am_r (nr A 15 i3)), some (am_i (wz a4)), none, none, none]) rfl) ?_
                exact hp d hd _ r32
              · replace hp := iq c34 hp
                refine ok (m_iconst (q := 111) rfl rfl rfl) ?_
                refine ok (m_goto (q := 115) rfl rfl rfl) ?_
                refine ok (m_istore (q := 117) (lo' := [some (am_r (some 50)), some (am_r (some (A 12 i1))), some (am_i (wz a2)), some (am_r (nr A 15 i3)), some (am_i (wz a4)), some (am_r (some (A 15 a4))), some (am_i (wz 0)), some (am_i (wz 1))]) rfl rfl rfl rfl rfl) ?_
                refine ok (m_iload (q := 119) rfl rfl rfl rfl) ?_
                refine ok ((m_ifeq (qt := 146) (qf := 122) rfl rfl ⟨by decide, by decide⟩ rfl rfl).trans (if_pos (by decide))) ?_
                refine ok (mk rfl (lo' := [some (am_r (some 50)), some (am_r (some (A 12 i1))), some (am_i (wz a2)), some (am_r (nr A 15 i3)), some (am_i (wz a4)), none, none, none]) rfl) ?_
                exact hp d hd _ r32
            · replace hp := iq c33 hp
              refine ok (m_iconst (q := 111) rfl rfl rfl) ?_
              refine ok (m_goto (q := 115) rfl rfl rfl) ?_
              refine ok (m_istore (q := 117) (lo' := [some (am_r (some 50)), some (am_r (some (A 12 i1))), some (am_i (wz a2)), some (am_r (nr A 15 i3)), some (am_i (wz a4)), some (am_r (some (A 15 a4))), some (am_i (wz 0)), some (am_i (wz 1))]) rfl rfl rfl rfl rfl) ?_
              refine ok (m_iload (q := 119) rfl rfl rfl rfl) ?_
              refine ok ((m_ifeq (qt := 146) (qf := 122) rfl rfl ⟨by decide, by decide⟩ rfl rfl).trans (if_pos (by decide))) ?_
              refine ok (mk rfl (lo' := [some (am_r (some 50)), some (am_r (some (A 12 i1))), some (am_i (wz a2)), some (am_r (nr A 15 i3)), some (am_i (wz a4)), none, none, none]) rfl) ?_
              exact hp d hd _ r32
          · replace hp := iq c30 hp
            refine ok (m_iconst (q := 83) rfl rfl rfl) ?_
            refine ok (m_goto (q := 87) rfl rfl rfl) ?_
            refine ok (m_istore (q := 89) (lo' := [some (am_r (some 50)), some (am_r (some (A 12 i1))), some (am_i (wz a2)), some (am_r (nr A 15 i3)), some (am_i (wz a4)), some (am_r (some (A 15 a4))), some (am_i (wz 1)), none]) rfl rfl rfl rfl rfl) ?_
            refine ok (m_aload (q := 91) rfl rfl rfl rfl) ?_
            refine ok (m_iload_n (q := 92) rfl rfl rfl rfl) ?_
            refine oke (e_ci (x_cv (q := 95) rfl rfl rfl rfl rfl rfl rfl rfl rfl rfl (is_ty r29 rfl f_14)) (ev_X5_isKnownLeftBy (D := D) a4 a2 f_14 h2) (Nat.le_trans (by decide) hd) r29) (fun s35 r36 => ?_)
            refine okc (m_ifne (qt := 110) (qf := 98) rfl rfl (Ev_rg (ev_X5_isKnownLeftBy (D := D) a4 a2 f_14 h2) r29) rfl rfl) (fun c37 => ?_) (fun c37 => ?_)
            · replace hp := ip c37 hp
              refine ok (m_iload_n (q := 99) rfl rfl rfl rfl) ?_
              refine ok (m_aload (q := 101) rfl rfl rfl rfl) ?_
              refine ok (m_gft (t := 15) (q := 104) rfl rfl rfl r36 rfl f_14 rfl rfl rfl) ?_
              refine ok (m_isub (q := 105) rfl rfl rfl) ?_
              refine ok (m_bipush (q := 107) rfl rfl rfl) ?_
              refine okc (m_cmple (qt := 114) (qf := 110) rfl rfl (rg_wr _) ⟨by decide, by decide⟩ rfl rfl) (fun c38 => ?_) (fun c38 => ?_)
              · replace hp := ip c38 hp
                refine ok (m_iconst (q := 115) rfl rfl rfl) ?_
                refine ok (m_istore (q := 117) (lo' := [some (am_r (some 50)), some (am_r (some (A 12 i1))), some (am_i (wz a2)), some (am_r (nr A 15 i3)), some (am_i (wz a4)), some (am_r (some (A 15 a4))), some (am_i (wz 1)), some (am_i (wz 0))]) rfl rfl rfl rfl rfl) ?_
                refine ok (m_iload (q := 119) rfl rfl rfl rfl) ?_
                refine ok ((m_ifeq (qt := 146) (qf := 122) rfl rfl ⟨by decide, by decide⟩ rfl rfl).trans (if_neg (by decide))) ?_
                refine ok (m_iload (q := 124) rfl rfl rfl rfl) ?_
                refine ok ((m_ifeq (qt := 146) (qf := 127) rfl rfl ⟨by decide, by decide⟩ rfl rfl).trans (if_pos (by decide))) ?_
                refine ok (mk rfl (lo' := [some (am_r (some 50)), some (am_r (some (A 12 i1))), some (am_i (wz a2)), some (am_r (nr A 15 i3)), some (am_i (wz a4)), none, none, none]) rfl) ?_
                exact hp d hd _ r36
              · replace hp := iq c38 hp
                refine ok (m_iconst (q := 111) rfl rfl rfl) ?_
                refine ok (m_goto (q := 115) rfl rfl rfl) ?_
                refine ok (m_istore (q := 117) (lo' := [some (am_r (some 50)), some (am_r (some (A 12 i1))), some (am_i (wz a2)), some (am_r (nr A 15 i3)), some (am_i (wz a4)), some (am_r (some (A 15 a4))), some (am_i (wz 1)), some (am_i (wz 1))]) rfl rfl rfl rfl rfl) ?_
                refine ok (m_iload (q := 119) rfl rfl rfl rfl) ?_
                refine ok ((m_ifeq (qt := 146) (qf := 122) rfl rfl ⟨by decide, by decide⟩ rfl rfl).trans (if_neg (by decide))) ?_
                refine ok (m_iload (q := 124) rfl rfl rfl rfl) ?_
                refine ok ((m_ifeq (qt := 146) (qf := 127) rfl rfl ⟨by decide, by decide⟩ rfl rfl).trans (if_neg (by decide))) ?_
                refine ok (m_aload_n (q := 128) rfl rfl rfl rfl) ?_
                refine okc ((m_ifnull (qt := 143) (qf := 131) rfl rfl rfl rfl).trans (ifn_n r36 rfl f3)) (fun c39 => ?_) (fun c39 => ?_)
                · replace hp := ip c39 hp
                  refine ok (m_aload (q := 145) rfl rfl rfl rfl) ?_
                  refine ok (m_astore_n (q := 146) (lo' := [some (am_r (some 50)), some (am_r (some (A 12 i1))), some (am_i (wz a2)), some (am_r (some (A 15 a4))), some (am_i (wz a4)), some (am_r (some (A 15 a4))), some (am_i (wz 1)), some (am_i (wz 1))]) rfl rfl rfl rfl rfl) ?_
                  refine ok (mk rfl (lo' := [some (am_r (some 50)), some (am_r (some (A 12 i1))), some (am_i (wz a2)), some (am_r (some (A 15 a4))), some (am_i (wz a4)), none, none, none]) rfl) ?_
                  refine ok (o' := mr d P_X3_provenBy 146 [some (am_r (some 50)), some (am_r (some (A 12 i1))), some (am_i (wz a2)), some (am_r (nr A 15 a4)), some (am_i (wz a4)), none, none, none] [] s35) (by rw [nr_s g13.1]; try rfl) ?_
                  exact hp d hd _ r36
                · replace hp := iq c39 hp
                  refine ok (o' := mr d P_X3_provenBy 131 [some (am_r (some 50)), some (am_r (some (A 12 i1))), some (am_i (wz a2)), some (am_r (some (A 15 i3))), some (am_i (wz a4)), some (am_r (some (A 15 a4))), some (am_i (wz 1)), some (am_i (wz 1))] [] s35) (by rw [nr_s (Int.not_lt.mp c39)]; try rfl) ?_
                  refine ok (m_aload (q := 133) rfl rfl rfl rfl) ?_
                  refine ok (m_gft (t := 15) (q := 136) rfl rfl rfl r36 rfl f_14 rfl rfl rfl) ?_
                  refine ok (m_aload_n (q := 137) rfl rfl rfl rfl) ?_
                  refine ok (m_gft (t := 15) (q := 140) rfl rfl rfl r36 rfl (f3 (Int.not_lt.mp c39)) rfl rfl rfl) ?_
                  refine okc (m_cmpge (qt := 146) (qf := 143) rfl rfl (show rg (D 2503 a4) from Rp_rg r36 2503 a4) (show rg (D 2503 i3) from Rp_rg r36 2503 i3) rfl rfl) (fun c40 => ?_) (fun c40 => ?_)
                  · replace hp := ip c40 hp
                    refine ok (mk rfl (lo' := [some (am_r (some 50)), some (am_r (some (A 12 i1))), some (am_i (wz a2)), some (am_r (some (A 15 i3))), some (am_i (wz a4)), none, none, none]) rfl) ?_
                    refine ok (o' := mr d P_X3_provenBy 146 [some (am_r (some 50)), some (am_r (some (A 12 i1))), some (am_i (wz a2)), some (am_r (nr A 15 i3)), some (am_i (wz a4)), none, none, none] [] s35) (by rw [nr_s (Int.not_lt.mp c39)]; try rfl) ?_
                    exact hp d hd _ r36
                  · replace hp := iq c40 hp
                    refine ok (m_aload (q := 145) rfl rfl rfl rfl) ?_
                    refine ok (m_astore_n (q := 146) (lo' := [some (am_r (some 50)), some (am_r (some (A 12 i1))), some (am_i (wz a2)), some (am_r (some (A 15 a4))), some (am_i (wz a4)), some (am_r (some (A 15 a4))), some (am_i (wz 1)), some (am_i (wz 1))]) rfl rfl rfl rfl rfl) ?_
                    refine ok (mk rfl (lo' := [some (am_r (some 50)), some (am_r (some (A 12 i1))), some (am_i (wz a2)), some (am_r (some (A 15 a4))), some (am_i (wz a4)), none, none, none]) rfl) ?_
                    refine ok (o' := mr d P_X3_provenBy 146 [some (am_r (some 50)), some (am_r (some (A 12 i1))), some (am_i (wz a2)), some (am_r (nr A 15 a4)), some (am_i (wz a4)), none, none, none] [] s35) (by rw [nr_s g13.1]; try rfl) ?_
                    exact hp d hd _ r36
            · replace hp := iq c37 hp
              refine ok (m_iconst (q := 111) rfl rfl rfl) ?_
              refine ok (m_goto (q := 115) rfl rfl rfl) ?_
              refine ok (m_istore (q := 117) (lo' := [some (am_r (some 50)), some (am_r (some (A 12 i1))), some (am_i (wz a2)), some (am_r (nr A 15 i3)), some (am_i (wz a4)), some (am_r (some (A 15 a4))), some (am_i (wz 1)), some (am_i (wz 1))]) rfl rfl rfl rfl rfl) ?_
              refine ok (m_iload (q := 119) rfl rfl rfl rfl) ?_
              refine ok ((m_ifeq (qt := 146) (qf := 122) rfl rfl ⟨by decide, by decide⟩ rfl rfl).trans (if_neg (by decide))) ?_
              refine ok (m_iload (q := 124) rfl rfl rfl rfl) ?_
              refine ok ((m_ifeq (qt := 146) (qf := 127) rfl rfl ⟨by decide, by decide⟩ rfl rfl).trans (if_neg (by decide))) ?_
              refine ok (m_aload_n (q := 128) rfl rfl rfl rfl) ?_
              refine okc ((m_ifnull (qt := 143) (qf := 131) rfl rfl rfl rfl).trans (ifn_n r36 rfl f3)) (fun c41 => ?_) (fun c41 => ?_)
              · replace hp := ip c41 hp
                refine ok (m_aload (q := 145) rfl rfl rfl rfl) ?_
                refine ok (m_astore_n (q := 146) (lo' := [some (am_r (some 50)), some (am_r (some (A 12 i1))), some (am_i (wz a2)), some (am_r (some (A 15 a4))), some (am_i (wz a4)), some (am_r (some (A 15 a4))), some (am_i (wz 1)), some (am_i (wz 1))]) rfl rfl rfl rfl rfl) ?_
                refine ok (mk rfl (lo' := [some (am_r (some 50)), some (am_r (some (A 12 i1))), some (am_i (wz a2)), some (am_r (some (A 15 a4))), some (am_i (wz a4)), none, none, none]) rfl) ?_
                refine ok (o' := mr d P_X3_provenBy 146 [some (am_r (some 50)), some (am_r (some (A 12 i1))), some (am_i (wz a2)), some (am_r (nr A 15 a4)), some (am_i (wz a4)), none, none, none] [] s35) (by rw [nr_s g13.1]; try rfl) ?_
                exact hp d hd _ r36
              · replace hp := iq c41 hp
                refine ok (o' := mr d P_X3_provenBy 131 [some (am_r (some 50)), some (am_r (some (A 12 i1))), some (am_i (wz a2)), some (am_r (some (A 15 i3))), some (am_i (wz a4)), some (am_r (some (A 15 a4))), some (am_i (wz 1)), some (am_i (wz 1))] [] s35) (by rw [nr_s (Int.not_lt.mp c41)]; try rfl) ?_
                refine ok (m_aload (q := 133) rfl rfl rfl rfl) ?_
                refine ok (m_gft (t := 15) (q := 136) rfl rfl rfl r36 rfl f_14 rfl rfl rfl) ?_
                refine ok (m_aload_n (q := 137) rfl rfl rfl rfl) ?_
                refine ok (m_gft (t := 15) (q := 140) rfl rfl rfl r36 rfl (f3 (Int.not_lt.mp c41)) rfl rfl rfl) ?_
                refine okc (m_cmpge (qt := 146) (qf := 143) rfl rfl (show rg (D 2503 a4) from Rp_rg r36 2503 a4) (show rg (D 2503 i3) from Rp_rg r36 2503 i3) rfl rfl) (fun c42 => ?_) (fun c42 => ?_)
                · replace hp := ip c42 hp
                  refine ok (mk rfl (lo' := [some (am_r (some 50)), some (am_r (some (A 12 i1))), some (am_i (wz a2)), some (am_r (some (A 15 i3))), some (am_i (wz a4)), none, none, none]) rfl) ?_
                  refine ok (o' := mr d P_X3_provenBy 146 [some (am_r (some 50)), some (am_r (some (A 12 i1))), some (am_i (wz a2)), some (am_r (nr A 15 i3)), some (am_i (wz a4)), none, none, none] [] s35) (by rw [nr_s (Int.not_lt.mp c41)]; try rfl) ?_
                  exact hp d hd _ r36
                · replace hp := iq c42 hp
                  refine ok (m_aload (q := 145) rfl rfl rfl rfl) ?_
                  refine ok (m_astore_n (q := 146) (lo' := [some (am_r (some 50)), some (am_r (some (A 12 i1))), some (am_i (wz a2)), some (am_r (some (A 15 a4))), some (am_i (wz a4)), some (am_r (some (A 15 a4))), some (am_i (wz 1)), some (am_i (wz 1))]) rfl rfl rfl rfl rfl) ?_
                  refine ok (mk rfl (lo' := [some (am_r (some 50)), some (am_r (some (A 12 i1))), some (am_i (wz a2)), some (am_r (some (A 15 a4))), some (am_i (wz a4)), none, none, none]) rfl) ?_
                  refine ok (o' := mr d P_X3_provenBy 146 [some (am_r (some 50)), some (am_r (some (A 12 i1))), some (am_i (wz a2)), some (am_r (nr A 15 a4)), some (am_i (wz a4)), none, none, none] [] s35) (by rw [nr_s g13.1]; try rfl) ?_
                  exact hp d hd _ r36
    · replace hp := iq c16 hp
      refine ok (m_iconst (q := 87) rfl rfl rfl) ?_
      refine ok (m_istore (q := 89) (lo' := [some (am_r (some 50)), some (am_r (some (A 12 i1))), some (am_i (wz a2)), some (am_r (nr A 15 i3)), some (am_i (wz a4)), some (am_r (some (A 15 a4))), some (am_i (wz 0)), none]) rfl rfl rfl rfl rfl) ?_
      refine ok (m_aload (q := 91) rfl rfl rfl rfl) ?_
      refine ok (m_iload_n (q := 92) rfl rfl rfl rfl) ?_
      refine oke (e_ci (x_cv (q := 95) rfl rfl rfl rfl rfl rfl rfl rfl rfl rfl (is_ty r12 rfl f_14)) (ev_X5_isKnownLeftBy (D := D) a4 a2 f_14 h2) (Nat.le_trans (by decide) hd) r12) (fun s43 r44 => ?_)
      refine okc (m_ifne (qt := 110) (qf := 98) rfl rfl (Ev_rg (ev_X5_isKnownLeftBy (D := D) a4 a2 f_14 h2) r12) rfl rfl) (fun c45 => ?_) (fun c45 => ?_)
      · replace hp := ip c45 hp
        refine ok (m_iload_n (q := 99) rfl rfl rfl rfl) ?_
        refine ok (m_aload (q := 101) rfl rfl rfl rfl) ?_
        refine ok (m_gft (t := 15) (q := 104) rfl rfl rfl r44 rfl f_14 rfl rfl rfl) ?_
        refine ok (m_isub (q := 105) rfl rfl rfl) ?_
        refine ok (m_bipush (q := 107) rfl rfl rfl) ?_
        refine okc (m_cmple (qt := 114) (qf := 110) rfl rfl (rg_wr _) ⟨by decide, by decide⟩ rfl rfl) (fun c46 => ?_) (fun c46 => ?_)
        · replace hp := ip c46 hp
          refine ok (m_iconst (q := 115) rfl rfl rfl) ?_
          refine ok (m_istore (q := 117) (lo' := [some (am_r (some 50)), some (am_r (some (A 12 i1))), some (am_i (wz a2)), some (am_r (nr A 15 i3)), some (am_i (wz a4)), some (am_r (some (A 15 a4))), some (am_i (wz 0)), some (am_i (wz 0))]) rfl rfl rfl rfl rfl) ?_
          refine ok (m_iload (q := 119) rfl rfl rfl rfl) ?_
          refine ok ((m_ifeq (qt := 146) (qf := 122) rfl rfl ⟨by decide, by decide⟩ rfl rfl).trans (if_pos (by decide))) ?_
          refine ok (mk rfl (lo' := [some (am_r (some 50)), some (am_r (some (A 12 i1))), some (am_i (wz a2)), some (am_r (nr A 15 i3)), some (am_i (wz a4)), none, none, none]) rfl) ?_
          exact hp d hd _ r44
        · replace hp := iq c46 hp
          refine ok (m_iconst (q := 111) rfl rfl rfl) ?_
          refine ok (m_goto (q := 115) rfl rfl rfl) ?_
          refine ok (m_istore (q := 117) (lo' := [some (am_r (some 50)), some (am_r (some (A 12 i1))), some (am_i (wz a2)), some (am_r (nr A 15 i3)), some (am_i (wz a4)), some (am_r (some (A 15 a4))), some (am_i (wz 0)), some (am_i (wz 1))]) rfl rfl rfl rfl rfl) ?_
          refine ok (m_iload (q := 119) rfl rfl rfl rfl) ?_
          refine ok ((m_ifeq (qt := 146) (qf := 122) rfl rfl ⟨by decide, by decide⟩ rfl rfl).trans (if_pos (by decide))) ?_
          refine ok (mk rfl (lo' := [some (am_r (some 50)), some (am_r (some (A 12 i1))), some (am_i (wz a2)), some (am_r (nr A 15 i3)), some (am_i (wz a4)), none, none, none]) rfl) ?_
          exact hp d hd _ r44
      · replace hp := iq c45 hp
        refine ok (m_iconst (q := 111) rfl rfl rfl) ?_
        refine ok (m_goto (q := 115) rfl rfl rfl) ?_
        refine ok (m_istore (q := 117) (lo' := [some (am_r (some 50)), some (am_r (some (A 12 i1))), some (am_i (wz a2)), some (am_r (nr A 15 i3)), some (am_i (wz a4)), some (am_r (some (A 15 a4))), some (am_i (wz 0)), some (am_i (wz 1))]) rfl rfl rfl rfl rfl) ?_
        refine ok (m_iload (q := 119) rfl rfl rfl rfl) ?_
        refine ok ((m_ifeq (qt := 146) (qf := 122) rfl rfl ⟨by decide, by decide⟩ rfl rfl).trans (if_pos (by decide))) ?_
        refine ok (mk rfl (lo' := [some (am_r (some 50)), some (am_r (some (A 12 i1))), some (am_i (wz a2)), some (am_r (nr A 15 i3)), some (am_i (wz a4)), none, none, none]) rfl) ?_
        exact hp d hd _ r44
set_option maxRecDepth 100000 in
theorem rl_X3_provenBy_146 {n : Nat} {A : aA} {D D' : aD} (i1 : Int) (a2 : Int) (i3 : Int) (a4 : Int) (f1 : D 912 i1 = 1) (h2 : rg a2) (f3 : 0 ≤ i3 → D 915 i3 = 1) (h4 : rg a4) {x : Option Nat} (hp : K_X3_provenBy_5 (n) A D i1 a2 i3 (wr (a4 + 1)) x D') : K_X3_provenBy_146 (n) A D i1 a2 i3 a4 x D' := by
  unfold K_X3_provenBy_146
  refine fun d hd s hr => ?_
  refine ok (m_iinc (q := 149) (lo' := [some (am_r (some 50)), some (am_r (some (A 12 i1))), some (am_i (wz a2)), some (am_r (nr A 15 i3)), some (am_i (wz (wr (a4 + 1)))), none, none, none]) rfl rfl rfl rfl rfl rfl rfl) ?_
  refine ok (m_goto (q := 5) rfl rfl rfl) ?_
  exact hp d hd _ hr
abbrev P_X12_habit : Nat → Option am_E := am_fy tb_X12_habit
def K_X12_habit_30 (n : Nat) (A : aA) (D : aD) (a1 : Int) (a2 : Int) (a3 : Int) (a4 : Int) (a5 : Int) (a6 : Int) (x : Int) (D' : aD) : Prop := Lp n 3 P_X12_habit 30 [some (am_r (some 70)), some (am_i (wz a1)), some (am_i (wz a2)), some (am_i (wz a3)), some (am_i (wz a4)), some (am_i (wz a5)), some (am_i (wz a6)), none] [] A D (ri x) A D'
set_option maxRecDepth 100000 in
theorem rl_X12_habit {n : Nat} {A : aA} {D D' : aD} (a1 : Int) (a2 : Int) (h1 : rg a1) (h2 : rg a2) {x : Int} (hp : (if v_X12_isHouse D a1 = 0 then (x = (-1) ∧ D' = D) else (if v_X12_isIn D a2 0 2 = 0 then (x = (-1) ∧ D' = D) else K_X12_habit_30 (n) A D a1 a2 0 0 0 0 x D'))) : Ev (n) (4) 185 [am_r (some 70), am_i (wz a1), am_i (wz a2)] A D (ri x) A D' := by
  refine Ev_of (c := 3) (P := P_X12_habit) (lo := [some (am_r (some 70)), some (am_i (wz a1)), some (am_i (wz a2)), none, none, none, none, none]) rfl rfl rfl (fun d hd s hr => ?_)
  refine ok (m_aload_n (q := 1) rfl rfl rfl rfl) ?_
  refine ok (m_iload_n (q := 2) rfl rfl rfl rfl) ?_
  refine oke (e_ci (x_cv (q := 5) rfl rfl rfl rfl rfl rfl rfl rfl rfl rfl (is_st hr rfl rfl)) (ev_X12_isHouse (D := D) a1 h1) (Nat.le_trans (by decide) hd) hr) (fun s1 r2 => ?_)
  refine okc (m_ifeq (qt := 17) (qf := 8) rfl rfl (Ev_rg (ev_X12_isHouse (D := D) a1 h1) hr) rfl rfl) (fun c3 => ?_) (fun c3 => ?_)
  · replace hp := ip c3 hp
    refine ok (m_iconst (q := 18) rfl rfl rfl) ?_
    exact ok (m_reti rfl rfl) (ok_iq r2 ⟨by decide, by decide⟩ hp)
  · replace hp := iq c3 hp
    refine ok (m_iload_n (q := 9) rfl rfl rfl rfl) ?_
    refine ok (m_iconst (q := 10) rfl rfl rfl) ?_
    refine ok (m_iconst (q := 11) rfl rfl rfl) ?_
    refine oke (e_ci (x_cs (q := 14) rfl rfl rfl rfl rfl rfl rfl rfl rfl) (ev_X12_isIn (D := D) a2 0 2 h2 ⟨by decide, by decide⟩ ⟨by decide, by decide⟩) (Nat.le_trans (by decide) hd) r2) (fun s4 r5 => ?_)
    refine okc (m_ifne (qt := 19) (qf := 17) rfl rfl (Ev_rg (ev_X12_isIn (D := D) a2 0 2 h2 ⟨by decide, by decide⟩ ⟨by decide, by decide⟩) r2) rfl rfl) (fun c6 => ?_) (fun c6 => ?_)
    · replace hp := ip c6 hp
      refine ok (m_iconst (q := 18) rfl rfl rfl) ?_
      exact ok (m_reti rfl rfl) (ok_iq r5 ⟨by decide, by decide⟩ hp)
    · replace hp := iq c6 hp
      refine ok (m_iconst (q := 20) rfl rfl rfl) ?_
      refine ok (m_istore_n (q := 21) (lo' := [some (am_r (some 70)), some (am_i (wz a1)), some (am_i (wz a2)), some (am_i (wz 0)), none, none, none, none]) rfl rfl rfl rfl rfl) ?_
      refine ok (m_iconst (q := 22) rfl rfl rfl) ?_
      refine ok (m_istore (q := 24) (lo' := [some (am_r (some 70)), some (am_i (wz a1)), some (am_i (wz a2)), some (am_i (wz 0)), some (am_i (wz 0)), none, none, none]) rfl rfl rfl rfl rfl) ?_
      refine ok (m_iconst (q := 25) rfl rfl rfl) ?_
      refine ok (m_istore (q := 27) (lo' := [some (am_r (some 70)), some (am_i (wz a1)), some (am_i (wz a2)), some (am_i (wz 0)), some (am_i (wz 0)), some (am_i (wz 0)), none, none]) rfl rfl rfl rfl rfl) ?_
      refine ok (m_iconst (q := 28) rfl rfl rfl) ?_
      refine ok (m_istore (q := 30) (lo' := [some (am_r (some 70)), some (am_i (wz a1)), some (am_i (wz a2)), some (am_i (wz 0)), some (am_i (wz 0)), some (am_i (wz 0)), some (am_i (wz 0)), none]) rfl rfl rfl rfl rfl) ?_
      exact hp d hd _ r5
set_option maxRecDepth 100000 in
theorem rl_X12_habit_30 {n : Nat} {A : aA} {D D' : aD} (a1 : Int) (a2 : Int) (a3 : Int) (a4 : Int) (a5 : Int) (a6 : Int) (h1 : rg a1) (h2 : rg a2) (h3 : rg a3) (h4 : rg a4) (h5 : rg a5) (h6 : rg a6) {x : Int} (hp : (if D 70 51 ≤ a6 then (if a2 = 0 then (x = a3 ∧ D' = D) else (if a3 = 0 then (x = (-1) ∧ D' = D) else (p_X12_tells D (D 70 0) 8 0 3) ∧ (if v_X12_tells D (D 70 0) 8 0 3 ≤ a3 then (if a2 = 1 then (a3 ≠ 0) ∧ (x = wr ((wr (100 * a4)).tdiv a3) ∧ D' = D) else (a3 ≠ 0) ∧ (x = wr ((wr (100 * a5)).tdiv a3) ∧ D' = D)) else (x = (-1) ∧ D' = D)))) else (0 ≤ a6 ∧ a6 < 60) ∧ (if D 108 a6 = a1 then (p_falseBy D a6 (D 70 0)) ∧ (if w_falseBy D a6 (D 70 0) = (-1) then (p_behind D a6) ∧ (if w_behind D a6 = (-1) then K_X12_habit_30 (n) A D a1 a2 a3 a4 a5 (wr (a6 + 1)) x D' else (p_X12_endOf D (w_behind D a6) (D 70 0)) ∧ (0 ≤ w_behind D a6 ∧ w_behind D a6 < 60) ∧ K_X12_habit_30 (n) A D a1 a2 (wr (a3 + 1)) (wr (a4 + (D 110 a6))) (wr (a5 + (wr ((min (D 70 0) (v_X12_endOf D (w_behind D a6) (D 70 0))) - (D 85 (w_behind D a6)))))) (wr (a6 + 1)) x D') else K_X12_habit_30 (n) A D a1 a2 a3 a4 a5 (wr (a6 + 1)) x D') else K_X12_habit_30 (n) A D a1 a2 a3 a4 a5 (wr (a6 + 1)) x D'))) : K_X12_habit_30 (n) A D a1 a2 a3 a4 a5 a6 x D' := by
  unfold K_X12_habit_30
  refine fun d hd s hr => ?_
  refine ok (m_iload (q := 32) rfl rfl rfl rfl) ?_
  refine ok (m_aload_n (q := 33) rfl rfl rfl rfl) ?_
  refine ok (m_gfs (z := 51) (q := 36) rfl rfl rfl hr rfl rfl rfl rfl rfl) ?_
  refine okc (m_cmpge (qt := 135) (qf := 39) rfl rfl h6 (Rp_rg hr 70 51) rfl rfl) (fun c7 => ?_) (fun c7 => ?_)
  · replace hp := ip c7 hp
    refine ok (m_iload_n (q := 136) rfl rfl rfl rfl) ?_
    refine okc (m_ifne (qt := 141) (qf := 139) rfl rfl h2 rfl rfl) (fun c8 => ?_) (fun c8 => ?_)
    · replace hp := ip c8 hp
      refine ok (m_iload_n (q := 140) rfl rfl rfl rfl) ?_
      exact ok (m_reti rfl rfl) (ok_iq hr h3 hp)
    · replace hp := iq c8 hp
      refine ok (m_iload_n (q := 142) rfl rfl rfl rfl) ?_
      refine okc (m_ifeq (qt := 161) (qf := 145) rfl rfl h3 rfl rfl) (fun c9 => ?_) (fun c9 => ?_)
      · replace hp := ip c9 hp
        refine ok (m_iconst (q := 162) rfl rfl rfl) ?_
        refine ok (m_goto (q := 182) rfl rfl rfl) ?_
        exact ok (m_reti rfl rfl) (ok_iq hr ⟨by decide, by decide⟩ hp)
      · replace hp := iq c9 hp
        refine ok (m_iload_n (q := 146) rfl rfl rfl rfl) ?_
        refine ok (m_aload_n (q := 147) rfl rfl rfl rfl) ?_
        refine ok (m_aload_n (q := 148) rfl rfl rfl rfl) ?_
        refine ok (m_gfs (z := 0) (q := 151) rfl rfl rfl hr rfl rfl rfl rfl rfl) ?_
        refine ok (m_bipush (q := 153) rfl rfl rfl) ?_
        refine ok (m_iconst (q := 154) rfl rfl rfl) ?_
        refine ok (m_iconst (q := 155) rfl rfl rfl) ?_
        obtain ⟨g12, hp⟩ := hp
        refine oke (e_ci (x_cv (q := 158) rfl rfl rfl rfl rfl rfl rfl rfl rfl rfl (is_st hr rfl rfl)) (ev_X12_tells (D := D) (D 70 0) 8 0 3 (Rp_rg hr 70 0) ⟨by decide, by decide⟩ ⟨by decide, by decide⟩ ⟨by decide, by decide⟩ g12) (Nat.le_trans (by decide) hd) hr) (fun s10 r11 => ?_)
        refine okc (m_cmpge (qt := 165) (qf := 161) rfl rfl h3 (Ev_rg (ev_X12_tells (D := D) (D 70 0) 8 0 3 (Rp_rg hr 70 0) ⟨by decide, by decide⟩ ⟨by decide, by decide⟩ ⟨by decide, by decide⟩ g12) hr) rfl rfl) (fun c13 => ?_) (fun c13 => ?_)
        · replace hp := ip c13 hp
          refine ok (m_bipush (q := 167) rfl rfl rfl) ?_
          refine ok (m_iload_n (q := 168) rfl rfl rfl rfl) ?_
          refine ok (m_iconst (q := 169) rfl rfl rfl) ?_
          refine okc (m_cmpne (qt := 177) (qf := 172) rfl rfl h2 ⟨by decide, by decide⟩ rfl rfl) (fun c14 => ?_) (fun c14 => ?_)
          · replace hp := ip c14 hp
            refine ok (m_iload (q := 174) rfl rfl rfl rfl) ?_
            refine ok (m_goto (q := 179) rfl rfl rfl) ?_
            refine ok (m_imul (q := 180) rfl rfl rfl) ?_
            refine ok (m_iload_n (q := 181) rfl rfl rfl rfl) ?_
            obtain ⟨g15, hp⟩ := hp
            refine ok (m_idiv (q := 182) rfl rfl (rg_wr _) h3 g15 rfl) ?_
            exact ok (m_reti rfl rfl) (ok_iq r11 (rg_wr _) hp)
          · replace hp := iq c14 hp
            refine ok (m_iload (q := 179) rfl rfl rfl rfl) ?_
            refine ok (m_imul (q := 180) rfl rfl rfl) ?_
            refine ok (m_iload_n (q := 181) rfl rfl rfl rfl) ?_
            obtain ⟨g16, hp⟩ := hp
            refine ok (m_idiv (q := 182) rfl rfl (rg_wr _) h3 g16 rfl) ?_
            exact ok (m_reti rfl rfl) (ok_iq r11 (rg_wr _) hp)
        · replace hp := iq c13 hp
          refine ok (m_iconst (q := 162) rfl rfl rfl) ?_
          refine ok (m_goto (q := 182) rfl rfl rfl) ?_
          exact ok (m_reti rfl rfl) (ok_iq r11 ⟨by decide, by decide⟩ hp)
  · replace hp := iq c7 hp
    refine ok (m_aload_n (q := 40) rfl rfl rfl rfl) ?_
    refine ok (m_gfc (q := 43) rfl rfl rfl hr rfl rfl rfl) ?_
    refine ok (m_iload (q := 45) rfl rfl rfl rfl) ?_
    obtain ⟨g17, hp⟩ := hp
    refine ok (m_ials (q := 46) rfl rfl rfl hr rfl rfl g17 rfl) ?_
    refine ok (m_iload_n (q := 47) rfl rfl rfl rfl) ?_
    refine okc (m_cmpne (qt := 129) (qf := 50) rfl rfl (Rp_rg hr 108 a6) h1 rfl rfl) (fun c18 => ?_) (fun c18 => ?_)
    · replace hp := ip c18 hp
      refine ok (m_aload_n (q := 51) rfl rfl rfl rfl) ?_
      refine ok (m_iload (q := 53) rfl rfl rfl rfl) ?_
      refine ok (m_aload_n (q := 54) rfl rfl rfl rfl) ?_
      refine ok (m_gfs (z := 0) (q := 57) rfl rfl rfl hr rfl rfl rfl rfl rfl) ?_
      obtain ⟨g21, hp⟩ := hp
      refine oke (e_ci (x_cv (q := 60) rfl rfl rfl rfl rfl rfl rfl rfl rfl rfl (is_st hr rfl rfl)) (ev_X12_falseBy (D := D) a6 (D 70 0) h6 (Rp_rg hr 70 0) g21) (Nat.le_trans (by decide) hd) hr) (fun s19 r20 => ?_)
      refine ok (m_iconst (q := 61) rfl rfl rfl) ?_
      refine okc (m_cmpeq (qt := 67) (qf := 64) rfl rfl (Ev_rg (ev_X12_falseBy (D := D) a6 (D 70 0) h6 (Rp_rg hr 70 0) g21) hr) ⟨by decide, by decide⟩ rfl rfl) (fun c22 => ?_) (fun c22 => ?_)
      · replace hp := ip c22 hp
        refine ok (m_aload_n (q := 68) rfl rfl rfl rfl) ?_
        refine ok (m_iload (q := 70) rfl rfl rfl rfl) ?_
        obtain ⟨g25, hp⟩ := hp
        refine oke (e_ci (x_cv (q := 73) rfl rfl rfl rfl rfl rfl rfl rfl rfl rfl (is_st r20 rfl rfl)) (ev_X12_behind (D := D) a6 h6 g25) (Nat.le_trans (by decide) hd) r20) (fun s23 r24 => ?_)
        refine ok (m_istore (q := 75) (lo' := [some (am_r (some 70)), some (am_i (wz a1)), some (am_i (wz a2)), some (am_i (wz a3)), some (am_i (wz a4)), some (am_i (wz a5)), some (am_i (wz a6)), some (am_i (wz (w_behind D a6)))]) rfl rfl rfl rfl rfl) ?_
        refine ok (m_iload (q := 77) rfl rfl rfl rfl) ?_
        refine ok (m_iconst (q := 78) rfl rfl rfl) ?_
        refine okc (m_cmpne (qt := 84) (qf := 81) rfl rfl (Ev_rg (ev_X12_behind (D := D) a6 h6 g25) r20) ⟨by decide, by decide⟩ rfl rfl) (fun c26 => ?_) (fun c26 => ?_)
        · replace hp := ip c26 hp
          refine ok (m_goto (q := 129) rfl rfl rfl) ?_
          refine ok (m_iinc (q := 132) (lo' := [some (am_r (some 70)), some (am_i (wz a1)), some (am_i (wz a2)), some (am_i (wz a3)), some (am_i (wz a4)), some (am_i (wz a5)), some (am_i (wz (wr (a6 + 1)))), some (am_i (wz (w_behind D a6)))]) rfl rfl rfl rfl rfl rfl rfl) ?_
          refine ok (m_goto (q := 30) rfl rfl rfl) ?_
          refine ok (mk rfl (lo' := [some (am_r (some 70)), some (am_i (wz a1)), some (am_i (wz a2)), some (am_i (wz a3)), some (am_i (wz a4)), some (am_i (wz a5)), some (am_i (wz (wr (a6 + 1)))), none]) rfl) ?_
          exact hp d hd _ r24
        · replace hp := iq c26 hp
          refine ok (m_iinc (q := 87) (lo' := [some (am_r (some 70)), some (am_i (wz a1)), some (am_i (wz a2)), some (am_i (wz (wr (a3 + 1)))), some (am_i (wz a4)), some (am_i (wz a5)), some (am_i (wz a6)), some (am_i (wz (w_behind D a6)))]) rfl rfl rfl rfl rfl rfl rfl) ?_
          refine ok (m_iload (q := 89) rfl rfl rfl rfl) ?_
          refine ok (m_aload_n (q := 90) rfl rfl rfl rfl) ?_
          refine ok (m_gfc (q := 93) rfl rfl rfl r24 rfl rfl rfl) ?_
          refine ok (m_iload (q := 95) rfl rfl rfl rfl) ?_
          refine ok (m_ials (q := 96) rfl rfl rfl r24 rfl rfl g17 rfl) ?_
          refine ok (m_iadd (q := 97) rfl rfl rfl) ?_
          refine ok (m_istore (q := 99) (lo' := [some (am_r (some 70)), some (am_i (wz a1)), some (am_i (wz a2)), some (am_i (wz (wr (a3 + 1)))), some (am_i (wz (wr (a4 + (D 110 a6))))), some (am_i (wz a5)), some (am_i (wz a6)), some (am_i (wz (w_behind D a6)))]) rfl rfl rfl rfl rfl) ?_
          refine ok (m_iload (q := 101) rfl rfl rfl rfl) ?_
          refine ok (m_aload_n (q := 102) rfl rfl rfl rfl) ?_
          refine ok (m_gfs (z := 0) (q := 105) rfl rfl rfl r24 rfl rfl rfl rfl rfl) ?_
          refine ok (m_aload_n (q := 106) rfl rfl rfl rfl) ?_
          refine ok (m_iload (q := 108) rfl rfl rfl rfl) ?_
          refine ok (m_aload_n (q := 109) rfl rfl rfl rfl) ?_
          refine ok (m_gfs (z := 0) (q := 112) rfl rfl rfl r24 rfl rfl rfl rfl rfl) ?_
          obtain ⟨g29, hp⟩ := hp
          refine oke (e_ci (x_cv (q := 115) rfl rfl rfl rfl rfl rfl rfl rfl rfl rfl (is_st r24 rfl rfl)) (ev_X12_endOf (D := D) (w_behind D a6) (D 70 0) (Ev_rg (ev_X12_behind (D := D) a6 h6 g25) r20) (Rp_rg r24 70 0) g29) (Nat.le_trans (by decide) hd) r24) (fun s27 r28 => ?_)
          refine ok (m_min (q := 118) rfl rfl rfl (Rp_rg r24 70 0) (Ev_rg (ev_X12_endOf (D := D) (w_behind D a6) (D 70 0) (Ev_rg (ev_X12_behind (D := D) a6 h6 g25) r20) (Rp_rg r24 70 0) g29) r24) rfl) ?_
          refine ok (m_aload_n (q := 119) rfl rfl rfl rfl) ?_
          refine ok (m_gfc (q := 122) rfl rfl rfl r28 rfl rfl rfl) ?_
          refine ok (m_iload (q := 124) rfl rfl rfl rfl) ?_
          obtain ⟨g30, hp⟩ := hp
          refine ok (m_ials (q := 125) rfl rfl rfl r28 rfl rfl g30 rfl) ?_
          refine ok (m_isub (q := 126) rfl rfl rfl) ?_
          refine ok (m_iadd (q := 127) rfl rfl rfl) ?_
          refine ok (m_istore (q := 129) (lo' := [some (am_r (some 70)), some (am_i (wz a1)), some (am_i (wz a2)), some (am_i (wz (wr (a3 + 1)))), some (am_i (wz (wr (a4 + (D 110 a6))))), some (am_i (wz (wr (a5 + (wr ((min (D 70 0) (v_X12_endOf D (w_behind D a6) (D 70 0))) - (D 85 (w_behind D a6)))))))), some (am_i (wz a6)), some (am_i (wz (w_behind D a6)))]) rfl rfl rfl rfl rfl) ?_
          refine ok (m_iinc (q := 132) (lo' := [some (am_r (some 70)), some (am_i (wz a1)), some (am_i (wz a2)), some (am_i (wz (wr (a3 + 1)))), some (am_i (wz (wr (a4 + (D 110 a6))))), some (am_i (wz (wr (a5 + (wr ((min (D 70 0) (v_X12_endOf D (w_behind D a6) (D 70 0))) - (D 85 (w_behind D a6)))))))), some (am_i (wz (wr (a6 + 1)))), some (am_i (wz (w_behind D a6)))]) rfl rfl rfl rfl rfl rfl rfl) ?_
          refine ok (m_goto (q := 30) rfl rfl rfl) ?_
          refine ok (mk rfl (lo' := [some (am_r (some 70)), some (am_i (wz a1)), some (am_i (wz a2)), some (am_i (wz (wr (a3 + 1)))), some (am_i (wz (wr (a4 + (D 110 a6))))), some (am_i (wz (wr (a5 + (wr ((min (D 70 0) (v_X12_endOf D (w_behind D a6) (D 70 0))) - (D 85 (w_behind D a6)))))))), some (am_i (wz (wr (a6 + 1)))), none]) rfl) ?_
          exact hp d hd _ r28
      · replace hp := iq c22 hp
        refine ok (m_goto (q := 129) rfl rfl rfl) ?_
        refine ok (m_iinc (q := 132) (lo' := [some (am_r (some 70)), some (am_i (wz a1)), some (am_i (wz a2)), some (am_i (wz a3)), some (am_i (wz a4)), some (am_i (wz a5)), some (am_i (wz (wr (a6 + 1)))), none]) rfl rfl rfl rfl rfl rfl rfl) ?_
        refine ok (m_goto (q := 30) rfl rfl rfl) ?_
        exact hp d hd _ r20
    · replace hp := iq c18 hp
      refine ok (m_iinc (q := 132) (lo' := [some (am_r (some 70)), some (am_i (wz a1)), some (am_i (wz a2)), some (am_i (wz a3)), some (am_i (wz a4)), some (am_i (wz a5)), some (am_i (wz (wr (a6 + 1)))), none]) rfl rfl rfl rfl rfl rfl rfl) ?_
      refine ok (m_goto (q := 30) rfl rfl rfl) ?_
      exact hp d hd _ hr
def w_proven (D : aD) (c _ : Int) : Int := if w_behind D c = -1 then -1 else if w_falseBy D c (D 70 0) = -1 then w_behind D c else -1
def p_proven (D : aD) (c k : Int) : Prop := Iv D ∧ (0 ≤ c ∧ c < D 70 51) ∧ k = D 70 0
theorem ev_X3_provenBy (c k : Int) (f1 : D 912 c = 1) (h2 : rg k) (hp : p_proven D c k) : Ev n 7 28 [am_r (some 50), am_r (some (A 12 c)), am_i (wz k)] A D (rr (nr A 15 (w_proven D c k))) A D := by
  obtain ⟨hI, hcc, rfl⟩ := hp
  have hc := hI.ct; unfold I_ct at hc
  have hu := hI.cu; unfold I_cu at hu
  have ht := hI.tm c hcc.1 hcc.2
  intro d' hd' s' hr
  have hfl : ∀ i, 0 ≤ i → i < D 70 4 → D 915 i = 1 := fun i q1 q2 => Rp_el5 hr ⟨q1, by omega⟩
  refine rl_X3_provenBy c _ f1 h2 ?_ d' hd' s' hr
  refine dn_ind (K := fun j => K_X3_provenBy_5 n A D c (D 70 0) (foi (bhStep D c) (-1) j) j (nr A 15 (w_proven D c (D 70 0))) D) (lo := 0) (N := D 70 4) ?_ ?_ 0 (by omega) (by omega)
  · have hb := bh_b (D := D) (c := c) (N := D 70 4) (D 70 4) (by omega) (Int.le_refl _)
    refine rl_X3_provenBy_5 _ _ _ _ f1 h2 (fun q => hfl _ q (by omega)) (rgb (by omega) (by omega)) ?_
    rw [if_pos (by omega)]
    have e : foi (bhStep D c) (-1) (D 70 4) = w_behind D c := rfl
    rw [e] at hb ⊢
    unfold w_proven
    by_cases c1 : w_behind D c < 0
    · rw [if_pos c1, if_pos (by omega)]; exact ⟨rfl, rfl⟩
    · rw [if_neg c1, if_neg (show ¬ w_behind D c = -1 by omega)]
      refine ⟨⟨hI, hcc, by omega, by omega⟩, ?_⟩
      by_cases c2 : w_falseBy D c (D 70 0) = -1
      · rw [if_pos c2, if_pos c2]; exact ⟨nr_s (by omega), rfl⟩
      · rw [if_neg c2, if_neg c2]; exact ⟨rfl, rfl⟩
  · intro j j0 j1 ih
    have hb := bh_b (D := D) (c := c) (N := j) j j0 (Int.le_refl _)
    rw [foi_s j0] at ih
    generalize foi (bhStep D c) (-1) j = b at ih hb ⊢
    have hg := hI.pg j j0 j1
    refine rl_X3_provenBy_5 _ _ _ _ f1 h2 (fun q => hfl _ q (by omega)) (rgb (by omega) (by omega)) ?_
    rw [if_neg (by omega), srv_eq hI j0 j1, (plc_eq hI j0 j1).2.1, kl_eq hI.pg (by omega) j0 j1 (by omega), kn_eq hI.pg j0 j1 (by omega), hg.2.2.2.1, ht.2.1, ht.1, ht.2.2.2.1, wr_id (z := D 70 0 - D 85 j) (by omega) (by omega)]
    have hbe : ¬ b < 0 → D 2503 b = D 85 b := fun q => (hI.pg b (by omega) (by omega)).2.2.2.1
    have Kb : bhStep D c b j = b → K_X3_provenBy_146 n A D c (D 70 0) b j (nr A 15 (w_proven D c (D 70 0))) D := fun e => by
      refine rl_X3_provenBy_146 _ _ _ _ f1 h2 (fun q => hfl _ q (by omega)) (rgb (by omega) (by omega)) ?_
      rw [wr1 j0 j1 (by omega)]; rw [e] at ih; exact ih
    have Kj : bhStep D c b j = j → K_X3_provenBy_146 n A D c (D 70 0) j j (nr A 15 (w_proven D c (D 70 0))) D := fun e => by
      refine rl_X3_provenBy_146 _ _ _ _ f1 h2 (fun q => hfl _ q (by omega)) (rgb (by omega) (by omega)) ?_
      rw [wr1 j0 j1 (by omega)]; rw [e] at ih; exact ih
    refine ⟨⟨by omega, by omega⟩, ?_⟩
    have hbb : b = -1 ∨ 0 ≤ b := by omega
    clear hg ih hb ht
    repeat' split
    all_goals first
      | exact Kb (by unfold bhStep; exact if_neg (by omega))
      | exact Kj (by unfold bhStep; exact if_pos (by omega))
theorem fg_proven {s' : am_S} (c k : Int) (_ : D 912 c = 1) (_ : rg k) (hp : p_proven D c k) (hr : Rp n A D s') : 0 ≤ w_proven D c k → D 915 (w_proven D c k) = 1 := fun q => by
  have hc := hp.1.ct; unfold I_ct at hc
  have hb := bh_b (D := D) (c := c) (N := D 70 4) (D 70 4) (by omega) (Int.le_refl _)
  have e : foi (bhStep D c) (-1) (D 70 4) = w_behind D c := rfl
  rw [e] at hb
  have : w_proven D c k = -1 ∨ w_proven D c k = w_behind D c := by
    unfold w_proven; split
    · exact Or.inl rfl
    · split
      · exact Or.inr rfl
      · exact Or.inl rfl
  exact Rp_el5 hr ⟨q, by omega⟩
abbrev P_X11_habit : Nat → Option am_E := am_fy tb_X11_habit
def K_X11_habit_30 (n : Nat) (A : aA) (D : aD) (a1 : Int) (a2 : Int) (a3 : Int) (a4 : Int) (a5 : Int) (a6 : Int) (x : Int) (D' : aD) : Prop := Lp n 7 P_X11_habit 30 [some (am_r (some 32)), some (am_i (wz a1)), some (am_i (wz a2)), some (am_i (wz a3)), some (am_i (wz a4)), some (am_i (wz a5)), some (am_i (wz a6)), none, none] [] A D (ri x) A D'
set_option maxRecDepth 100000 in
theorem rl_X11_habit {n : Nat} {A : aA} {D D' : aD} (a1 : Int) (a2 : Int) (h1 : rg a1) (h2 : rg a2) {x : Int} (hp : (if v_X11_isHouse D a1 = 0 then (x = (-1) ∧ D' = D) else (if v_X11_between D a2 0 2 = 0 then (x = (-1) ∧ D' = D) else K_X11_habit_30 (n) A D a1 a2 0 0 0 0 x D'))) : Ev (n) (8) 92 [am_r (some 32), am_i (wz a1), am_i (wz a2)] A D (ri x) A D' := by
  refine Ev_of (c := 7) (P := P_X11_habit) (lo := [some (am_r (some 32)), some (am_i (wz a1)), some (am_i (wz a2)), none, none, none, none, none, none]) rfl rfl rfl (fun d hd s hr => ?_)
  refine ok (m_aload_n (q := 1) rfl rfl rfl rfl) ?_
  refine ok (m_iload_n (q := 2) rfl rfl rfl rfl) ?_
  refine oke (e_ci (x_cv (q := 5) rfl rfl rfl rfl rfl rfl rfl rfl rfl rfl (is_st hr rfl rfl)) (ev_X11_isHouse (D := D) a1 h1) (Nat.le_trans (by decide) hd) hr) (fun s1 r2 => ?_)
  refine okc (m_ifeq (qt := 17) (qf := 8) rfl rfl (Ev_rg (ev_X11_isHouse (D := D) a1 h1) hr) rfl rfl) (fun c3 => ?_) (fun c3 => ?_)
  · replace hp := ip c3 hp
    refine ok (m_iconst (q := 18) rfl rfl rfl) ?_
    exact ok (m_reti rfl rfl) (ok_iq r2 ⟨by decide, by decide⟩ hp)
  · replace hp := iq c3 hp
    refine ok (m_iload_n (q := 9) rfl rfl rfl rfl) ?_
    refine ok (m_iconst (q := 10) rfl rfl rfl) ?_
    refine ok (m_iconst (q := 11) rfl rfl rfl) ?_
    refine oke (e_ci (x_cs (q := 14) rfl rfl rfl rfl rfl rfl rfl rfl rfl) (ev_X11_between (D := D) a2 0 2 h2 ⟨by decide, by decide⟩ ⟨by decide, by decide⟩) (Nat.le_trans (by decide) hd) r2) (fun s4 r5 => ?_)
    refine okc (m_ifne (qt := 19) (qf := 17) rfl rfl (Ev_rg (ev_X11_between (D := D) a2 0 2 h2 ⟨by decide, by decide⟩ ⟨by decide, by decide⟩) r2) rfl rfl) (fun c6 => ?_) (fun c6 => ?_)
    · replace hp := ip c6 hp
      refine ok (m_iconst (q := 18) rfl rfl rfl) ?_
      exact ok (m_reti rfl rfl) (ok_iq r5 ⟨by decide, by decide⟩ hp)
    · replace hp := iq c6 hp
      refine ok (m_iconst (q := 20) rfl rfl rfl) ?_
      refine ok (m_istore_n (q := 21) (lo' := [some (am_r (some 32)), some (am_i (wz a1)), some (am_i (wz a2)), some (am_i (wz 0)), none, none, none, none, none]) rfl rfl rfl rfl rfl) ?_
      refine ok (m_iconst (q := 22) rfl rfl rfl) ?_
      refine ok (m_istore (q := 24) (lo' := [some (am_r (some 32)), some (am_i (wz a1)), some (am_i (wz a2)), some (am_i (wz 0)), some (am_i (wz 0)), none, none, none, none]) rfl rfl rfl rfl rfl) ?_
      refine ok (m_iconst (q := 25) rfl rfl rfl) ?_
      refine ok (m_istore (q := 27) (lo' := [some (am_r (some 32)), some (am_i (wz a1)), some (am_i (wz a2)), some (am_i (wz 0)), some (am_i (wz 0)), some (am_i (wz 0)), none, none, none]) rfl rfl rfl rfl rfl) ?_
      refine ok (m_iconst (q := 28) rfl rfl rfl) ?_
      refine ok (m_istore (q := 30) (lo' := [some (am_r (some 32)), some (am_i (wz a1)), some (am_i (wz a2)), some (am_i (wz 0)), some (am_i (wz 0)), some (am_i (wz 0)), some (am_i (wz 0)), none, none]) rfl rfl rfl rfl rfl) ?_
      exact hp d hd _ r5
set_option maxRecDepth 100000 in
theorem rl_X11_habit_30 {n : Nat} {A : aA} {D D' : aD} (a1 : Int) (a2 : Int) (a3 : Int) (a4 : Int) (a5 : Int) (a6 : Int) (h1 : rg a1) (h2 : rg a2) (h3 : rg a3) (h4 : rg a4) (h5 : rg a5) (h6 : rg a6) {x : Int} (hp : (if D 1002 2 ≤ a6 then (if a2 = 0 then (x = a3 ∧ D' = D) else (if a3 = 0 then (x = (-1) ∧ D' = D) else (p_inv1 D (D 32 14)) ∧ (if D 2410 (w_bookOf D (D 32 14)) ≤ a3 then (if a2 = 1 then (a3 ≠ 0) ∧ (x = wr ((wr (a4 * 100)).tdiv a3) ∧ D' = D) else (a3 ≠ 0) ∧ (x = wr ((wr (a5 * 100)).tdiv a3) ∧ D' = D)) else (x = (-1) ∧ D' = D)))) else (0 ≤ a6 ∧ a6 < D 1002 2) ∧ (if D 2200 a6 = a1 then (p_proven D a6 (D 32 14)) ∧ (if w_proven D a6 (D 32 14) < 0 then K_X11_habit_30 (n) A D a1 a2 a3 a4 a5 (wr (a6 + 1)) x D' else K_X11_habit_30 (n) A D a1 a2 (wr (a3 + 1)) (wr (a4 + (D 2202 a6))) (wr (a5 + (wr ((min (D 32 14) (v_X5_endAsKnown D (w_proven D a6 (D 32 14)) (D 32 14))) - (D 2503 (w_proven D a6 (D 32 14))))))) (wr (a6 + 1)) x D') else K_X11_habit_30 (n) A D a1 a2 a3 a4 a5 (wr (a6 + 1)) x D'))) : K_X11_habit_30 (n) A D a1 a2 a3 a4 a5 a6 x D' := by
  unfold K_X11_habit_30
  refine fun d hd s hr => ?_
  refine ok (m_iload (q := 32) rfl rfl rfl rfl) ?_
  refine ok (m_aload_n (q := 33) rfl rfl rfl rfl) ?_
  have f_7 := Rp_fx0_2 hr
  refine ok (m_gfy (q := 36) rfl rfl rfl hr rfl rfl rfl) ?_
  refine oke (e_ci (x_cv (q := 39) rfl rfl rfl rfl rfl rfl rfl rfl rfl rfl (is_ty hr rfl f_7)) (ev_size 2 f_7) (Nat.le_trans (by decide) hd) hr) (fun s8 r9 => ?_)
  refine okc (m_cmpge (qt := 135) (qf := 42) rfl rfl h6 (show rg (D 1002 2) from Rp_rg hr 1002 2) rfl rfl) (fun c10 => ?_) (fun c10 => ?_)
  · replace hp := ip c10 hp
    refine ok (m_iload_n (q := 136) rfl rfl rfl rfl) ?_
    refine okc (m_ifne (qt := 141) (qf := 139) rfl rfl h2 rfl rfl) (fun c11 => ?_) (fun c11 => ?_)
    · replace hp := ip c11 hp
      refine ok (m_iload_n (q := 140) rfl rfl rfl rfl) ?_
      exact ok (m_reti rfl rfl) (ok_iq r9 h3 hp)
    · replace hp := iq c11 hp
      refine ok (m_iload_n (q := 142) rfl rfl rfl rfl) ?_
      refine okc (m_ifeq (qt := 160) (qf := 145) rfl rfl h3 rfl rfl) (fun c12 => ?_) (fun c12 => ?_)
      · replace hp := ip c12 hp
        refine ok (m_iconst (q := 161) rfl rfl rfl) ?_
        exact ok (m_reti rfl rfl) (ok_iq r9 ⟨by decide, by decide⟩ hp)
      · replace hp := iq c12 hp
        refine ok (m_iload_n (q := 146) rfl rfl rfl rfl) ?_
        refine ok (m_aload_n (q := 147) rfl rfl rfl rfl) ?_
        refine ok (m_aload_n (q := 148) rfl rfl rfl rfl) ?_
        refine ok (m_gfs (z := 14) (q := 151) rfl rfl rfl r9 rfl rfl rfl rfl rfl) ?_
        obtain ⟨g15, hp⟩ := hp
        refine oke (e_cr (x_cv (q := 154) rfl rfl rfl rfl rfl rfl rfl rfl rfl rfl (is_st r9 rfl rfl)) (ev_X11_bookOf (D := D) (D 32 14) (Rp_rg r9 32 14) g15) (Nat.le_trans (by decide) hd) r9) (fun s13 r14 => ?_)
        refine ok (m_gft (t := 14) (q := 157) rfl rfl rfl r14 rfl (fg_bookOf (D := D) (D 32 14) (Rp_rg r9 32 14) g15 r9) rfl rfl rfl) ?_
        refine okc (m_cmpge (qt := 162) (qf := 160) rfl rfl h3 (show rg (D 2410 (w_bookOf D (D 32 14))) from Rp_rg r14 2410 (w_bookOf D (D 32 14))) rfl rfl) (fun c16 => ?_) (fun c16 => ?_)
        · replace hp := ip c16 hp
          refine ok (m_iload_n (q := 163) rfl rfl rfl rfl) ?_
          refine ok (m_iconst (q := 164) rfl rfl rfl) ?_
          refine okc (m_cmpne (qt := 172) (qf := 167) rfl rfl h2 ⟨by decide, by decide⟩ rfl rfl) (fun c17 => ?_) (fun c17 => ?_)
          · replace hp := ip c17 hp
            refine ok (m_iload (q := 169) rfl rfl rfl rfl) ?_
            refine ok (m_goto (q := 174) rfl rfl rfl) ?_
            refine ok (m_bipush (q := 176) rfl rfl rfl) ?_
            refine ok (m_imul (q := 177) rfl rfl rfl) ?_
            refine ok (m_iload_n (q := 178) rfl rfl rfl rfl) ?_
            obtain ⟨g18, hp⟩ := hp
            refine ok (m_idiv (q := 179) rfl rfl (rg_wr _) h3 g18 rfl) ?_
            exact ok (m_reti rfl rfl) (ok_iq r14 (rg_wr _) hp)
          · replace hp := iq c17 hp
            refine ok (m_iload (q := 174) rfl rfl rfl rfl) ?_
            refine ok (m_bipush (q := 176) rfl rfl rfl) ?_
            refine ok (m_imul (q := 177) rfl rfl rfl) ?_
            refine ok (m_iload_n (q := 178) rfl rfl rfl rfl) ?_
            obtain ⟨g19, hp⟩ := hp
            refine ok (m_idiv (q := 179) rfl rfl (rg_wr _) h3 g19 rfl) ?_
            exact ok (m_reti rfl rfl) (ok_iq r14 (rg_wr _) hp)
        · replace hp := iq c16 hp
          refine ok (m_iconst (q := 161) rfl rfl rfl) ?_
          exact ok (m_reti rfl rfl) (ok_iq r14 ⟨by decide, by decide⟩ hp)
  · replace hp := iq c10 hp
    refine ok (m_aload_n (q := 43) rfl rfl rfl rfl) ?_
    have f_20 := Rp_fx0_2 r9
    refine ok (m_gfy (q := 46) rfl rfl rfl r9 rfl rfl rfl) ?_
    refine ok (m_iload (q := 48) rfl rfl rfl rfl) ?_
    obtain ⟨g23, hp⟩ := hp
    have f_24 := Rp_el2 (D := D) r9 g23
    refine oke (e_cr (x_cv (q := 51) rfl rfl rfl rfl rfl rfl rfl rfl rfl rfl (is_ty r9 rfl f_20)) (ev_get2 a6 g23) (Nat.le_trans (by decide) hd) r9) (fun s21 r22 => ?_)
    refine ok (m_cast (q := 54) rfl rfl rfl (isN_ty r22 rfl f_24)) ?_
    refine ok (m_astore (q := 56) (lo' := [some (am_r (some 32)), some (am_i (wz a1)), some (am_i (wz a2)), some (am_i (wz a3)), some (am_i (wz a4)), some (am_i (wz a5)), some (am_i (wz a6)), some (am_r (some (A 12 a6))), none]) rfl rfl rfl rfl rfl) ?_
    refine ok (m_aload (q := 58) rfl rfl rfl rfl) ?_
    refine ok (m_gft (t := 12) (q := 61) rfl rfl rfl r22 rfl f_24 rfl rfl rfl) ?_
    refine ok (m_iload_n (q := 62) rfl rfl rfl rfl) ?_
    refine okc (m_cmpne (qt := 81) (qf := 65) rfl rfl (show rg (D 2200 a6) from Rp_rg r22 2200 a6) h1 rfl rfl) (fun c25 => ?_) (fun c25 => ?_)
    · replace hp := ip c25 hp
      refine ok (m_aload_n (q := 66) rfl rfl rfl rfl) ?_
      refine ok (m_gfc (q := 69) rfl rfl rfl r22 rfl rfl rfl) ?_
      refine ok (m_aload (q := 71) rfl rfl rfl rfl) ?_
      refine ok (m_aload_n (q := 72) rfl rfl rfl rfl) ?_
      refine ok (m_gfs (z := 14) (q := 75) rfl rfl rfl r22 rfl rfl rfl rfl rfl) ?_
      obtain ⟨g28, hp⟩ := hp
      refine oke (e_cr (x_cv (q := 78) rfl rfl rfl rfl rfl rfl rfl rfl rfl rfl (is_st r22 rfl rfl)) (ev_X3_provenBy (D := D) a6 (D 32 14) f_24 (Rp_rg r22 32 14) g28) (Nat.le_trans (by decide) hd) r22) (fun s26 r27 => ?_)
      refine ok (m_goto (q := 82) rfl rfl rfl) ?_
      refine ok (m_astore (q := 84) (lo' := [some (am_r (some 32)), some (am_i (wz a1)), some (am_i (wz a2)), some (am_i (wz a3)), some (am_i (wz a4)), some (am_i (wz a5)), some (am_i (wz a6)), some (am_r (some (A 12 a6))), some (am_r (nr A 15 (w_proven D a6 (D 32 14))))]) rfl rfl rfl rfl rfl) ?_
      refine ok (m_aload (q := 86) rfl rfl rfl rfl) ?_
      refine okc ((m_ifnull (qt := 129) (qf := 89) rfl rfl rfl rfl).trans (ifn_n r27 rfl (fg_proven (D := D) a6 (D 32 14) f_24 (Rp_rg r22 32 14) g28 r22))) (fun c29 => ?_) (fun c29 => ?_)
      · replace hp := ip c29 hp
        refine ok (m_iinc (q := 132) (lo' := [some (am_r (some 32)), some (am_i (wz a1)), some (am_i (wz a2)), some (am_i (wz a3)), some (am_i (wz a4)), some (am_i (wz a5)), some (am_i (wz (wr (a6 + 1)))), some (am_r (some (A 12 a6))), some (am_r (nr A 15 (w_proven D a6 (D 32 14))))]) rfl rfl rfl rfl rfl rfl rfl) ?_
        refine ok (m_goto (q := 30) rfl rfl rfl) ?_
        refine ok (mk rfl (lo' := [some (am_r (some 32)), some (am_i (wz a1)), some (am_i (wz a2)), some (am_i (wz a3)), some (am_i (wz a4)), some (am_i (wz a5)), some (am_i (wz (wr (a6 + 1)))), none, none]) rfl) ?_
        exact hp d hd _ r27
      · replace hp := iq c29 hp
        refine ok (o' := mr d P_X11_habit 89 [some (am_r (some 32)), some (am_i (wz a1)), some (am_i (wz a2)), some (am_i (wz a3)), some (am_i (wz a4)), some (am_i (wz a5)), some (am_i (wz a6)), some (am_r (some (A 12 a6))), some (am_r (some (A 15 (w_proven D a6 (D 32 14)))))] [] s26) (by rw [nr_s (Int.not_lt.mp c29)]; try rfl) ?_
        refine ok (m_iinc (q := 92) (lo' := [some (am_r (some 32)), some (am_i (wz a1)), some (am_i (wz a2)), some (am_i (wz (wr (a3 + 1)))), some (am_i (wz a4)), some (am_i (wz a5)), some (am_i (wz a6)), some (am_r (some (A 12 a6))), some (am_r (some (A 15 (w_proven D a6 (D 32 14)))))]) rfl rfl rfl rfl rfl rfl rfl) ?_
        refine ok (m_iload (q := 94) rfl rfl rfl rfl) ?_
        refine ok (m_aload (q := 96) rfl rfl rfl rfl) ?_
        refine ok (m_gft (t := 12) (q := 99) rfl rfl rfl r27 rfl f_24 rfl rfl rfl) ?_
        refine ok (m_iadd (q := 100) rfl rfl rfl) ?_
        refine ok (m_istore (q := 102) (lo' := [some (am_r (some 32)), some (am_i (wz a1)), some (am_i (wz a2)), some (am_i (wz (wr (a3 + 1)))), some (am_i (wz (wr (a4 + (D 2202 a6))))), some (am_i (wz a5)), some (am_i (wz a6)), some (am_r (some (A 12 a6))), some (am_r (some (A 15 (w_proven D a6 (D 32 14)))))]) rfl rfl rfl rfl rfl) ?_
        refine ok (m_iload (q := 104) rfl rfl rfl rfl) ?_
        refine ok (m_aload_n (q := 105) rfl rfl rfl rfl) ?_
        refine ok (m_gfs (z := 14) (q := 108) rfl rfl rfl r27 rfl rfl rfl rfl rfl) ?_
        refine ok (m_aload (q := 110) rfl rfl rfl rfl) ?_
        refine ok (m_aload_n (q := 111) rfl rfl rfl rfl) ?_
        refine ok (m_gfs (z := 14) (q := 114) rfl rfl rfl r27 rfl rfl rfl rfl rfl) ?_
        refine oke (e_ci (x_cv (q := 117) rfl rfl rfl rfl rfl rfl rfl rfl rfl rfl (is_ty r27 rfl ((fg_proven (D := D) a6 (D 32 14) f_24 (Rp_rg r22 32 14) g28 r22) (Int.not_lt.mp c29)))) (ev_X5_endAsKnown (D := D) (w_proven D a6 (D 32 14)) (D 32 14) ((fg_proven (D := D) a6 (D 32 14) f_24 (Rp_rg r22 32 14) g28 r22) (Int.not_lt.mp c29)) (Rp_rg r27 32 14)) (Nat.le_trans (by decide) hd) r27) (fun s30 r31 => ?_)
        refine ok (m_min (q := 120) rfl rfl rfl (Rp_rg r27 32 14) (Ev_rg (ev_X5_endAsKnown (D := D) (w_proven D a6 (D 32 14)) (D 32 14) ((fg_proven (D := D) a6 (D 32 14) f_24 (Rp_rg r22 32 14) g28 r22) (Int.not_lt.mp c29)) (Rp_rg r27 32 14)) r27) rfl) ?_
        refine ok (m_aload (q := 122) rfl rfl rfl rfl) ?_
        refine ok (m_gft (t := 15) (q := 125) rfl rfl rfl r31 rfl ((fg_proven (D := D) a6 (D 32 14) f_24 (Rp_rg r22 32 14) g28 r22) (Int.not_lt.mp c29)) rfl rfl rfl) ?_
        refine ok (m_isub (q := 126) rfl rfl rfl) ?_
        refine ok (m_iadd (q := 127) rfl rfl rfl) ?_
        refine ok (m_istore (q := 129) (lo' := [some (am_r (some 32)), some (am_i (wz a1)), some (am_i (wz a2)), some (am_i (wz (wr (a3 + 1)))), some (am_i (wz (wr (a4 + (D 2202 a6))))), some (am_i (wz (wr (a5 + (wr ((min (D 32 14) (v_X5_endAsKnown D (w_proven D a6 (D 32 14)) (D 32 14))) - (D 2503 (w_proven D a6 (D 32 14))))))))), some (am_i (wz a6)), some (am_r (some (A 12 a6))), some (am_r (some (A 15 (w_proven D a6 (D 32 14)))))]) rfl rfl rfl rfl rfl) ?_
        refine ok (m_iinc (q := 132) (lo' := [some (am_r (some 32)), some (am_i (wz a1)), some (am_i (wz a2)), some (am_i (wz (wr (a3 + 1)))), some (am_i (wz (wr (a4 + (D 2202 a6))))), some (am_i (wz (wr (a5 + (wr ((min (D 32 14) (v_X5_endAsKnown D (w_proven D a6 (D 32 14)) (D 32 14))) - (D 2503 (w_proven D a6 (D 32 14))))))))), some (am_i (wz (wr (a6 + 1)))), some (am_r (some (A 12 a6))), some (am_r (some (A 15 (w_proven D a6 (D 32 14)))))]) rfl rfl rfl rfl rfl rfl rfl) ?_
        refine ok (m_goto (q := 30) rfl rfl rfl) ?_
        refine ok (mk rfl (lo' := [some (am_r (some 32)), some (am_i (wz a1)), some (am_i (wz a2)), some (am_i (wz (wr (a3 + 1)))), some (am_i (wz (wr (a4 + (D 2202 a6))))), some (am_i (wz (wr (a5 + (wr ((min (D 32 14) (v_X5_endAsKnown D (w_proven D a6 (D 32 14)) (D 32 14))) - (D 2503 (w_proven D a6 (D 32 14))))))))), some (am_i (wz (wr (a6 + 1)))), none, none]) rfl) ?_
        exact hp d hd _ r31
    · replace hp := iq c25 hp
      refine ok (m_aconst_null (q := 82) rfl rfl rfl) ?_
      refine ok (m_astore (q := 84) (lo' := [some (am_r (some 32)), some (am_i (wz a1)), some (am_i (wz a2)), some (am_i (wz a3)), some (am_i (wz a4)), some (am_i (wz a5)), some (am_i (wz a6)), some (am_r (some (A 12 a6))), some (am_r (none))]) rfl rfl rfl rfl rfl) ?_
      refine ok (m_aload (q := 86) rfl rfl rfl rfl) ?_
      refine ok (m_ifnull (qt := 129) (qf := 89) rfl rfl rfl rfl) ?_
      refine ok (m_iinc (q := 132) (lo' := [some (am_r (some 32)), some (am_i (wz a1)), some (am_i (wz a2)), some (am_i (wz a3)), some (am_i (wz a4)), some (am_i (wz a5)), some (am_i (wz (wr (a6 + 1)))), some (am_r (some (A 12 a6))), some (am_r (none))]) rfl rfl rfl rfl rfl rfl rfl) ?_
      refine ok (m_goto (q := 30) rfl rfl rfl) ?_
      refine ok (mk rfl (lo' := [some (am_r (some 32)), some (am_i (wz a1)), some (am_i (wz a2)), some (am_i (wz a3)), some (am_i (wz a4)), some (am_i (wz a5)), some (am_i (wz (wr (a6 + 1)))), none, none]) rfl) ?_
      exact hp d hd _ r22
/-- the sums -/
def stF (D : aD) (p : Int) : Int := min (D 70 0) (v_X12_endOf D p (D 70 0)) - D 85 p
def hbS (D : aD) (h : Int) (x : Int × Int × Int) (c : Int) : Int × Int × Int := if D 108 c = h ∧ w_falseBy D c (D 70 0) = -1 ∧ ¬ w_behind D c = -1 then (x.1 + 1, x.2.1 + D 110 c, x.2.2 + stF D (w_behind D c)) else x
def hb3 (D : aD) (h j : Int) : Int × Int × Int := foi (hbS D h) (0, 0, 0) j
theorem bh_r (hI : Iv D) {c : Int} : w_behind D c = -1 ∨ (0 ≤ w_behind D c ∧ w_behind D c < D 70 4) := by
  have hc := hI.ct; unfold I_ct at hc
  have hb := bh_b (D := D) (c := c) (N := D 70 4) (D 70 4) (by omega) (Int.le_refl _)
  have e : foi (bhStep D c) (-1) (D 70 4) = w_behind D c := rfl
  rw [e] at hb
  omega
theorem st_b (hI : Iv D) {c : Int} (h : ¬ w_behind D c = -1) : 0 ≤ stF D (w_behind D c) ∧ stF D (w_behind D c) ≤ 999 ∧ min (D 70 0) (v_X5_endAsKnown D (w_behind D c) (D 70 0)) - D 2503 (w_behind D c) = stF D (w_behind D c) := by
  have hc := hI.ct; unfold I_ct at hc
  have hr := bh_r hI (c := c)
  have hg := hI.pg (w_behind D c) (by omega) (by omega)
  have hy := en_eq hI.pg (by omega) (p := w_behind D c) (k := D 70 0) (by omega) (by omega) (by omega)
  rw [hy, hg.2.2.2.1]
  unfold stF v_X12_endOf
  omega
theorem hb3_b (hI : Iv D) {h : Int} : ∀ j, 0 ≤ j → j ≤ D 70 51 → (0 ≤ (hb3 D h j).1 ∧ (hb3 D h j).1 ≤ j) ∧ (0 ≤ (hb3 D h j).2.1 ∧ (hb3 D h j).2.1 ≤ 9 * j) ∧ (0 ≤ (hb3 D h j).2.2 ∧ (hb3 D h j).2.2 ≤ 999 * j) := by
  refine foi_ind (Q := fun (j : Int) (x : Int × Int × Int) => (0 ≤ x.1 ∧ x.1 ≤ j) ∧ (0 ≤ x.2.1 ∧ x.2.1 ≤ 9 * j) ∧ (0 ≤ x.2.2 ∧ x.2.2 ≤ 999 * j)) ⟨⟨by decide, by decide⟩, ⟨by decide, by decide⟩, by decide, by decide⟩ (fun j x j0 j1 q => ?_)
  unfold hbS
  split
  · rename_i z
    have h1 := st_b hI z.2.2
    have h2 := hI.tm j j0 j1
    simp only
    omega
  · omega
def w_habit (D : aD) (h w : Int) : Int := if v_X12_isHouse D h = 0 then -1 else if v_X12_isIn D w 0 2 = 0 then -1 else if w = 0 then (hb3 D h (D 70 51)).1 else if (hb3 D h (D 70 51)).1 = 0 then -1 else if v_X12_tells D (D 70 0) 8 0 3 ≤ (hb3 D h (D 70 51)).1 then (if w = 1 then (100 * (hb3 D h (D 70 51)).2.1).tdiv (hb3 D h (D 70 51)).1 else (100 * (hb3 D h (D 70 51)).2.2).tdiv (hb3 D h (D 70 51)).1) else -1
theorem ev_X12_habit (hI : Inv D) (h w : Int) (h1 : rg h) (h2 : rg w) : Ev n 4 185 [am_r (some 70), am_i (wz h), am_i (wz w)] A D (ri (w_habit D h w)) A D := by
  have hc := hI.iv.ct; unfold I_ct at hc
  have hu := hI.iv.cu; unfold I_cu at hu
  refine rl_X12_habit h w h1 h2 ?_
  have ew : ∀ z, w_habit D h z = if v_X12_isHouse D h = 0 then -1 else if v_X12_isIn D z 0 2 = 0 then -1 else if z = 0 then (hb3 D h (D 70 51)).1 else if (hb3 D h (D 70 51)).1 = 0 then -1 else if v_X12_tells D (D 70 0) 8 0 3 ≤ (hb3 D h (D 70 51)).1 then (if z = 1 then (100 * (hb3 D h (D 70 51)).2.1).tdiv (hb3 D h (D 70 51)).1 else (100 * (hb3 D h (D 70 51)).2.2).tdiv (hb3 D h (D 70 51)).1) else -1 := fun _ => rfl
  by_cases c1 : v_X12_isHouse D h = 0
  · rw [if_pos c1, ew, if_pos c1]; exact ⟨rfl, rfl⟩
  rw [if_neg c1]
  by_cases c2 : v_X12_isIn D w 0 2 = 0
  · rw [if_pos c2, ew, if_neg c1, if_pos c2]; exact ⟨rfl, rfl⟩
  rw [if_neg c2]
  have K := dn_ind (K := fun j => K_X12_habit_30 n A D h w (hb3 D h j).1 (hb3 D h j).2.1 (hb3 D h j).2.2 j (w_habit D h w) D) (lo := 0) (N := D 70 51) ?_ ?_ 0 (by omega) (by omega)
  · exact K
  · have hb := hb3_b hI.iv (h := h) (D 70 51) (by omega) (Int.le_refl _)
    refine rl_X12_habit_30 _ _ _ _ _ _ h1 h2 (rgb (by omega) (by omega)) (rgb (by omega) (by omega)) (rgb (by omega) (by omega)) (rgb (by omega) (by omega)) ?_
    rw [if_pos (Int.le_refl _), ew, if_neg c1, if_neg c2]
    by_cases c3 : w = 0
    · rw [if_pos c3, if_pos c3]; exact ⟨rfl, rfl⟩
    rw [if_neg c3, if_neg c3]
    by_cases c4 : (hb3 D h (D 70 51)).1 = 0
    · rw [if_pos c4, if_pos c4]; exact ⟨rfl, rfl⟩
    rw [if_neg c4, if_neg c4]
    refine ⟨pTells hI _ _ _ _, ?_⟩
    by_cases c5 : v_X12_tells D (D 70 0) 8 0 3 ≤ (hb3 D h (D 70 51)).1
    · rw [if_pos c5, if_pos c5]
      generalize hb3 D h (D 70 51) = x at *
      have t1 := td_b (a := 100 * x.2.1) (b := x.1) (N := 100000) (by omega) (by omega) (by omega)
      have t2 := td_b (a := 100 * x.2.2) (b := x.1) (N := 10000000) (by omega) (by omega) (by omega)
      rw [wr_id (z := 100 * x.2.1) (by omega) (by omega), wr_id (z := 100 * x.2.2) (by omega) (by omega), wr_id (z := (100 * x.2.1).tdiv x.1) (by omega) (by omega), wr_id (z := (100 * x.2.2).tdiv x.1) (by omega) (by omega)]
      split <;> exact ⟨c4, rfl, rfl⟩
    · rw [if_neg c5, if_neg c5]; exact ⟨rfl, rfl⟩
  · intro j j0 j1 ih
    have hb := hb3_b hI.iv (h := h) j j0 (by omega)
    have htm := hI.iv.tm j j0 j1
    refine rl_X12_habit_30 _ _ _ _ _ _ h1 h2 (rgb (by omega) (by omega)) (rgb (by omega) (by omega)) (rgb (by omega) (by omega)) (rgb (by omega) (by omega)) ?_
    rw [if_neg (by omega), wr1 j0 j1 (by omega)]
    refine ⟨by omega, ?_⟩
    have es : hb3 D h (j + 1) = hbS D h (hb3 D h j) j := foi_s j0
    rw [es] at ih
    generalize hb3 D h j = x at *
    have hno : ¬ (D 108 j = h ∧ w_falseBy D j (D 70 0) = -1 ∧ ¬ w_behind D j = -1) → K_X12_habit_30 n A D h w x.1 x.2.1 x.2.2 (j + 1) (w_habit D h w) D := fun q => by
      unfold hbS at ih; rw [if_neg q] at ih; exact ih
    by_cases c3 : D 108 j = h
    · rw [if_pos c3]
      refine ⟨⟨hI.iv, by omega, by omega, by omega⟩, ?_⟩
      by_cases c4 : w_falseBy D j (D 70 0) = -1
      · rw [if_pos c4]
        refine ⟨⟨hI.iv, by omega, by omega⟩, ?_⟩
        by_cases c5 : w_behind D j = -1
        · rw [if_pos c5]; exact hno (fun q => q.2.2 c5)
        · rw [if_neg c5]
          have hr := bh_r hI.iv (c := j)
          have hs := st_b hI.iv c5
          refine ⟨⟨by omega, by omega⟩, by omega, ?_⟩
          unfold hbS at ih
          rw [if_pos ⟨c3, c4, c5⟩] at ih
          have e1 : min (D 70 0) (v_X12_endOf D (w_behind D j) (D 70 0)) - D 85 (w_behind D j) = stF D (w_behind D j) := rfl
          rw [e1, wr_id (z := stF D (w_behind D j)) (by omega) (by omega), wr_id (z := x.1 + 1) (by omega) (by omega), wr_id (z := x.2.1 + D 110 j) (by omega) (by omega), wr_id (z := x.2.2 + stF D (w_behind D j)) (by omega) (by omega)]
          exact ih
      · rw [if_neg c4]; exact hno (fun q => c4 q.2.1)
    · rw [if_neg c3]; exact hno (fun q => c3 q.1)
theorem ev_X11_habit (hI : Inv D) (h w : Int) (h1 : rg h) (h2 : rg w) : Ev n 8 92 [am_r (some 32), am_i (wz h), am_i (wz w)] A D (ri (w_habit D h w)) A D := by
  have hc := hI.iv.ct; unfold I_ct at hc
  have hu := hI.iv.cu; unfold I_cu at hu
  have hB : D 2410 (w_bookOf D (D 70 0)) = v_X12_tells D (D 70 0) 8 0 3 := (hdr hI (D 70 0)).1.2.2.2.2.1
  refine rl_X11_habit h w h1 h2 ?_
  have ew : ∀ z, w_habit D h z = if v_X12_isHouse D h = 0 then -1 else if v_X12_isIn D z 0 2 = 0 then -1 else if z = 0 then (hb3 D h (D 70 51)).1 else if (hb3 D h (D 70 51)).1 = 0 then -1 else if v_X12_tells D (D 70 0) 8 0 3 ≤ (hb3 D h (D 70 51)).1 then (if z = 1 then (100 * (hb3 D h (D 70 51)).2.1).tdiv (hb3 D h (D 70 51)).1 else (100 * (hb3 D h (D 70 51)).2.2).tdiv (hb3 D h (D 70 51)).1) else -1 := fun _ => rfl
  rw [xHs hI.iv, inb_eq]
  by_cases c1 : v_X12_isHouse D h = 0
  · rw [if_pos c1, ew, if_pos c1]; exact ⟨rfl, rfl⟩
  rw [if_neg c1]
  by_cases c2 : v_X12_isIn D w 0 2 = 0
  · rw [if_pos c2, ew, if_neg c1, if_pos c2]; exact ⟨rfl, rfl⟩
  rw [if_neg c2]
  have K := dn_ind (K := fun j => K_X11_habit_30 n A D h w (hb3 D h j).1 (hb3 D h j).2.1 (hb3 D h j).2.2 j (w_habit D h w) D) (lo := 0) (N := D 70 51) ?_ ?_ 0 (by omega) (by omega)
  · exact K
  · have hb := hb3_b hI.iv (h := h) (D 70 51) (by omega) (Int.le_refl _)
    refine rl_X11_habit_30 _ _ _ _ _ _ h1 h2 (rgb (by omega) (by omega)) (rgb (by omega) (by omega)) (rgb (by omega) (by omega)) (rgb (by omega) (by omega)) ?_
    rw [if_pos (by omega), ew, if_neg c1, if_neg c2, hc.1.1, hB]
    by_cases c3 : w = 0
    · rw [if_pos c3, if_pos c3]; exact ⟨rfl, rfl⟩
    rw [if_neg c3, if_neg c3]
    by_cases c4 : (hb3 D h (D 70 51)).1 = 0
    · rw [if_pos c4, if_pos c4]; exact ⟨rfl, rfl⟩
    rw [if_neg c4, if_neg c4]
    refine ⟨hI.rb, ?_⟩
    by_cases c5 : v_X12_tells D (D 70 0) 8 0 3 ≤ (hb3 D h (D 70 51)).1
    · rw [if_pos c5, if_pos c5]
      generalize hb3 D h (D 70 51) = x at *
      have t1 := td_b (a := 100 * x.2.1) (b := x.1) (N := 100000) (by omega) (by omega) (by omega)
      have t2 := td_b (a := 100 * x.2.2) (b := x.1) (N := 10000000) (by omega) (by omega) (by omega)
      rw [wr_id (z := x.2.1 * 100) (by omega) (by omega), wr_id (z := x.2.2 * 100) (by omega) (by omega), Int.mul_comm x.2.1 100, Int.mul_comm x.2.2 100, wr_id (z := (100 * x.2.1).tdiv x.1) (by omega) (by omega), wr_id (z := (100 * x.2.2).tdiv x.1) (by omega) (by omega)]
      split <;> exact ⟨c4, rfl, rfl⟩
    · rw [if_neg c5, if_neg c5]; exact ⟨rfl, rfl⟩
  · intro j j0 j1 ih
    have hb := hb3_b hI.iv (h := h) j j0 (by omega)
    have htm := hI.iv.tm j j0 j1
    refine rl_X11_habit_30 _ _ _ _ _ _ h1 h2 (rgb (by omega) (by omega)) (rgb (by omega) (by omega)) (rgb (by omega) (by omega)) (rgb (by omega) (by omega)) ?_
    rw [if_neg (by omega), wr1 j0 j1 (by omega), htm.1, htm.2.2.1, hc.1.1]
    refine ⟨by omega, ?_⟩
    have es : hb3 D h (j + 1) = hbS D h (hb3 D h j) j := foi_s j0
    rw [es] at ih
    generalize hb3 D h j = x at *
    have hno : ¬ (D 108 j = h ∧ w_falseBy D j (D 70 0) = -1 ∧ ¬ w_behind D j = -1) → K_X11_habit_30 n A D h w x.1 x.2.1 x.2.2 (j + 1) (w_habit D h w) D := fun q => by
      unfold hbS at ih; rw [if_neg q] at ih; exact ih
    by_cases c3 : D 108 j = h
    · rw [if_pos c3]
      refine ⟨⟨hI.iv, by omega, rfl⟩, ?_⟩
      have hr := bh_r hI.iv (c := j)
      by_cases c4 : w_falseBy D j (D 70 0) = -1 ∧ ¬ w_behind D j = -1
      · have e0 : w_proven D j (D 70 0) = w_behind D j := by unfold w_proven; rw [if_neg c4.2, if_pos c4.1]
        have hs := st_b hI.iv c4.2
        rw [e0, if_neg (by omega), hs.2.2]
        unfold hbS at ih
        rw [if_pos ⟨c3, c4⟩] at ih
        rw [wr_id (z := stF D (w_behind D j)) (by omega) (by omega), wr_id (z := x.1 + 1) (by omega) (by omega), wr_id (z := x.2.1 + D 110 j) (by omega) (by omega), wr_id (z := x.2.2 + stF D (w_behind D j)) (by omega) (by omega)]
        exact ih
      · have e0 : w_proven D j (D 70 0) = -1 := by
          unfold w_proven
          by_cases z1 : w_behind D j = -1
          · rw [if_pos z1]
          · rw [if_neg z1, if_neg (fun z2 => c4 ⟨z2, z1⟩)]
        rw [e0, if_pos (by omega)]; exact hno (fun q => c4 q.2)
    · rw [if_neg c3]; exact hno (fun q => c3 q.1)
theorem c_habit (hI : Inv D) (h w : Int) (h1 : rg h) (h2 : rg w) : Rd 92 185 [am_i (wz h), am_i (wz w)] A D := ⟨_, (ev_X11_habit (n := 0) hI h w h1 h2).le (by decide), (ev_X12_habit (n := 0) hI h w h1 h2).le (by decide)⟩
end W5
