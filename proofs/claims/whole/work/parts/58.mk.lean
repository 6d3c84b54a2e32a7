/-! The calls that make things: the way from new to the adopted thing. -/
section Mk
variable {n : Nat} {A A' : aA} {D D' : aD} {d : Nat} {s : am_S}
theorem addA_n {t : Nat} {i l : Int} (h : t ≠ 1) : addA A D l t i = A t i := by
  unfold addA; split
  · exact upA_t h
  · rfl
/-- what adding wants -/
def adK (D : aD) (l e : Int) : Prop := e = ebs l + D 1002 l ∧ D 1002 l < 1000 ∧ (D 901 l = 1 → 0 < D 1100 l) ∧ D 950 0 ≤ 1000000000 ∧ D 951 0 ≤ 1000000000
theorem ev_addk {l e : Int} {t : Nat} (hf : D 900 l = 1) (hx : D (900 + t) e = 1) (ht : ety l = t) (g : adK D l e) : Ev n 6 233 [am_r (some (A 0 l)), am_r (some (A t e))] A D (ri 1) (addA A D l) (addD D l) := by
  obtain ⟨rfl, g2, g3, g4⟩ := g
  subst ht
  exact ev_add hf g2 hx g3 g4 ⟨rfl, by decide, by decide⟩
abbrev P_X11_place : Nat → Option am_E := am_fy tb_X11_place
def K_X11_place_87 (n : Nat) (A : aA) (D : aD) (a1 : Int) (a2 : Int) (a3 : Int) (a4 : Int) (a5 : Int) (a6 : Int) (a7 : Int) (x : Int) (A' : aA) (D' : aD) : Prop := Lp n 8 P_X11_place 87 [some (am_r (some 32)), some (am_i (wz a1)), some (am_i (wz a2)), some (am_i (wz a3)), some (am_i (wz a4)), some (am_i (wz a5)), some (am_i (wz a6)), some (am_i (wz a7)), none] [] A D (ri x) A' D'
def K_X11_place_110 (n : Nat) (A : aA) (D : aD) (a1 : Int) (a2 : Int) (a3 : Int) (a4 : Int) (a5 : Int) (a6 : Int) (a7 : Int) (ti0 : Int) (x : Int) (A' : aA) (D' : aD) : Prop := Lp n 8 P_X11_place 110 [some (am_r (some 32)), some (am_i (wz a1)), some (am_i (wz a2)), some (am_i (wz a3)), some (am_i (wz a4)), some (am_i (wz a5)), some (am_i (wz a6)), some (am_i (wz a7)), none] [am_r (some (A 11 ti0))] A D (ri x) A' D'
def K_X11_place_143 (n : Nat) (A : aA) (D : aD) (a1 : Int) (a2 : Int) (a3 : Int) (a4 : Int) (a5 : Int) (a6 : Int) (a7 : Int) (i8 : Int) (x : Int) (A' : aA) (D' : aD) : Prop := Lp n 8 P_X11_place 143 [some (am_r (some 32)), some (am_i (wz a1)), some (am_i (wz a2)), some (am_i (wz a3)), some (am_i (wz a4)), some (am_i (wz a5)), some (am_i (wz a6)), some (am_i (wz a7)), some (am_r (some (A 11 i8)))] [] A D (ri x) A' D'
set_option maxRecDepth 100000 in
theorem rl_X11_place {n : Nat} {A A' : aA} {D D' : aD} (a1 : Int) (a2 : Int) (a3 : Int) (a4 : Int) (a5 : Int) (a6 : Int) (h1 : rg a1) (h2 : rg a2) (h3 : rg a3) (h4 : rg a4) (h5 : rg a5) (h6 : rg a6) {x : Int} (hp : (if v_X11_isHouse D a1 = 0 then (A' = A ∧ x = (-1) ∧ D' = D) else (if v_X11_between D a2 0 5 = 0 then (A' = A ∧ x = (-1) ∧ D' = D) else (if v_X11_between D a3 1 999 = 0 then (A' = A ∧ x = (-1) ∧ D' = D) else (if v_X11_between D a4 0 255 = 0 then (A' = A ∧ x = (-1) ∧ D' = D) else (if v_X11_between D a5 0 99 = 0 then (A' = A ∧ x = (-1) ∧ D' = D) else (if v_X11_between D a6 (-1) 3 = 0 then (A' = A ∧ x = (-1) ∧ D' = D) else (if D 1002 1 < 30 then K_X11_place_87 (n) A D a1 a2 a3 a4 a5 a6 1 x A' D' else (A' = A ∧ x = (-1) ∧ D' = D))))))))) : Ev (n) (9) 75 [am_r (some 32), am_i (wz a1), am_i (wz a2), am_i (wz a3), am_i (wz a4), am_i (wz a5), am_i (wz a6)] A D (ri x) A' D' := by
  refine Ev_of (c := 8) (P := P_X11_place) (lo := [some (am_r (some 32)), some (am_i (wz a1)), some (am_i (wz a2)), some (am_i (wz a3)), some (am_i (wz a4)), some (am_i (wz a5)), some (am_i (wz a6)), none, none]) rfl rfl rfl (fun d hd s hr => ?_)
  refine ok (m_aload_n (q := 1) rfl rfl rfl rfl) ?_
  refine ok (m_iload_n (q := 2) rfl rfl rfl rfl) ?_
  refine oke (e_ci (x_cv (q := 5) rfl rfl rfl rfl rfl rfl rfl rfl rfl rfl (is_st hr rfl rfl)) (ev_X11_isHouse (D := D) a1 h1) (Nat.le_trans (by decide) hd) hr) (fun s1 r2 => ?_)
  refine okc (m_ifeq (qt := 65) (qf := 8) rfl rfl (Ev_rg (ev_X11_isHouse (D := D) a1 h1) hr) rfl rfl) (fun c3 => ?_) (fun c3 => ?_)
  · replace hp := ip c3 hp
    refine ok (m_iconst (q := 66) rfl rfl rfl) ?_
    refine ok (m_istore (q := 68) (lo' := [some (am_r (some 32)), some (am_i (wz a1)), some (am_i (wz a2)), some (am_i (wz a3)), some (am_i (wz a4)), some (am_i (wz a5)), some (am_i (wz a6)), some (am_i (wz 0)), none]) rfl rfl rfl rfl rfl) ?_
    refine ok (m_iload (q := 70) rfl rfl rfl rfl) ?_
    refine ok ((m_ifeq (qt := 85) (qf := 73) rfl rfl ⟨by decide, by decide⟩ rfl rfl).trans (if_pos (by decide))) ?_
    refine ok (m_iconst (q := 86) rfl rfl rfl) ?_
    obtain ⟨rfl, hp⟩ := hp
    exact ok (m_reti rfl rfl) (ok_iq r2 ⟨by decide, by decide⟩ hp)
  · replace hp := iq c3 hp
    refine ok (m_iload_n (q := 9) rfl rfl rfl rfl) ?_
    refine ok (m_iconst (q := 10) rfl rfl rfl) ?_
    refine ok (m_iconst (q := 11) rfl rfl rfl) ?_
    refine oke (e_ci (x_cs (q := 14) rfl rfl rfl rfl rfl rfl rfl rfl rfl) (ev_X11_between (D := D) a2 0 5 h2 ⟨by decide, by decide⟩ ⟨by decide, by decide⟩) (Nat.le_trans (by decide) hd) r2) (fun s4 r5 => ?_)
    refine okc (m_ifeq (qt := 65) (qf := 17) rfl rfl (Ev_rg (ev_X11_between (D := D) a2 0 5 h2 ⟨by decide, by decide⟩ ⟨by decide, by decide⟩) r2) rfl rfl) (fun c6 => ?_) (fun c6 => ?_)
    · replace hp := ip c6 hp
      refine ok (m_iconst (q := 66) rfl rfl rfl) ?_
      refine ok (m_istore (q := 68) (lo' := [some (am_r (some 32)), some (am_i (wz a1)), some (am_i (wz a2)), some (am_i (wz a3)), some (am_i (wz a4)), some (am_i (wz a5)), some (am_i (wz a6)), some (am_i (wz 0)), none]) rfl rfl rfl rfl rfl) ?_
      refine ok (m_iload (q := 70) rfl rfl rfl rfl) ?_
      refine ok ((m_ifeq (qt := 85) (qf := 73) rfl rfl ⟨by decide, by decide⟩ rfl rfl).trans (if_pos (by decide))) ?_
      refine ok (m_iconst (q := 86) rfl rfl rfl) ?_
      obtain ⟨rfl, hp⟩ := hp
      exact ok (m_reti rfl rfl) (ok_iq r5 ⟨by decide, by decide⟩ hp)
    · replace hp := iq c6 hp
      refine ok (m_iload_n (q := 18) rfl rfl rfl rfl) ?_
      refine ok (m_iconst (q := 19) rfl rfl rfl) ?_
      refine ok (m_sipush (q := 22) rfl rfl rfl) ?_
      refine oke (e_ci (x_cs (q := 25) rfl rfl rfl rfl rfl rfl rfl rfl rfl) (ev_X11_between (D := D) a3 1 999 h3 ⟨by decide, by decide⟩ ⟨by decide, by decide⟩) (Nat.le_trans (by decide) hd) r5) (fun s7 r8 => ?_)
      refine okc (m_ifeq (qt := 65) (qf := 28) rfl rfl (Ev_rg (ev_X11_between (D := D) a3 1 999 h3 ⟨by decide, by decide⟩ ⟨by decide, by decide⟩) r5) rfl rfl) (fun c9 => ?_) (fun c9 => ?_)
      · replace hp := ip c9 hp
        refine ok (m_iconst (q := 66) rfl rfl rfl) ?_
        refine ok (m_istore (q := 68) (lo' := [some (am_r (some 32)), some (am_i (wz a1)), some (am_i (wz a2)), some (am_i (wz a3)), some (am_i (wz a4)), some (am_i (wz a5)), some (am_i (wz a6)), some (am_i (wz 0)), none]) rfl rfl rfl rfl rfl) ?_
        refine ok (m_iload (q := 70) rfl rfl rfl rfl) ?_
        refine ok ((m_ifeq (qt := 85) (qf := 73) rfl rfl ⟨by decide, by decide⟩ rfl rfl).trans (if_pos (by decide))) ?_
        refine ok (m_iconst (q := 86) rfl rfl rfl) ?_
        obtain ⟨rfl, hp⟩ := hp
        exact ok (m_reti rfl rfl) (ok_iq r8 ⟨by decide, by decide⟩ hp)
      · replace hp := iq c9 hp
        refine ok (m_iload (q := 30) rfl rfl rfl rfl) ?_
        refine ok (m_iconst (q := 31) rfl rfl rfl) ?_
        refine ok (m_sipush (q := 34) rfl rfl rfl) ?_
        refine oke (e_ci (x_cs (q := 37) rfl rfl rfl rfl rfl rfl rfl rfl rfl) (ev_X11_between (D := D) a4 0 255 h4 ⟨by decide, by decide⟩ ⟨by decide, by decide⟩) (Nat.le_trans (by decide) hd) r8) (fun s10 r11 => ?_)
        refine okc (m_ifeq (qt := 65) (qf := 40) rfl rfl (Ev_rg (ev_X11_between (D := D) a4 0 255 h4 ⟨by decide, by decide⟩ ⟨by decide, by decide⟩) r8) rfl rfl) (fun c12 => ?_) (fun c12 => ?_)
        · replace hp := ip c12 hp
          refine ok (m_iconst (q := 66) rfl rfl rfl) ?_
          refine ok (m_istore (q := 68) (lo' := [some (am_r (some 32)), some (am_i (wz a1)), some (am_i (wz a2)), some (am_i (wz a3)), some (am_i (wz a4)), some (am_i (wz a5)), some (am_i (wz a6)), some (am_i (wz 0)), none]) rfl rfl rfl rfl rfl) ?_
          refine ok (m_iload (q := 70) rfl rfl rfl rfl) ?_
          refine ok ((m_ifeq (qt := 85) (qf := 73) rfl rfl ⟨by decide, by decide⟩ rfl rfl).trans (if_pos (by decide))) ?_
          refine ok (m_iconst (q := 86) rfl rfl rfl) ?_
          obtain ⟨rfl, hp⟩ := hp
          exact ok (m_reti rfl rfl) (ok_iq r11 ⟨by decide, by decide⟩ hp)
        · replace hp := iq c12 hp
          refine ok (m_iload (q := 42) rfl rfl rfl rfl) ?_
          refine ok (m_iconst (q := 43) rfl rfl rfl) ?_
          refine ok (m_bipush (q := 45) rfl rfl rfl) ?_
          refine oke (e_ci (x_cs (q := 48) rfl rfl rfl rfl rfl rfl rfl rfl rfl) (ev_X11_between (D := D) a5 0 99 h5 ⟨by decide, by decide⟩ ⟨by decide, by decide⟩) (Nat.le_trans (by decide) hd) r11) (fun s13 r14 => ?_)
          refine okc (m_ifeq (qt := 65) (qf := 51) rfl rfl (Ev_rg (ev_X11_between (D := D) a5 0 99 h5 ⟨by decide, by decide⟩ ⟨by decide, by decide⟩) r11) rfl rfl) (fun c15 => ?_) (fun c15 => ?_)
          · replace hp := ip c15 hp
            refine ok (m_iconst (q := 66) rfl rfl rfl) ?_
            refine ok (m_istore (q := 68) (lo' := [some (am_r (some 32)), some (am_i (wz a1)), some (am_i (wz a2)), some (am_i (wz a3)), some (am_i (wz a4)), some (am_i (wz a5)), some (am_i (wz a6)), some (am_i (wz 0)), none]) rfl rfl rfl rfl rfl) ?_
            refine ok (m_iload (q := 70) rfl rfl rfl rfl) ?_
            refine ok ((m_ifeq (qt := 85) (qf := 73) rfl rfl ⟨by decide, by decide⟩ rfl rfl).trans (if_pos (by decide))) ?_
            refine ok (m_iconst (q := 86) rfl rfl rfl) ?_
            obtain ⟨rfl, hp⟩ := hp
            exact ok (m_reti rfl rfl) (ok_iq r14 ⟨by decide, by decide⟩ hp)
          · replace hp := iq c15 hp
            refine ok (m_iload (q := 53) rfl rfl rfl rfl) ?_
            refine ok (m_iconst (q := 54) rfl rfl rfl) ?_
            refine ok (m_iconst (q := 55) rfl rfl rfl) ?_
            refine oke (e_ci (x_cs (q := 58) rfl rfl rfl rfl rfl rfl rfl rfl rfl) (ev_X11_between (D := D) a6 (-1) 3 h6 ⟨by decide, by decide⟩ ⟨by decide, by decide⟩) (Nat.le_trans (by decide) hd) r14) (fun s16 r17 => ?_)
            refine okc (m_ifeq (qt := 65) (qf := 61) rfl rfl (Ev_rg (ev_X11_between (D := D) a6 (-1) 3 h6 ⟨by decide, by decide⟩ ⟨by decide, by decide⟩) r14) rfl rfl) (fun c18 => ?_) (fun c18 => ?_)
            · replace hp := ip c18 hp
              refine ok (m_iconst (q := 66) rfl rfl rfl) ?_
              refine ok (m_istore (q := 68) (lo' := [some (am_r (some 32)), some (am_i (wz a1)), some (am_i (wz a2)), some (am_i (wz a3)), some (am_i (wz a4)), some (am_i (wz a5)), some (am_i (wz a6)), some (am_i (wz 0)), none]) rfl rfl rfl rfl rfl) ?_
              refine ok (m_iload (q := 70) rfl rfl rfl rfl) ?_
              refine ok ((m_ifeq (qt := 85) (qf := 73) rfl rfl ⟨by decide, by decide⟩ rfl rfl).trans (if_pos (by decide))) ?_
              refine ok (m_iconst (q := 86) rfl rfl rfl) ?_
              obtain ⟨rfl, hp⟩ := hp
              exact ok (m_reti rfl rfl) (ok_iq r17 ⟨by decide, by decide⟩ hp)
            · replace hp := iq c18 hp
              refine ok (m_iconst (q := 62) rfl rfl rfl) ?_
              refine ok (m_goto (q := 66) rfl rfl rfl) ?_
              refine ok (m_istore (q := 68) (lo' := [some (am_r (some 32)), some (am_i (wz a1)), some (am_i (wz a2)), some (am_i (wz a3)), some (am_i (wz a4)), some (am_i (wz a5)), some (am_i (wz a6)), some (am_i (wz 1)), none]) rfl rfl rfl rfl rfl) ?_
              refine ok (m_iload (q := 70) rfl rfl rfl rfl) ?_
              refine ok ((m_ifeq (qt := 85) (qf := 73) rfl rfl ⟨by decide, by decide⟩ rfl rfl).trans (if_neg (by decide))) ?_
              refine ok (m_aload_n (q := 74) rfl rfl rfl rfl) ?_
              have f_19 := Rp_fx0_1 r17
              refine ok (m_gfy (q := 77) rfl rfl rfl r17 rfl rfl rfl) ?_
              refine oke (e_ci (x_cv (q := 80) rfl rfl rfl rfl rfl rfl rfl rfl rfl rfl (is_ty r17 rfl f_19)) (ev_size 1 f_19) (Nat.le_trans (by decide) hd) r17) (fun s20 r21 => ?_)
              refine ok (m_bipush (q := 82) rfl rfl rfl) ?_
              refine okc (m_cmplt (qt := 87) (qf := 85) rfl rfl (show rg (D 1002 1) from Rp_rg r17 1002 1) ⟨by decide, by decide⟩ rfl rfl) (fun c22 => ?_) (fun c22 => ?_)
              · replace hp := ip c22 hp
                exact hp d hd _ r21
              · replace hp := iq c22 hp
                refine ok (m_iconst (q := 86) rfl rfl rfl) ?_
                obtain ⟨rfl, hp⟩ := hp
                exact ok (m_reti rfl rfl) (ok_iq r21 ⟨by decide, by decide⟩ hp)
set_option maxRecDepth 100000 in
theorem rl_X11_place_110 {n : Nat} {A A' : aA} {D D' : aD} (a1 : Int) (a2 : Int) (a3 : Int) (a4 : Int) (a5 : Int) (a6 : Int) (a7 : Int) (ti0 : Int) (h1 : rg a1) (h2 : rg a2) (h3 : rg a3) (h4 : rg a4) (h5 : rg a5) (h6 : rg a6) (h7 : rg a7) (b7 : 0 ≤ a7 ∧ a7 ≤ 1) (tf0 : D 911 ti0 = 1) {x : Int} (hp : (adK (up (up (up D 2105 ti0 a4) 2106 ti0 a5) 2107 ti0 a6) 1 ti0) ∧ K_X11_place_143 (n) (addA A (up (up (up D 2105 ti0 a4) 2106 ti0 a5) 2107 ti0 a6) 1) (addD (up (up (up D 2105 ti0 a4) 2106 ti0 a5) 2107 ti0 a6) 1) a1 a2 a3 a4 a5 a6 a7 ti0 x A' D') : K_X11_place_110 (n) A D a1 a2 a3 a4 a5 a6 a7 ti0 x A' D' := by
  unfold K_X11_place_110
  refine fun d hd s hr => ?_
  refine ok (m_astore (q := 112) (lo' := [some (am_r (some 32)), some (am_i (wz a1)), some (am_i (wz a2)), some (am_i (wz a3)), some (am_i (wz a4)), some (am_i (wz a5)), some (am_i (wz a6)), some (am_i (wz a7)), some (am_r (some (A 11 ti0)))]) rfl rfl rfl rfl rfl) ?_
  refine ok (m_aload (q := 114) rfl rfl rfl rfl) ?_
  refine ok (m_iload (q := 116) rfl rfl rfl rfl) ?_
  refine oke (e_pft (t := 11) (q := 119) rfl rfl rfl hr rfl rfl tf0 rfl rfl h4) (fun s24 r23 => ?_)
  refine ok (m_aload (q := 121) rfl rfl rfl rfl) ?_
  refine ok (m_iload (q := 123) rfl rfl rfl rfl) ?_
  refine oke (e_pft (t := 11) (q := 126) rfl rfl rfl r23 rfl rfl tf0 rfl rfl h5) (fun s26 r25 => ?_)
  refine ok (m_aload (q := 128) rfl rfl rfl rfl) ?_
  refine ok (m_iload (q := 130) rfl rfl rfl rfl) ?_
  refine oke (e_pft (t := 11) (q := 133) rfl rfl rfl r25 rfl rfl tf0 rfl rfl h6) (fun s28 r27 => ?_)
  refine ok (m_aload_n (q := 134) rfl rfl rfl rfl) ?_
  have f_29 := Rp_fx0_1 r27
  refine ok (m_gfy (q := 137) rfl rfl rfl r27 rfl rfl rfl) ?_
  refine ok (m_aload (q := 139) rfl rfl rfl rfl) ?_
  obtain ⟨g32, hp⟩ := hp
  refine oke (e_ci (x_cv (q := 142) rfl rfl rfl rfl rfl rfl rfl rfl rfl rfl (is_ty r27 rfl f_29)) (ev_addk (D := (up (up (up D 2105 ti0 a4) 2106 ti0 a5) 2107 ti0 a6)) (l := 1) (e := ti0) (t := 11) f_29 tf0 rfl g32) (Nat.le_trans (by decide) hd) r27) (fun s30 r31 => ?_)
  refine ok (m_popi (q := 143) rfl rfl rfl) ?_
  exact ok (by first | rfl | (simp (disch := decide) only [addA_n]; rfl) | simp (disch := decide) only [addA_n]) (hp d hd _ r31)
set_option maxRecDepth 100000 in
theorem rl_X11_place_143 {n : Nat} {A A' : aA} {D D' : aD} (a1 : Int) (a2 : Int) (a3 : Int) (a4 : Int) (a5 : Int) (a6 : Int) (a7 : Int) (i8 : Int) (h1 : rg a1) (h2 : rg a2) (h3 : rg a3) (h4 : rg a4) (h5 : rg a5) (h6 : rg a6) (h7 : rg a7) (b7 : 0 ≤ a7 ∧ a7 ≤ 1) (f8 : D 911 i8 = 1) {x : Int} (hp : (A' = A ∧ x = D 2100 i8 ∧ D' = D)) : K_X11_place_143 (n) A D a1 a2 a3 a4 a5 a6 a7 i8 x A' D' := by
  unfold K_X11_place_143
  refine fun d hd s hr => ?_
  refine ok (m_aload (q := 145) rfl rfl rfl rfl) ?_
  refine ok (m_gft (t := 11) (q := 148) rfl rfl rfl hr rfl f8 rfl rfl rfl) ?_
  obtain ⟨rfl, hp⟩ := hp
  exact ok (m_reti rfl rfl) (ok_iq hr (show rg (D 2100 i8) from Rp_rg hr 2100 i8) hp)
abbrev P_X11_placing : Nat → Option am_E := am_fy tb_X11_placing
def K_X11_placing_58 (n : Nat) (A : aA) (D : aD) (a1 : Int) (a2 : Int) (a3 : Int) (i4 : Int) (x : Int) (A' : aA) (D' : aD) : Prop := Lp n 8 P_X11_placing 58 [some (am_r (some 32)), some (am_i (wz a1)), some (am_i (wz a2)), some (am_i (wz a3)), some (am_r (some (A 11 i4))), none] [] A D (ri x) A' D'
def K_X11_placing_89 (n : Nat) (A : aA) (D : aD) (a1 : Int) (a2 : Int) (a3 : Int) (i4 : Int) (ti0 : Int) (x : Int) (A' : aA) (D' : aD) : Prop := Lp n 8 P_X11_placing 89 [some (am_r (some 32)), some (am_i (wz a1)), some (am_i (wz a2)), some (am_i (wz a3)), some (am_r (some (A 11 i4))), none] [am_r (some (A 15 ti0))] A D (ri x) A' D'
def K_X11_placing_124 (n : Nat) (A : aA) (D : aD) (a1 : Int) (a2 : Int) (a3 : Int) (i4 : Int) (i5 : Int) (x : Int) (A' : aA) (D' : aD) : Prop := Lp n 8 P_X11_placing 124 [some (am_r (some 32)), some (am_i (wz a1)), some (am_i (wz a2)), some (am_i (wz a3)), some (am_r (some (A 11 i4))), some (am_r (some (A 15 i5)))] [] A D (ri x) A' D'
set_option maxRecDepth 100000 in
theorem rl_X11_placing {n : Nat} {A A' : aA} {D D' : aD} (a1 : Int) (a2 : Int) (a3 : Int) (h1 : rg a1) (h2 : rg a2) (h3 : rg a3) {x : Int} (hp : (if v_X11_isServant D a1 = 0 then (A' = A ∧ x = (-1) ∧ D' = D) else (if v_X11_isPlace D a2 = 0 then (A' = A ∧ x = (-1) ∧ D' = D) else (if v_X11_between D a3 0 (D 32 14) = 0 then (A' = A ∧ x = (-1) ∧ D' = D) else (if D 1002 5 < 60 then (0 ≤ a2 ∧ a2 < D 1002 1) ∧ K_X11_placing_58 (n) A D a1 a2 a3 a2 x A' D' else (A' = A ∧ x = (-1) ∧ D' = D)))))) : Ev (n) (9) 76 [am_r (some 32), am_i (wz a1), am_i (wz a2), am_i (wz a3)] A D (ri x) A' D' := by
  refine Ev_of (c := 8) (P := P_X11_placing) (lo := [some (am_r (some 32)), some (am_i (wz a1)), some (am_i (wz a2)), some (am_i (wz a3)), none, none]) rfl rfl rfl (fun d hd s hr => ?_)
  refine ok (m_aload_n (q := 1) rfl rfl rfl rfl) ?_
  refine ok (m_iload_n (q := 2) rfl rfl rfl rfl) ?_
  refine oke (e_ci (x_cv (q := 5) rfl rfl rfl rfl rfl rfl rfl rfl rfl rfl (is_st hr rfl rfl)) (ev_X11_isServant (D := D) a1 h1) (Nat.le_trans (by decide) hd) hr) (fun s1 r2 => ?_)
  refine okc (m_ifeq (qt := 43) (qf := 8) rfl rfl (Ev_rg (ev_X11_isServant (D := D) a1 h1) hr) rfl rfl) (fun c3 => ?_) (fun c3 => ?_)
  · replace hp := ip c3 hp
    refine ok (m_iconst (q := 44) rfl rfl rfl) ?_
    obtain ⟨rfl, hp⟩ := hp
    exact ok (m_reti rfl rfl) (ok_iq r2 ⟨by decide, by decide⟩ hp)
  · replace hp := iq c3 hp
    refine ok (m_aload_n (q := 9) rfl rfl rfl rfl) ?_
    refine ok (m_iload_n (q := 10) rfl rfl rfl rfl) ?_
    refine oke (e_ci (x_cv (q := 13) rfl rfl rfl rfl rfl rfl rfl rfl rfl rfl (is_st r2 rfl rfl)) (ev_X11_isPlace (D := D) a2 h2) (Nat.le_trans (by decide) hd) r2) (fun s4 r5 => ?_)
    refine okc (m_ifeq (qt := 43) (qf := 16) rfl rfl (Ev_rg (ev_X11_isPlace (D := D) a2 h2) r2) rfl rfl) (fun c6 => ?_) (fun c6 => ?_)
    · replace hp := ip c6 hp
      refine ok (m_iconst (q := 44) rfl rfl rfl) ?_
      obtain ⟨rfl, hp⟩ := hp
      exact ok (m_reti rfl rfl) (ok_iq r5 ⟨by decide, by decide⟩ hp)
    · replace hp := iq c6 hp
      refine ok (m_iload_n (q := 17) rfl rfl rfl rfl) ?_
      refine ok (m_iconst (q := 18) rfl rfl rfl) ?_
      refine ok (m_aload_n (q := 19) rfl rfl rfl rfl) ?_
      refine ok (m_gfs (z := 14) (q := 22) rfl rfl rfl r5 rfl rfl rfl rfl rfl) ?_
      refine oke (e_ci (x_cs (q := 25) rfl rfl rfl rfl rfl rfl rfl rfl rfl) (ev_X11_between (D := D) a3 0 (D 32 14) h3 ⟨by decide, by decide⟩ (Rp_rg r5 32 14)) (Nat.le_trans (by decide) hd) r5) (fun s7 r8 => ?_)
      refine okc (m_ifeq (qt := 43) (qf := 28) rfl rfl (Ev_rg (ev_X11_between (D := D) a3 0 (D 32 14) h3 ⟨by decide, by decide⟩ (Rp_rg r5 32 14)) r5) rfl rfl) (fun c9 => ?_) (fun c9 => ?_)
      · replace hp := ip c9 hp
        refine ok (m_iconst (q := 44) rfl rfl rfl) ?_
        obtain ⟨rfl, hp⟩ := hp
        exact ok (m_reti rfl rfl) (ok_iq r8 ⟨by decide, by decide⟩ hp)
      · replace hp := iq c9 hp
        refine ok (m_aload_n (q := 29) rfl rfl rfl rfl) ?_
        refine ok (m_gfc (q := 32) rfl rfl rfl r8 rfl rfl rfl) ?_
        have f_10 := Rp_fx0_5 r8
        refine ok (m_gfy (q := 35) rfl rfl rfl r8 rfl rfl rfl) ?_
        refine oke (e_ci (x_cv (q := 38) rfl rfl rfl rfl rfl rfl rfl rfl rfl rfl (is_ty r8 rfl f_10)) (ev_size 5 f_10) (Nat.le_trans (by decide) hd) r8) (fun s11 r12 => ?_)
        refine ok (m_bipush (q := 40) rfl rfl rfl) ?_
        refine okc (m_cmplt (qt := 45) (qf := 43) rfl rfl (show rg (D 1002 5) from Rp_rg r8 1002 5) ⟨by decide, by decide⟩ rfl rfl) (fun c13 => ?_) (fun c13 => ?_)
        · replace hp := ip c13 hp
          refine ok (m_aload_n (q := 46) rfl rfl rfl rfl) ?_
          have f_14 := Rp_fx0_1 r12
          refine ok (m_gfy (q := 49) rfl rfl rfl r12 rfl rfl rfl) ?_
          refine ok (m_iload_n (q := 50) rfl rfl rfl rfl) ?_
          obtain ⟨g17, hp⟩ := hp
          have f_18 := Rp_el1 (D := D) r12 g17
          refine oke (e_cr (x_cv (q := 53) rfl rfl rfl rfl rfl rfl rfl rfl rfl rfl (is_ty r12 rfl f_14)) (ev_get1 a2 g17) (Nat.le_trans (by decide) hd) r12) (fun s15 r16 => ?_)
          refine ok (m_cast (q := 56) rfl rfl rfl (isN_ty r16 rfl f_18)) ?_
          refine ok (m_astore (q := 58) (lo' := [some (am_r (some 32)), some (am_i (wz a1)), some (am_i (wz a2)), some (am_i (wz a3)), some (am_r (some (A 11 a2))), none]) rfl rfl rfl rfl rfl) ?_
          exact hp d hd _ r16
        · replace hp := iq c13 hp
          refine ok (m_iconst (q := 44) rfl rfl rfl) ?_
          obtain ⟨rfl, hp⟩ := hp
          exact ok (m_reti rfl rfl) (ok_iq r12 ⟨by decide, by decide⟩ hp)
set_option maxRecDepth 100000 in
theorem rl_X11_placing_89 {n : Nat} {A A' : aA} {D D' : aD} (a1 : Int) (a2 : Int) (a3 : Int) (i4 : Int) (ti0 : Int) (h1 : rg a1) (h2 : rg a2) (h3 : rg a3) (f4 : D 911 i4 = 1) (tf0 : D 915 ti0 = 1) {x : Int} (hp : (0 ≤ D 2102 i4 ∧ D 2102 i4 < 5) ∧ (adK (up D 2504 ti0 (wr ((D 32 14) + (D 33 (D 2102 i4))))) 5 ti0) ∧ K_X11_placing_124 (n) (addA A (up D 2504 ti0 (wr ((D 32 14) + (D 33 (D 2102 i4))))) 5) (addD (up D 2504 ti0 (wr ((D 32 14) + (D 33 (D 2102 i4))))) 5) a1 a2 a3 i4 ti0 x A' D') : K_X11_placing_89 (n) A D a1 a2 a3 i4 ti0 x A' D' := by
  unfold K_X11_placing_89
  refine fun d hd s hr => ?_
  refine ok (m_astore (q := 91) (lo' := [some (am_r (some 32)), some (am_i (wz a1)), some (am_i (wz a2)), some (am_i (wz a3)), some (am_r (some (A 11 i4))), some (am_r (some (A 15 ti0)))]) rfl rfl rfl rfl rfl) ?_
  refine ok (m_aload (q := 93) rfl rfl rfl rfl) ?_
  refine ok (m_aload_n (q := 94) rfl rfl rfl rfl) ?_
  refine ok (m_gfs (z := 14) (q := 97) rfl rfl rfl hr rfl rfl rfl rfl rfl) ?_
  refine ok (m_aload_n (q := 98) rfl rfl rfl rfl) ?_
  refine ok (m_gfc (q := 101) rfl rfl rfl hr rfl rfl rfl) ?_
  refine ok (m_aload (q := 103) rfl rfl rfl rfl) ?_
  refine ok (m_gft (t := 11) (q := 106) rfl rfl rfl hr rfl f4 rfl rfl rfl) ?_
  obtain ⟨g19, hp⟩ := hp
  refine ok (m_ials (q := 107) rfl rfl rfl hr rfl rfl g19 rfl) ?_
  refine ok (m_iadd (q := 108) rfl rfl rfl) ?_
  refine oke (e_pft (t := 15) (q := 111) rfl rfl rfl hr rfl rfl tf0 rfl rfl (rg_wr _)) (fun s21 r20 => ?_)
  refine ok (m_aload_n (q := 112) rfl rfl rfl rfl) ?_
  refine ok (m_gfc (q := 115) rfl rfl rfl r20 rfl rfl rfl) ?_
  have f_22 := Rp_fx0_5 r20
  refine ok (m_gfy (q := 118) rfl rfl rfl r20 rfl rfl rfl) ?_
  refine ok (m_aload (q := 120) rfl rfl rfl rfl) ?_
  obtain ⟨g25, hp⟩ := hp
  refine oke (e_ci (x_cv (q := 123) rfl rfl rfl rfl rfl rfl rfl rfl rfl rfl (is_ty r20 rfl f_22)) (ev_addk (D := (up D 2504 ti0 (wr ((D 32 14) + (D 33 (D 2102 i4)))))) (l := 5) (e := ti0) (t := 15) f_22 tf0 rfl g25) (Nat.le_trans (by decide) hd) r20) (fun s23 r24 => ?_)
  refine ok (m_popi (q := 124) rfl rfl rfl) ?_
  exact ok (by first | rfl | (simp (disch := decide) only [addA_n]; rfl) | simp (disch := decide) only [addA_n]) (hp d hd _ r24)
set_option maxRecDepth 100000 in
theorem rl_X11_placing_124 {n : Nat} {A A' : aA} {D D' : aD} (a1 : Int) (a2 : Int) (a3 : Int) (i4 : Int) (i5 : Int) (h1 : rg a1) (h2 : rg a2) (h3 : rg a3) (f4 : D 911 i4 = 1) (f5 : D 915 i5 = 1) {x : Int} (hp : (A' = A ∧ x = D 2500 i5 ∧ D' = D)) : K_X11_placing_124 (n) A D a1 a2 a3 i4 i5 x A' D' := by
  unfold K_X11_placing_124
  refine fun d hd s hr => ?_
  refine ok (m_aload (q := 126) rfl rfl rfl rfl) ?_
  refine ok (m_gft (t := 15) (q := 129) rfl rfl rfl hr rfl f5 rfl rfl rfl) ?_
  obtain ⟨rfl, hp⟩ := hp
  exact ok (m_reti rfl rfl) (ok_iq hr (show rg (D 2500 i5) from Rp_rg hr 2500 i5) hp)
abbrev P_X11_write : Nat → Option am_E := am_fy tb_X11_write
def K_X11_write_79 (n : Nat) (A : aA) (D : aD) (a1 : Int) (a2 : Int) (a3 : Int) (a4 : Int) (a5 : Int) (a6 : Int) (x : Int) (A' : aA) (D' : aD) : Prop := Lp n 8 P_X11_write 79 [some (am_r (some 32)), some (am_i (wz a1)), some (am_i (wz a2)), some (am_i (wz a3)), some (am_i (wz a4)), some (am_i (wz a5)), some (am_i (wz a6)), none] [] A D (ri x) A' D'
def K_X11_write_93 (n : Nat) (A : aA) (D : aD) (a1 : Int) (a2 : Int) (a3 : Int) (a4 : Int) (a5 : Int) (a6 : Int) (ti0 : Int) (x : Int) (A' : aA) (D' : aD) : Prop := Lp n 8 P_X11_write 93 [some (am_r (some 32)), some (am_i (wz a1)), some (am_i (wz a2)), some (am_i (wz a3)), some (am_i (wz a4)), some (am_i (wz a5)), some (am_i (wz a6)), none] [am_r (some (A 12 ti0))] A D (ri x) A' D'
def K_X11_write_119 (n : Nat) (A : aA) (D : aD) (a1 : Int) (a2 : Int) (a3 : Int) (a4 : Int) (a5 : Int) (a6 : Int) (i7 : Int) (x : Int) (A' : aA) (D' : aD) : Prop := Lp n 8 P_X11_write 119 [some (am_r (some 32)), some (am_i (wz a1)), some (am_i (wz a2)), some (am_i (wz a3)), some (am_i (wz a4)), some (am_i (wz a5)), some (am_i (wz a6)), some (am_r (some (A 12 i7)))] [] A D (ri x) A' D'
set_option maxRecDepth 100000 in
theorem rl_X11_write {n : Nat} {A A' : aA} {D D' : aD} (a1 : Int) (a2 : Int) (a3 : Int) (a4 : Int) (a5 : Int) (h1 : rg a1) (h2 : rg a2) (h3 : rg a3) (h4 : rg a4) (h5 : rg a5) {x : Int} (hp : (if v_X11_isHouse D a1 = 0 then (A' = A ∧ x = (-1) ∧ D' = D) else (if v_X11_isServant D a2 = 0 then (A' = A ∧ x = (-1) ∧ D' = D) else (if v_X11_between D a3 0 9 = 0 then (A' = A ∧ x = (-1) ∧ D' = D) else (if v_X11_between D a4 0 (D 32 14) = 0 then (A' = A ∧ x = (-1) ∧ D' = D) else (if v_X11_between D a5 a4 (D 32 14) = 0 then (A' = A ∧ x = (-1) ∧ D' = D) else (if D 1002 2 < 60 then K_X11_write_79 (n) A D a1 a2 a3 a4 a5 1 x A' D' else (A' = A ∧ x = (-1) ∧ D' = D)))))))) : Ev (n) (9) 89 [am_r (some 32), am_i (wz a1), am_i (wz a2), am_i (wz a3), am_i (wz a4), am_i (wz a5)] A D (ri x) A' D' := by
  refine Ev_of (c := 8) (P := P_X11_write) (lo := [some (am_r (some 32)), some (am_i (wz a1)), some (am_i (wz a2)), some (am_i (wz a3)), some (am_i (wz a4)), some (am_i (wz a5)), none, none]) rfl rfl rfl (fun d hd s hr => ?_)
  refine ok (m_aload_n (q := 1) rfl rfl rfl rfl) ?_
  refine ok (m_iload_n (q := 2) rfl rfl rfl rfl) ?_
  refine oke (e_ci (x_cv (q := 5) rfl rfl rfl rfl rfl rfl rfl rfl rfl rfl (is_st hr rfl rfl)) (ev_X11_isHouse (D := D) a1 h1) (Nat.le_trans (by decide) hd) hr) (fun s1 r2 => ?_)
  refine okc (m_ifeq (qt := 57) (qf := 8) rfl rfl (Ev_rg (ev_X11_isHouse (D := D) a1 h1) hr) rfl rfl) (fun c3 => ?_) (fun c3 => ?_)
  · replace hp := ip c3 hp
    refine ok (m_iconst (q := 58) rfl rfl rfl) ?_
    refine ok (m_istore (q := 60) (lo' := [some (am_r (some 32)), some (am_i (wz a1)), some (am_i (wz a2)), some (am_i (wz a3)), some (am_i (wz a4)), some (am_i (wz a5)), some (am_i (wz 0)), none]) rfl rfl rfl rfl rfl) ?_
    refine ok (m_iload (q := 62) rfl rfl rfl rfl) ?_
    refine ok ((m_ifeq (qt := 77) (qf := 65) rfl rfl ⟨by decide, by decide⟩ rfl rfl).trans (if_pos (by decide))) ?_
    refine ok (m_iconst (q := 78) rfl rfl rfl) ?_
    obtain ⟨rfl, hp⟩ := hp
    exact ok (m_reti rfl rfl) (ok_iq r2 ⟨by decide, by decide⟩ hp)
  · replace hp := iq c3 hp
    refine ok (m_aload_n (q := 9) rfl rfl rfl rfl) ?_
    refine ok (m_iload_n (q := 10) rfl rfl rfl rfl) ?_
    refine oke (e_ci (x_cv (q := 13) rfl rfl rfl rfl rfl rfl rfl rfl rfl rfl (is_st r2 rfl rfl)) (ev_X11_isServant (D := D) a2 h2) (Nat.le_trans (by decide) hd) r2) (fun s4 r5 => ?_)
    refine okc (m_ifeq (qt := 57) (qf := 16) rfl rfl (Ev_rg (ev_X11_isServant (D := D) a2 h2) r2) rfl rfl) (fun c6 => ?_) (fun c6 => ?_)
    · replace hp := ip c6 hp
      refine ok (m_iconst (q := 58) rfl rfl rfl) ?_
      refine ok (m_istore (q := 60) (lo' := [some (am_r (some 32)), some (am_i (wz a1)), some (am_i (wz a2)), some (am_i (wz a3)), some (am_i (wz a4)), some (am_i (wz a5)), some (am_i (wz 0)), none]) rfl rfl rfl rfl rfl) ?_
      refine ok (m_iload (q := 62) rfl rfl rfl rfl) ?_
      refine ok ((m_ifeq (qt := 77) (qf := 65) rfl rfl ⟨by decide, by decide⟩ rfl rfl).trans (if_pos (by decide))) ?_
      refine ok (m_iconst (q := 78) rfl rfl rfl) ?_
      obtain ⟨rfl, hp⟩ := hp
      exact ok (m_reti rfl rfl) (ok_iq r5 ⟨by decide, by decide⟩ hp)
    · replace hp := iq c6 hp
      refine ok (m_iload_n (q := 17) rfl rfl rfl rfl) ?_
      refine ok (m_iconst (q := 18) rfl rfl rfl) ?_
      refine ok (m_bipush (q := 20) rfl rfl rfl) ?_
      refine oke (e_ci (x_cs (q := 23) rfl rfl rfl rfl rfl rfl rfl rfl rfl) (ev_X11_between (D := D) a3 0 9 h3 ⟨by decide, by decide⟩ ⟨by decide, by decide⟩) (Nat.le_trans (by decide) hd) r5) (fun s7 r8 => ?_)
      refine okc (m_ifeq (qt := 57) (qf := 26) rfl rfl (Ev_rg (ev_X11_between (D := D) a3 0 9 h3 ⟨by decide, by decide⟩ ⟨by decide, by decide⟩) r5) rfl rfl) (fun c9 => ?_) (fun c9 => ?_)
      · replace hp := ip c9 hp
        refine ok (m_iconst (q := 58) rfl rfl rfl) ?_
        refine ok (m_istore (q := 60) (lo' := [some (am_r (some 32)), some (am_i (wz a1)), some (am_i (wz a2)), some (am_i (wz a3)), some (am_i (wz a4)), some (am_i (wz a5)), some (am_i (wz 0)), none]) rfl rfl rfl rfl rfl) ?_
        refine ok (m_iload (q := 62) rfl rfl rfl rfl) ?_
        refine ok ((m_ifeq (qt := 77) (qf := 65) rfl rfl ⟨by decide, by decide⟩ rfl rfl).trans (if_pos (by decide))) ?_
        refine ok (m_iconst (q := 78) rfl rfl rfl) ?_
        obtain ⟨rfl, hp⟩ := hp
        exact ok (m_reti rfl rfl) (ok_iq r8 ⟨by decide, by decide⟩ hp)
      · replace hp := iq c9 hp
        refine ok (m_iload (q := 28) rfl rfl rfl rfl) ?_
        refine ok (m_iconst (q := 29) rfl rfl rfl) ?_
        refine ok (m_aload_n (q := 30) rfl rfl rfl rfl) ?_
        refine ok (m_gfs (z := 14) (q := 33) rfl rfl rfl r8 rfl rfl rfl rfl rfl) ?_
        refine oke (e_ci (x_cs (q := 36) rfl rfl rfl rfl rfl rfl rfl rfl rfl) (ev_X11_between (D := D) a4 0 (D 32 14) h4 ⟨by decide, by decide⟩ (Rp_rg r8 32 14)) (Nat.le_trans (by decide) hd) r8) (fun s10 r11 => ?_)
        refine okc (m_ifeq (qt := 57) (qf := 39) rfl rfl (Ev_rg (ev_X11_between (D := D) a4 0 (D 32 14) h4 ⟨by decide, by decide⟩ (Rp_rg r8 32 14)) r8) rfl rfl) (fun c12 => ?_) (fun c12 => ?_)
        · replace hp := ip c12 hp
          refine ok (m_iconst (q := 58) rfl rfl rfl) ?_
          refine ok (m_istore (q := 60) (lo' := [some (am_r (some 32)), some (am_i (wz a1)), some (am_i (wz a2)), some (am_i (wz a3)), some (am_i (wz a4)), some (am_i (wz a5)), some (am_i (wz 0)), none]) rfl rfl rfl rfl rfl) ?_
          refine ok (m_iload (q := 62) rfl rfl rfl rfl) ?_
          refine ok ((m_ifeq (qt := 77) (qf := 65) rfl rfl ⟨by decide, by decide⟩ rfl rfl).trans (if_pos (by decide))) ?_
          refine ok (m_iconst (q := 78) rfl rfl rfl) ?_
          obtain ⟨rfl, hp⟩ := hp
          exact ok (m_reti rfl rfl) (ok_iq r11 ⟨by decide, by decide⟩ hp)
        · replace hp := iq c12 hp
          refine ok (m_iload (q := 41) rfl rfl rfl rfl) ?_
          refine ok (m_iload (q := 43) rfl rfl rfl rfl) ?_
          refine ok (m_aload_n (q := 44) rfl rfl rfl rfl) ?_
          refine ok (m_gfs (z := 14) (q := 47) rfl rfl rfl r11 rfl rfl rfl rfl rfl) ?_
          refine oke (e_ci (x_cs (q := 50) rfl rfl rfl rfl rfl rfl rfl rfl rfl) (ev_X11_between (D := D) a5 a4 (D 32 14) h5 h4 (Rp_rg r11 32 14)) (Nat.le_trans (by decide) hd) r11) (fun s13 r14 => ?_)
          refine okc (m_ifeq (qt := 57) (qf := 53) rfl rfl (Ev_rg (ev_X11_between (D := D) a5 a4 (D 32 14) h5 h4 (Rp_rg r11 32 14)) r11) rfl rfl) (fun c15 => ?_) (fun c15 => ?_)
          · replace hp := ip c15 hp
            refine ok (m_iconst (q := 58) rfl rfl rfl) ?_
            refine ok (m_istore (q := 60) (lo' := [some (am_r (some 32)), some (am_i (wz a1)), some (am_i (wz a2)), some (am_i (wz a3)), some (am_i (wz a4)), some (am_i (wz a5)), some (am_i (wz 0)), none]) rfl rfl rfl rfl rfl) ?_
            refine ok (m_iload (q := 62) rfl rfl rfl rfl) ?_
            refine ok ((m_ifeq (qt := 77) (qf := 65) rfl rfl ⟨by decide, by decide⟩ rfl rfl).trans (if_pos (by decide))) ?_
            refine ok (m_iconst (q := 78) rfl rfl rfl) ?_
            obtain ⟨rfl, hp⟩ := hp
            exact ok (m_reti rfl rfl) (ok_iq r14 ⟨by decide, by decide⟩ hp)
          · replace hp := iq c15 hp
            refine ok (m_iconst (q := 54) rfl rfl rfl) ?_
            refine ok (m_goto (q := 58) rfl rfl rfl) ?_
            refine ok (m_istore (q := 60) (lo' := [some (am_r (some 32)), some (am_i (wz a1)), some (am_i (wz a2)), some (am_i (wz a3)), some (am_i (wz a4)), some (am_i (wz a5)), some (am_i (wz 1)), none]) rfl rfl rfl rfl rfl) ?_
            refine ok (m_iload (q := 62) rfl rfl rfl rfl) ?_
            refine ok ((m_ifeq (qt := 77) (qf := 65) rfl rfl ⟨by decide, by decide⟩ rfl rfl).trans (if_neg (by decide))) ?_
            refine ok (m_aload_n (q := 66) rfl rfl rfl rfl) ?_
            have f_16 := Rp_fx0_2 r14
            refine ok (m_gfy (q := 69) rfl rfl rfl r14 rfl rfl rfl) ?_
            refine oke (e_ci (x_cv (q := 72) rfl rfl rfl rfl rfl rfl rfl rfl rfl rfl (is_ty r14 rfl f_16)) (ev_size 2 f_16) (Nat.le_trans (by decide) hd) r14) (fun s17 r18 => ?_)
            refine ok (m_bipush (q := 74) rfl rfl rfl) ?_
            refine okc (m_cmplt (qt := 79) (qf := 77) rfl rfl (show rg (D 1002 2) from Rp_rg r14 1002 2) ⟨by decide, by decide⟩ rfl rfl) (fun c19 => ?_) (fun c19 => ?_)
            · replace hp := ip c19 hp
              exact hp d hd _ r18
            · replace hp := iq c19 hp
              refine ok (m_iconst (q := 78) rfl rfl rfl) ?_
              obtain ⟨rfl, hp⟩ := hp
              exact ok (m_reti rfl rfl) (ok_iq r18 ⟨by decide, by decide⟩ hp)
set_option maxRecDepth 100000 in
theorem rl_X11_write_93 {n : Nat} {A A' : aA} {D D' : aD} (a1 : Int) (a2 : Int) (a3 : Int) (a4 : Int) (a5 : Int) (a6 : Int) (ti0 : Int) (h1 : rg a1) (h2 : rg a2) (h3 : rg a3) (h4 : rg a4) (h5 : rg a5) (h6 : rg a6) (b6 : 0 ≤ a6 ∧ a6 ≤ 1) (tf0 : D 912 ti0 = 1) {x : Int} (hp : (adK (up (up D 2204 ti0 a4) 2205 ti0 a5) 2 ti0) ∧ K_X11_write_119 (n) (addA A (up (up D 2204 ti0 a4) 2205 ti0 a5) 2) (addD (up (up D 2204 ti0 a4) 2205 ti0 a5) 2) a1 a2 a3 a4 a5 a6 ti0 x A' D') : K_X11_write_93 (n) A D a1 a2 a3 a4 a5 a6 ti0 x A' D' := by
  unfold K_X11_write_93
  refine fun d hd s hr => ?_
  refine ok (m_astore (q := 95) (lo' := [some (am_r (some 32)), some (am_i (wz a1)), some (am_i (wz a2)), some (am_i (wz a3)), some (am_i (wz a4)), some (am_i (wz a5)), some (am_i (wz a6)), some (am_r (some (A 12 ti0)))]) rfl rfl rfl rfl rfl) ?_
  refine ok (m_aload (q := 97) rfl rfl rfl rfl) ?_
  refine ok (m_iload (q := 99) rfl rfl rfl rfl) ?_
  refine oke (e_pft (t := 12) (q := 102) rfl rfl rfl hr rfl rfl tf0 rfl rfl h4) (fun s21 r20 => ?_)
  refine ok (m_aload (q := 104) rfl rfl rfl rfl) ?_
  refine ok (m_iload (q := 106) rfl rfl rfl rfl) ?_
  refine oke (e_pft (t := 12) (q := 109) rfl rfl rfl r20 rfl rfl tf0 rfl rfl h5) (fun s23 r22 => ?_)
  refine ok (m_aload_n (q := 110) rfl rfl rfl rfl) ?_
  have f_24 := Rp_fx0_2 r22
  refine ok (m_gfy (q := 113) rfl rfl rfl r22 rfl rfl rfl) ?_
  refine ok (m_aload (q := 115) rfl rfl rfl rfl) ?_
  obtain ⟨g27, hp⟩ := hp
  refine oke (e_ci (x_cv (q := 118) rfl rfl rfl rfl rfl rfl rfl rfl rfl rfl (is_ty r22 rfl f_24)) (ev_addk (D := (up (up D 2204 ti0 a4) 2205 ti0 a5)) (l := 2) (e := ti0) (t := 12) f_24 tf0 rfl g27) (Nat.le_trans (by decide) hd) r22) (fun s25 r26 => ?_)
  refine ok (m_popi (q := 119) rfl rfl rfl) ?_
  exact ok (by first | rfl | (simp (disch := decide) only [addA_n]; rfl) | simp (disch := decide) only [addA_n]) (hp d hd _ r26)
set_option maxRecDepth 100000 in
theorem rl_X11_write_119 {n : Nat} {A A' : aA} {D D' : aD} (a1 : Int) (a2 : Int) (a3 : Int) (a4 : Int) (a5 : Int) (a6 : Int) (i7 : Int) (h1 : rg a1) (h2 : rg a2) (h3 : rg a3) (h4 : rg a4) (h5 : rg a5) (h6 : rg a6) (b6 : 0 ≤ a6 ∧ a6 ≤ 1) (f7 : D 912 i7 = 1) {x : Int} (hp : (A' = A ∧ x = wr ((D 1002 2) - 1) ∧ D' = D)) : K_X11_write_119 (n) A D a1 a2 a3 a4 a5 a6 i7 x A' D' := by
  unfold K_X11_write_119
  refine fun d hd s hr => ?_
  refine ok (m_aload_n (q := 120) rfl rfl rfl rfl) ?_
  have f_28 := Rp_fx0_2 hr
  refine ok (m_gfy (q := 123) rfl rfl rfl hr rfl rfl rfl) ?_
  refine oke (e_ci (x_cv (q := 126) rfl rfl rfl rfl rfl rfl rfl rfl rfl rfl (is_ty hr rfl f_28)) (ev_size 2 f_28) (Nat.le_trans (by decide) hd) hr) (fun s29 r30 => ?_)
  refine ok (m_iconst (q := 127) rfl rfl rfl) ?_
  refine ok (m_isub (q := 128) rfl rfl rfl) ?_
  obtain ⟨rfl, hp⟩ := hp
  exact ok (m_reti rfl rfl) (ok_iq r30 (rg_wr _) hp)
abbrev P_X11_ask : Nat → Option am_E := am_fy tb_X11_ask
def K_X11_ask_30 (n : Nat) (A : aA) (D : aD) (a1 : Int) (a2 : Int) (a3 : Int) (x : Int) (A' : aA) (D' : aD) : Prop := Lp n 8 P_X11_ask 30 [some (am_r (some 32)), some (am_i (wz a1)), some (am_i (wz a2)), some (am_i (wz a3))] [] A D (ri x) A' D'
def K_X11_ask_72 (n : Nat) (A : aA) (D : aD) (a1 : Int) (a2 : Int) (a3 : Int) (x : Int) (A' : aA) (D' : aD) : Prop := Lp n 8 P_X11_ask 72 [some (am_r (some 32)), some (am_i (wz a1)), some (am_i (wz a2)), some (am_i (wz a3))] [] A D (ri x) A' D'
set_option maxRecDepth 100000 in
theorem rl_X11_ask {n : Nat} {A A' : aA} {D D' : aD} (a1 : Int) (a2 : Int) (a3 : Int) (h1 : rg a1) (h2 : rg a2) (h3 : rg a3) (b3 : 0 ≤ a3 ∧ a3 ≤ 1) {x : Int} (hp : (if v_X11_isServant D a1 = 0 then (A' = A ∧ x = (-1) ∧ D' = D) else (if v_X11_isPlace D a2 = 0 then (A' = A ∧ x = (-1) ∧ D' = D) else (if D 1002 3 < 60 then K_X11_ask_30 (n) A D a1 a2 a3 x A' D' else (A' = A ∧ x = (-1) ∧ D' = D))))) : Ev (n) (9) 102 [am_r (some 32), am_i (wz a1), am_i (wz a2), am_i (wz a3)] A D (ri x) A' D' := by
  refine Ev_of (c := 8) (P := P_X11_ask) (lo := [some (am_r (some 32)), some (am_i (wz a1)), some (am_i (wz a2)), some (am_i (wz a3))]) rfl rfl rfl (fun d hd s hr => ?_)
  refine ok (m_aload_n (q := 1) rfl rfl rfl rfl) ?_
  refine ok (m_iload_n (q := 2) rfl rfl rfl rfl) ?_
  refine oke (e_ci (x_cv (q := 5) rfl rfl rfl rfl rfl rfl rfl rfl rfl rfl (is_st hr rfl rfl)) (ev_X11_isServant (D := D) a1 h1) (Nat.le_trans (by decide) hd) hr) (fun s1 r2 => ?_)
  refine okc (m_ifeq (qt := 28) (qf := 8) rfl rfl (Ev_rg (ev_X11_isServant (D := D) a1 h1) hr) rfl rfl) (fun c3 => ?_) (fun c3 => ?_)
  · replace hp := ip c3 hp
    refine ok (m_iconst (q := 29) rfl rfl rfl) ?_
    obtain ⟨rfl, hp⟩ := hp
    exact ok (m_reti rfl rfl) (ok_iq r2 ⟨by decide, by decide⟩ hp)
  · replace hp := iq c3 hp
    refine ok (m_aload_n (q := 9) rfl rfl rfl rfl) ?_
    refine ok (m_iload_n (q := 10) rfl rfl rfl rfl) ?_
    refine oke (e_ci (x_cv (q := 13) rfl rfl rfl rfl rfl rfl rfl rfl rfl rfl (is_st r2 rfl rfl)) (ev_X11_isPlace (D := D) a2 h2) (Nat.le_trans (by decide) hd) r2) (fun s4 r5 => ?_)
    refine okc (m_ifeq (qt := 28) (qf := 16) rfl rfl (Ev_rg (ev_X11_isPlace (D := D) a2 h2) r2) rfl rfl) (fun c6 => ?_) (fun c6 => ?_)
    · replace hp := ip c6 hp
      refine ok (m_iconst (q := 29) rfl rfl rfl) ?_
      obtain ⟨rfl, hp⟩ := hp
      exact ok (m_reti rfl rfl) (ok_iq r5 ⟨by decide, by decide⟩ hp)
    · replace hp := iq c6 hp
      refine ok (m_aload_n (q := 17) rfl rfl rfl rfl) ?_
      have f_7 := Rp_fx0_3 r5
      refine ok (m_gfy (q := 20) rfl rfl rfl r5 rfl rfl rfl) ?_
      refine oke (e_ci (x_cv (q := 23) rfl rfl rfl rfl rfl rfl rfl rfl rfl rfl (is_ty r5 rfl f_7)) (ev_size 3 f_7) (Nat.le_trans (by decide) hd) r5) (fun s8 r9 => ?_)
      refine ok (m_bipush (q := 25) rfl rfl rfl) ?_
      refine okc (m_cmplt (qt := 30) (qf := 28) rfl rfl (show rg (D 1002 3) from Rp_rg r5 1002 3) ⟨by decide, by decide⟩ rfl rfl) (fun c10 => ?_) (fun c10 => ?_)
      · replace hp := ip c10 hp
        exact hp d hd _ r9
      · replace hp := iq c10 hp
        refine ok (m_iconst (q := 29) rfl rfl rfl) ?_
        obtain ⟨rfl, hp⟩ := hp
        exact ok (m_reti rfl rfl) (ok_iq r9 ⟨by decide, by decide⟩ hp)
set_option maxRecDepth 100000 in
theorem rl_X11_ask_72 {n : Nat} {A A' : aA} {D D' : aD} (a1 : Int) (a2 : Int) (a3 : Int) (h1 : rg a1) (h2 : rg a2) (h3 : rg a3) (b3 : 0 ≤ a3 ∧ a3 ≤ 1) {x : Int} (hp : (A' = A ∧ x = wr ((D 1002 3) - 1) ∧ D' = D)) : K_X11_ask_72 (n) A D a1 a2 a3 x A' D' := by
  unfold K_X11_ask_72
  refine fun d hd s hr => ?_
  refine ok (m_aload_n (q := 73) rfl rfl rfl rfl) ?_
  have f_11 := Rp_fx0_3 hr
  refine ok (m_gfy (q := 76) rfl rfl rfl hr rfl rfl rfl) ?_
  refine oke (e_ci (x_cv (q := 79) rfl rfl rfl rfl rfl rfl rfl rfl rfl rfl (is_ty hr rfl f_11)) (ev_size 3 f_11) (Nat.le_trans (by decide) hd) hr) (fun s12 r13 => ?_)
  refine ok (m_iconst (q := 80) rfl rfl rfl) ?_
  refine ok (m_isub (q := 81) rfl rfl rfl) ?_
  obtain ⟨rfl, hp⟩ := hp
  exact ok (m_reti rfl rfl) (ok_iq r13 (rg_wr _) hp)
theorem pl_new {a1 a2 a3 a4 a5 a6 a7 : Int} (hr : Rp n A D s) (h9 : ∀ i, D 901 i = 1 → D 900 i = 1) (hn : D 911 (D 1002 1) ≠ 1 ∧ D 921 (D 1002 1) ≠ 1) (h1 : rg a1) (h2 : rg a2) (h3 : rg a3) (ht : 0 ≤ a1 ∧ a1 < 12) (hh : D 950 0 ≤ 1000000000 ∧ D 951 0 ≤ 1000000000) : ∃ s', mr (d + 1) P_X11_place 87 [some (am_r (some 32)), some (am_i (wz a1)), some (am_i (wz a2)), some (am_i (wz a3)), some (am_i (wz a4)), some (am_i (wz a5)), some (am_i (wz a6)), some (am_i (wz a7)), none] [] s = mr (d + 1) P_X11_place 110 [some (am_r (some 32)), some (am_i (wz a1)), some (am_i (wz a2)), some (am_i (wz a3)), some (am_i (wz a4)), some (am_i (wz a5)), some (am_i (wz a6)), some (am_i (wz a7)), none] [am_r (some (pvA A (D 1002 1) (D 950 0).toNat 11 (D 1002 1)))] s' ∧ Rp n (pvA A (D 1002 1) (D 950 0).toNat) (pvD D (D 1002 1) (D 1002 1) a1 (D 34 a1) a2 a3 0 0 (-1)) s' := by
  have f0 : D 900 1 = 1 := (Rp_cl hr).2.2.2.2.2.2.2.2.2.2.2.2.1
  have h950 := Rp_rg hr 950 0
  have h951 := Rp_rg hr 951 0
  unfold rg at h950 h951
  have h135 : 32 ≤ s.1.length := by obtain ⟨_, F, H⟩ := hr; have := Rp0_135 H; omega
  have hg := Rp_grow (cs := [.inl (5, [am_i 0, am_i 0, am_i 0, am_i 0, am_i 0, am_i 0, am_i 0, am_i 0, am_r none])]) (k := 9) hr ⟨by simp only [List.length_singleton]; omega, by simp only [List.length_singleton]; omega⟩ ⟨by omega, by omega⟩
  rw [Rp_len hr]
  rw [pvA_t]
  refine ⟨_, ?_, Rp_pv (i := D 1002 1) (x0 := D 1002 1) (x1 := a1) (x2 := D 34 a1) (x3 := a2) (x4 := a3) (x5 := 0) (x6 := 0) (x7 := -1) hr h9 hn (Rp_rg hr 1002 1) h1 (Rp_rg hr 34 a1) h2 h3 rg0 rg0 ⟨by decide, by decide⟩ hh⟩
  refine (x_new (q := 90) (fs := [am_i 0, am_i 0, am_i 0, am_i 0, am_i 0, am_i 0, am_i 0, am_i 0, am_r none]) rfl rfl rfl rfl).trans ?_
  refine (m_dup (q := 91) rfl rfl rfl rfl).trans ?_
  refine (m_aload_n (q := 92) rfl rfl rfl rfl).trans ?_
  refine (m_gfy (t := 0) (i := 1) (q := 95) rfl rfl rfl hg rfl rfl rfl).trans ?_
  have f0' : (up (up D 950 0 (D 950 0 + (([.inl (5, [am_i 0, am_i 0, am_i 0, am_i 0, am_i 0, am_i 0, am_i 0, am_i 0, am_r none])] : List am_Ce).length : Nat))) 951 0 (D 951 0 + (9 : Nat))) 900 1 = 1 := by
    rw [up_c (by decide), up_c (by decide)]; exact f0
  refine (x_cv (rk := 1) (r := some (A 0 1)) (as := []) (rest := [am_r (some s.1.length), am_r (some s.1.length)]) (q := 98) rfl rfl rfl rfl rfl rfl rfl rfl rfl rfl (is_ty hg rfl f0')).trans ?_
  rw [rw_size 1 hg f0', up_c (by decide), up_c (by decide)]
  refine (m_iload_n (q := 99) rfl rfl rfl rfl).trans ?_
  refine (m_aload_n (q := 100) rfl rfl rfl rfl).trans ?_
  refine (m_gfc (q := 103) rfl rfl rfl hg rfl rfl rfl).trans ?_
  refine (m_iload_n (q := 104) rfl rfl rfl rfl).trans ?_
  refine (m_ials (q := 105) (w := D 34 a1) rfl rfl rfl hg rfl rfl ht rfl).trans ?_
  refine (m_iload_n (q := 106) rfl rfl rfl rfl).trans ?_
  refine (m_iload_n (q := 107) rfl rfl rfl rfl).trans ?_
  refine (x_cp (rk := 0) (r := some s.1.length) (as := [am_i (wz (D 1002 1)), am_i (wz a1), am_i (wz (D 34 a1)), am_i (wz a2), am_i (wz a3)]) (rest := [am_r (some s.1.length)]) (q := 110) rfl rfl rfl rfl rfl rfl rfl rfl rfl rfl (is_of ap_at)).trans ?_
  refine (congrArg (fun z => am_ans 0 z (fun st s => mr (d + 1) P_X11_place 110 [some (am_r (some 32)), some (am_i (wz a1)), some (am_i (wz a2)), some (am_i (wz a3)), some (am_i (wz a4)), some (am_i (wz a5)), some (am_i (wz a6)), some (am_i (wz a7)), none] st s) [am_r (some s.1.length)]) (rw_i33 (d := d) (s := (s.1 ++ [.inl (5, [am_i 0, am_i 0, am_i 0, am_i 0, am_i 0, am_i 0, am_i 0, am_i 0, am_r none])], s.2 + 9)) (v1 := wz (D 1002 1)) (v2 := wz a1) (v3 := wz (D 34 a1)) (v4 := wz a2) (v5 := wz a3) ap_at h135)).trans ?_
  simp only [ap2, List.length_append, List.length_cons, List.length_nil, Nat.zero_add]
  rfl
theorem K_pl {a1 a2 a3 a4 a5 a6 a7 x : Int} (h9 : ∀ i, D 901 i = 1 → D 900 i = 1) (hn : D 911 (D 1002 1) ≠ 1 ∧ D 921 (D 1002 1) ≠ 1) (h1 : rg a1) (h2 : rg a2) (h3 : rg a3) (ht : 0 ≤ a1 ∧ a1 < 12) (hh : D 950 0 ≤ 1000000000 ∧ D 951 0 ≤ 1000000000) (H : K_X11_place_110 n (pvA A (D 1002 1) (D 950 0).toNat) (pvD D (D 1002 1) (D 1002 1) a1 (D 34 a1) a2 a3 0 0 (-1)) a1 a2 a3 a4 a5 a6 a7 (D 1002 1) x A' D') : K_X11_place_87 n A D a1 a2 a3 a4 a5 a6 a7 x A' D' := by
  intro d hd s hr
  obtain ⟨e, rfl⟩ : ∃ e, d = e + 1 := ⟨d - 1, by omega⟩
  exact oke (pl_new hr h9 hn h1 h2 h3 ht hh) (fun s' hr' => H (e + 1) hd s' hr')
theorem pg_new {a1 a2 a3 i4 : Int} (hr : Rp n A D s) (h9 : ∀ i, D 901 i = 1 → D 900 i = 1) (hn : D 915 (D 1002 5) ≠ 1) (h3 : rg a3) (g1 : 0 ≤ a1 ∧ a1 < D 1002 0) (f4 : D 911 i4 = 1) (r4 : rg i4) (hh : D 950 0 ≤ 1000000000 ∧ D 951 0 ≤ 1000000000) : ∃ s', mr (d + 3) P_X11_placing 58 [some (am_r (some 32)), some (am_i (wz a1)), some (am_i (wz a2)), some (am_i (wz a3)), some (am_r (some (A 11 i4))), none] [] s = mr (d + 3) P_X11_placing 89 [some (am_r (some 32)), some (am_i (wz a1)), some (am_i (wz a2)), some (am_i (wz a3)), some (am_r (some (upA A 15 (D 1002 5) (D 950 0).toNat 11 i4))), none] [am_r (some (upA A 15 (D 1002 5) (D 950 0).toNat 15 (D 1002 5)))] s' ∧ Rp n (upA A 15 (D 1002 5) (D 950 0).toNat) (pgD D (D 1002 5) (D 1002 5) a1 i4 a3 0 (-1) (-1) 0 (-1) (-1) 0) s' := by
  have f0 : D 900 0 = 1 := (Rp_cl hr).2.2.2.2.2.2.2.2.2.2.2.1
  have f5 : D 900 5 = 1 := (Rp_cl hr).2.2.2.2.2.2.2.2.2.2.2.2.2.2.2.2.1
  have f1 : D 910 a1 = 1 := Rp_el0 hr g1
  have hb0 := (Rp_cl hr).1 0 f0
  have r1 : rg a1 := ⟨by omega, by omega⟩
  have h950 := Rp_rg hr 950 0
  have h951 := Rp_rg hr 951 0
  unfold rg at h950 h951
  have h135 : 32 ≤ s.1.length := by obtain ⟨_, F, H⟩ := hr; have := Rp0_135 H; omega
  have hg := Rp_grow (cs := [.inl (6, [am_i 0, am_r none, am_r none, am_i 0, am_i 0, am_i 0, am_i 0, am_i 0, am_i 0, am_i 0, am_i 0])]) (k := 11) hr ⟨by simp only [List.length_singleton]; omega, by simp only [List.length_singleton]; omega⟩ ⟨by omega, by omega⟩
  rw [Rp_len hr]
  rw [upA_eq, upA_t (show (11 : Nat) ≠ 15 by decide)]
  refine ⟨_, ?_, Rp_pg (i := D 1002 5) (x0 := D 1002 5) (x1 := a1) (x2 := i4) (x3 := a3) (x4 := 0) (x5 := -1) (x6 := -1) (x7 := 0) (x8 := -1) (x9 := -1) (x10 := 0) hr h9 hn ⟨f1, f4⟩ (Rp_rg hr 1002 5) r1 r4 h3 rg0 ⟨by decide, by decide⟩ ⟨by decide, by decide⟩ rg0 ⟨by decide, by decide⟩ ⟨by decide, by decide⟩ rg0 hh⟩
  refine (x_new (q := 61) (fs := [am_i 0, am_r none, am_r none, am_i 0, am_i 0, am_i 0, am_i 0, am_i 0, am_i 0, am_i 0, am_i 0]) rfl rfl rfl rfl).trans ?_
  refine (m_dup (q := 62) rfl rfl rfl rfl).trans ?_
  refine (m_aload_n (q := 63) rfl rfl rfl rfl).trans ?_
  refine (m_gfc (q := 66) rfl rfl rfl hg rfl rfl rfl).trans ?_
  refine (m_gfy (t := 0) (i := 5) (q := 69) rfl rfl rfl hg rfl rfl rfl).trans ?_
  have f5' : (up (up D 950 0 (D 950 0 + (([.inl (6, [am_i 0, am_r none, am_r none, am_i 0, am_i 0, am_i 0, am_i 0, am_i 0, am_i 0, am_i 0, am_i 0])] : List am_Ce).length : Nat))) 951 0 (D 951 0 + (11 : Nat))) 900 5 = 1 := by
    rw [up_c (by decide), up_c (by decide)]; exact f5
  have f0' : (up (up D 950 0 (D 950 0 + (([.inl (6, [am_i 0, am_r none, am_r none, am_i 0, am_i 0, am_i 0, am_i 0, am_i 0, am_i 0, am_i 0, am_i 0])] : List am_Ce).length : Nat))) 951 0 (D 951 0 + (11 : Nat))) 900 0 = 1 := by
    rw [up_c (by decide), up_c (by decide)]; exact f0
  have f1' : (up (up D 950 0 (D 950 0 + (([.inl (6, [am_i 0, am_r none, am_r none, am_i 0, am_i 0, am_i 0, am_i 0, am_i 0, am_i 0, am_i 0, am_i 0])] : List am_Ce).length : Nat))) 951 0 (D 951 0 + (11 : Nat))) 910 a1 = 1 := by
    rw [up_c (by decide), up_c (by decide)]; exact f1
  refine (x_cv (rk := 1) (r := some (A 0 5)) (as := []) (rest := [am_r (some s.1.length), am_r (some s.1.length)]) (q := 72) rfl rfl rfl rfl rfl rfl rfl rfl rfl rfl (is_ty hg rfl f5')).trans ?_
  rw [rw_size 5 hg f5', up_c (by decide), up_c (by decide)]
  refine (m_aload_n (q := 73) rfl rfl rfl rfl).trans ?_
  refine (m_gfy (t := 0) (i := 0) (q := 76) rfl rfl rfl hg rfl rfl rfl).trans ?_
  refine (m_iload_n (q := 77) rfl rfl rfl rfl).trans ?_
  refine (x_cv (rk := 3) (r := some (A 0 0)) (as := [am_i (wz a1)]) (rest := [am_i (wz (D 1002 5)), am_r (some s.1.length), am_r (some s.1.length)]) (q := 80) rfl rfl rfl rfl rfl rfl rfl rfl rfl rfl (is_ty hg rfl f0')).trans ?_
  rw [rw_get 0 a1 hg f0' (by rw [up_c (by decide), up_c (by decide)]; exact g1)]
  rw [show ebs 0 + a1 = a1 from Int.zero_add _]
  refine (m_cast (q := 83) rfl rfl rfl (isN_ty (t := 10) hg rfl f1')).trans ?_
  refine (m_aload (q := 85) rfl rfl rfl rfl).trans ?_
  refine (m_iload_n (q := 86) rfl rfl rfl rfl).trans ?_
  refine (x_cp (rk := 0) (r := some s.1.length) (as := [am_i (wz (D 1002 5)), am_r (some (A 10 a1)), am_r (some (A 11 i4)), am_i (wz a3)]) (rest := [am_r (some s.1.length)]) (q := 89) rfl rfl rfl rfl rfl rfl rfl rfl rfl rfl (is_of ap_at)).trans ?_
  refine (congrArg (fun z => am_ans 0 z (fun st s => mr (d + 3) P_X11_placing 89 [some (am_r (some 32)), some (am_i (wz a1)), some (am_i (wz a2)), some (am_i (wz a3)), some (am_r (some (A 11 i4))), none] st s) [am_r (some s.1.length)]) (rw_i34 (d := d + 2) (s := (s.1 ++ [.inl (6, [am_i 0, am_r none, am_r none, am_i 0, am_i 0, am_i 0, am_i 0, am_i 0, am_i 0, am_i 0, am_i 0])], s.2 + 11)) (v1 := wz (D 1002 5)) (v4 := wz a3) (r2 := some (A 10 a1)) (r3 := some (A 11 i4)) ap_at h135)).trans ?_
  simp only [ap_set]
  rfl
theorem K_pg {a1 a2 a3 i4 x : Int} (h9 : ∀ i, D 901 i = 1 → D 900 i = 1) (hn : D 915 (D 1002 5) ≠ 1) (h3 : rg a3) (g1 : 0 ≤ a1 ∧ a1 < D 1002 0) (f4 : ∀ s, Rp n A D s → D 911 i4 = 1) (r4 : rg i4) (hh : D 950 0 ≤ 1000000000 ∧ D 951 0 ≤ 1000000000) (H : K_X11_placing_89 n (upA A 15 (D 1002 5) (D 950 0).toNat) (pgD D (D 1002 5) (D 1002 5) a1 i4 a3 0 (-1) (-1) 0 (-1) (-1) 0) a1 a2 a3 i4 (D 1002 5) x A' D') : K_X11_placing_58 n A D a1 a2 a3 i4 x A' D' := by
  intro d hd s hr
  obtain ⟨e, rfl⟩ : ∃ e, d = e + 3 := ⟨d - 3, by omega⟩
  exact oke (pg_new hr h9 hn h3 g1 (f4 s hr) r4 hh) (fun s' hr' => H (e + 3) hd s' hr')
theorem tm_new {a1 a2 a3 a4 a5 a6 : Int} (hr : Rp n A D s) (h9 : ∀ i, D 901 i = 1 → D 900 i = 1) (hn : D 912 (D 1002 2) ≠ 1) (h1 : rg a1) (h2 : rg a2) (h3 : rg a3) (hh : D 950 0 ≤ 1000000000 ∧ D 951 0 ≤ 1000000000) : ∃ s', mr (d + 1) P_X11_write 79 [some (am_r (some 32)), some (am_i (wz a1)), some (am_i (wz a2)), some (am_i (wz a3)), some (am_i (wz a4)), some (am_i (wz a5)), some (am_i (wz a6)), none] [] s = mr (d + 1) P_X11_write 93 [some (am_r (some 32)), some (am_i (wz a1)), some (am_i (wz a2)), some (am_i (wz a3)), some (am_i (wz a4)), some (am_i (wz a5)), some (am_i (wz a6)), none] [am_r (some (upA A 12 (D 1002 2) (D 950 0).toNat 12 (D 1002 2)))] s' ∧ Rp n (upA A 12 (D 1002 2) (D 950 0).toNat) (tmD D (D 1002 2) a1 a2 a3 (D 32 14) 0 0) s' := by
  have h950 := Rp_rg hr 950 0
  have h951 := Rp_rg hr 951 0
  unfold rg at h950 h951
  have h135 : 32 ≤ s.1.length := by obtain ⟨_, F, H⟩ := hr; have := Rp0_135 H; omega
  have hg := Rp_grow (cs := [.inl (11, [am_i 0, am_i 0, am_i 0, am_i 0, am_i 0, am_i 0])]) (k := 6) hr ⟨by simp only [List.length_singleton]; omega, by simp only [List.length_singleton]; omega⟩ ⟨by omega, by omega⟩
  rw [Rp_len hr]
  rw [upA_eq]
  refine ⟨_, ?_, Rp_tm (i := D 1002 2) (x0 := a1) (x1 := a2) (x2 := a3) (x3 := D 32 14) (x4 := 0) (x5 := 0) hr h9 hn h1 h2 h3 (Rp_rg hr 32 14) rg0 rg0 hh⟩
  refine (x_new (q := 82) (fs := [am_i 0, am_i 0, am_i 0, am_i 0, am_i 0, am_i 0]) rfl rfl rfl rfl).trans ?_
  refine (m_dup (q := 83) rfl rfl rfl rfl).trans ?_
  refine (m_iload_n (q := 84) rfl rfl rfl rfl).trans ?_
  refine (m_iload_n (q := 85) rfl rfl rfl rfl).trans ?_
  refine (m_iload_n (q := 86) rfl rfl rfl rfl).trans ?_
  refine (m_aload_n (q := 87) rfl rfl rfl rfl).trans ?_
  refine (m_gfs (z := 14) (w := D 32 14) (q := 90) rfl rfl rfl hg rfl rfl rfl rfl rfl).trans ?_
  refine (x_cp (rk := 0) (r := some s.1.length) (as := [am_i (wz a1), am_i (wz a2), am_i (wz a3), am_i (wz (D 32 14))]) (rest := [am_r (some s.1.length)]) (q := 93) rfl rfl rfl rfl rfl rfl rfl rfl rfl rfl (is_of ap_at)).trans ?_
  refine (congrArg (fun z => am_ans 0 z (fun st s => mr (d + 1) P_X11_write 93 [some (am_r (some 32)), some (am_i (wz a1)), some (am_i (wz a2)), some (am_i (wz a3)), some (am_i (wz a4)), some (am_i (wz a5)), some (am_i (wz a6)), none] st s) [am_r (some s.1.length)]) (rw_i69 (d := d) (s := (s.1 ++ [.inl (11, [am_i 0, am_i 0, am_i 0, am_i 0, am_i 0, am_i 0])], s.2 + 6)) (v1 := wz a1) (v2 := wz a2) (v3 := wz a3) (v4 := wz (D 32 14)) ap_at h135)).trans ?_
  simp only [ap_set]
  rfl
theorem K_tm {a1 a2 a3 a4 a5 a6 x : Int} (h9 : ∀ i, D 901 i = 1 → D 900 i = 1) (hn : D 912 (D 1002 2) ≠ 1) (h1 : rg a1) (h2 : rg a2) (h3 : rg a3) (hh : D 950 0 ≤ 1000000000 ∧ D 951 0 ≤ 1000000000) (H : K_X11_write_93 n (upA A 12 (D 1002 2) (D 950 0).toNat) (tmD D (D 1002 2) a1 a2 a3 (D 32 14) 0 0) a1 a2 a3 a4 a5 a6 (D 1002 2) x A' D') : K_X11_write_79 n A D a1 a2 a3 a4 a5 a6 x A' D' := by
  intro d hd s hr
  obtain ⟨e, rfl⟩ : ∃ e, d = e + 1 := ⟨d - 1, by omega⟩
  exact oke (tm_new hr h9 hn h1 h2 h3 hh) (fun s' hr' => H (e + 1) hd s' hr')
theorem ak_new {a1 a2 a3 : Int} (hr : Rp n A D s) (h9 : ∀ i, D 901 i = 1 → D 900 i = 1) (hn : D 913 (D 1002 3) ≠ 1) (g1 : 0 ≤ a1 ∧ a1 < D 1002 0) (g2 : 0 ≤ a2 ∧ a2 < D 1002 1) (h3 : 0 ≤ a3 ∧ a3 ≤ 1) (hh : D 950 0 ≤ 1000000000 ∧ D 951 0 ≤ 1000000000) : ∃ s', mr (d + 3) P_X11_ask 30 [some (am_r (some 32)), some (am_i (wz a1)), some (am_i (wz a2)), some (am_i (wz a3))] [] s = mr (d + 3) P_X11_ask 68 [some (am_r (some 32)), some (am_i (wz a1)), some (am_i (wz a2)), some (am_i (wz a3))] [am_r (some s.1.length), am_r (some (A 0 3))] s' ∧ Rp n (upA A 13 (D 1002 3) s.1.length) (akD D (D 1002 3) a1 a2 (wr ((max 0 (wr (D 32 14 - D 2001 a1))).tdiv 365)) a3) s' := by
  have f0 : D 900 0 = 1 := (Rp_cl hr).2.2.2.2.2.2.2.2.2.2.2.1
  have f1 : D 900 1 = 1 := (Rp_cl hr).2.2.2.2.2.2.2.2.2.2.2.2.1
  have e1 : D 910 a1 = 1 := Rp_el0 hr g1
  have e2 : D 911 a2 = 1 := Rp_el1 hr g2
  have hb0 := (Rp_cl hr).1 0 f0
  have hb1 := (Rp_cl hr).1 1 f1
  have r1 : rg a1 := ⟨by omega, by omega⟩
  have r2 : rg a2 := ⟨by omega, by omega⟩
  have h950 := Rp_rg hr 950 0
  have h951 := Rp_rg hr 951 0
  unfold rg at h950 h951
  have h135 : 32 ≤ s.1.length := by obtain ⟨_, F, H⟩ := hr; have := Rp0_135 H; omega
  have hg := Rp_grow (cs := [.inl (1, [am_r none, am_r none, am_i 0, am_i 0])]) (k := 4) hr ⟨by simp only [List.length_singleton]; omega, by simp only [List.length_singleton]; omega⟩ ⟨by omega, by omega⟩
  have hx : am_nar 2 (wz a3) = wz a3 := wz_b01 h3
  refine ⟨_, ?_, Rp_ak (i := D 1002 3) (x0 := a1) (x1 := a2) (x2 := wr ((max 0 (wr (D 32 14 - D 2001 a1))).tdiv 365)) (x3 := a3) hr h9 hn ⟨e1, e2⟩ r1 r2 (rg_wr _) (rgb (by omega) (by omega)) hh⟩
  refine (m_aload_n (q := 31) rfl rfl rfl rfl).trans ?_
  refine (m_gfy (t := 0) (i := 3) (q := 34) rfl rfl rfl hr rfl rfl rfl).trans ?_
  refine (x_new (q := 37) (fs := [am_r none, am_r none, am_i 0, am_i 0]) rfl rfl rfl rfl).trans ?_
  refine (m_dup (q := 38) rfl rfl rfl rfl).trans ?_
  have f0' : (up (up D 950 0 (D 950 0 + (([.inl (1, [am_r none, am_r none, am_i 0, am_i 0])] : List am_Ce).length : Nat))) 951 0 (D 951 0 + (4 : Nat))) 900 0 = 1 := by
    rw [up_c (by decide), up_c (by decide)]; exact f0
  have f1' : (up (up D 950 0 (D 950 0 + (([.inl (1, [am_r none, am_r none, am_i 0, am_i 0])] : List am_Ce).length : Nat))) 951 0 (D 951 0 + (4 : Nat))) 900 1 = 1 := by
    rw [up_c (by decide), up_c (by decide)]; exact f1
  have e1' : (up (up D 950 0 (D 950 0 + (([.inl (1, [am_r none, am_r none, am_i 0, am_i 0])] : List am_Ce).length : Nat))) 951 0 (D 951 0 + (4 : Nat))) 910 a1 = 1 := by
    rw [up_c (by decide), up_c (by decide)]; exact e1
  have e2' : (up (up D 950 0 (D 950 0 + (([.inl (1, [am_r none, am_r none, am_i 0, am_i 0])] : List am_Ce).length : Nat))) 951 0 (D 951 0 + (4 : Nat))) 911 a2 = 1 := by
    rw [up_c (by decide), up_c (by decide)]; exact e2
  refine (m_aload_n (q := 39) rfl rfl rfl rfl).trans ?_
  refine (m_gfy (t := 0) (i := 0) (q := 42) rfl rfl rfl hg rfl rfl rfl).trans ?_
  refine (m_iload_n (q := 43) rfl rfl rfl rfl).trans ?_
  refine (x_cv (rk := 3) (r := some (A 0 0)) (as := [am_i (wz a1)]) (rest := [am_r (some s.1.length), am_r (some s.1.length), am_r (some (A 0 3))]) (q := 46) rfl rfl rfl rfl rfl rfl rfl rfl rfl rfl (is_ty hg rfl f0')).trans ?_
  rw [rw_get 0 a1 hg f0' (by rw [up_c (by decide), up_c (by decide)]; exact g1)]
  rw [show ebs 0 + a1 = a1 from Int.zero_add _]
  refine (m_cast (q := 49) rfl rfl rfl (isN_ty (t := 10) hg rfl e1')).trans ?_
  refine (m_aload_n (q := 50) rfl rfl rfl rfl).trans ?_
  refine (m_gfy (t := 0) (i := 1) (q := 53) rfl rfl rfl hg rfl rfl rfl).trans ?_
  refine (m_iload_n (q := 54) rfl rfl rfl rfl).trans ?_
  refine (x_cv (rk := 3) (r := some (A 0 1)) (as := [am_i (wz a2)]) (rest := [am_r (some (A 10 a1)), am_r (some s.1.length), am_r (some s.1.length), am_r (some (A 0 3))]) (q := 57) rfl rfl rfl rfl rfl rfl rfl rfl rfl rfl (is_ty hg rfl f1')).trans ?_
  rw [rw_get 1 a2 hg f1' (by rw [up_c (by decide), up_c (by decide)]; exact g2)]
  rw [show ebs 1 + a2 = a2 from Int.zero_add _]
  refine (m_cast (q := 60) rfl rfl rfl (isN_ty (t := 11) hg rfl e2')).trans ?_
  refine (m_aload_n (q := 61) rfl rfl rfl rfl).trans ?_
  refine (m_gfs (z := 14) (w := D 32 14) (q := 64) rfl rfl rfl hg rfl rfl rfl rfl rfl).trans ?_
  refine (m_iload_n (q := 65) rfl rfl rfl rfl).trans ?_
  refine (x_cp (rk := 0) (r := some s.1.length) (as := [am_r (some (A 10 a1)), am_r (some (A 11 a2)), am_i (wz (D 32 14)), am_i (wz a3)]) (rest := [am_r (some s.1.length), am_r (some (A 0 3))]) (q := 68) rfl rfl rfl rfl rfl rfl rfl rfl rfl rfl (is_of ap_at)).trans ?_
  have hsv := Rp_ob (t := 10) hg rfl e1'
  refine (congrArg (fun z => am_ans 0 z (fun st s => mr (d + 3) P_X11_ask 68 [some (am_r (some 32)), some (am_i (wz a1)), some (am_i (wz a2)), some (am_i (wz a3))] st s) [am_r (some s.1.length), am_r (some (A 0 3))]) (rw_i1 (d := d + 1) (s := (s.1 ++ [.inl (1, [am_r none, am_r none, am_i 0, am_i 0])], s.2 + 4)) (w := D 32 14) (x := a3) (b := D 2001 a1) (r2 := some (A 11 a2)) ap_at h135 hsv hx)).trans ?_
  simp only [ap_set]
  rfl
theorem K_ak {a1 a2 a3 x : Int} (h9 : ∀ i, D 901 i = 1 → D 900 i = 1) (hp : D 901 3 = 1 → 0 < D 1100 3) (hs : D 1002 3 < 1000) (hn : D 913 (D 1002 3) ≠ 1) (g1 : 0 ≤ a1 ∧ a1 < D 1002 0) (g2 : 0 ≤ a2 ∧ a2 < D 1002 1) (h3 : 0 ≤ a3 ∧ a3 ≤ 1) (hh : D 950 0 ≤ 100000000 ∧ D 951 0 ≤ 100000000) (H : K_X11_ask_72 n (addA (upA A 13 (D 1002 3) (D 950 0).toNat) (akD D (D 1002 3) a1 a2 (wr ((max 0 (wr (D 32 14 - D 2001 a1))).tdiv 365)) a3) 3) (addD (akD D (D 1002 3) a1 a2 (wr ((max 0 (wr (D 32 14 - D 2001 a1))).tdiv 365)) a3) 3) a1 a2 a3 x A' D') : K_X11_ask_30 n A D a1 a2 a3 x A' D' := by
  intro d hd s hr
  obtain ⟨e, rfl⟩ : ∃ e, d = e + 6 := ⟨d - 6, by omega⟩
  have f3 : D 900 3 = 1 := (Rp_cl hr).2.2.2.2.2.2.2.2.2.2.2.2.2.2.1
  refine oke (ak_new hr h9 hn g1 g2 h3 (by omega)) (fun s1 r1 => ?_)
  rw [Rp_len hr] at H
  generalize hD1 : akD D (D 1002 3) a1 a2 (wr ((max 0 (wr (D 32 14 - D 2001 a1))).tdiv 365)) a3 = D1 at r1 H
  have k0 : D1 1002 3 = D 1002 3 := by rw [← hD1]; exact akD_o (by decide)
  have k1 : D1 900 3 = 1 := by rw [← hD1]; exact (akD_o (by decide)).trans f3
  have k2 : D1 913 (D 1002 3) = 1 := by rw [← hD1, akD_913, if_pos rfl]
  have k3 : D1 901 3 = 1 → 0 < D1 1100 3 := by rw [← hD1, akD_o (by decide), akD_o (by decide)]; exact hp
  have k4 : D1 950 0 ≤ 1000000000 ∧ D1 951 0 ≤ 1000000000 := by rw [← hD1, akD_h.1, akD_h.2]; omega
  have ev := ev_addk (n := n) (A := upA A 13 (D 1002 3) s.1.length) (D := D1) (l := 3) (e := D 1002 3) (t := 13) k1 k2 rfl ⟨by rw [k0]; exact (Int.zero_add _).symm, by rw [k0]; exact hs, k3, k4⟩
  rw [upA_eq, upA_t (show (0 : Nat) ≠ 13 by decide)] at ev
  have is1 : am_is s1.1 (some (A 0 3)) 0 = true := by have := is_ty (t := 0) r1 rfl k1; rwa [upA_t (show (0 : Nat) ≠ 13 by decide)] at this
  refine oke (e_ci (x_cv (q := 71) rfl rfl rfl rfl rfl rfl rfl rfl rfl rfl is1) ev (by omega) r1) (fun s2 r2 => ?_)
  refine ok (m_popi (q := 72) rfl rfl rfl) ?_
  exact H (e + 6) hd s2 r2
end Mk
