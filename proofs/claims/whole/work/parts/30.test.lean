/-! test -/
abbrev P_X12_isIn : Nat → Option am_E := am_fy tb_X12_isIn
def v_X12_isIn (D : aD) (a0 : Int) (a1 : Int) (a2 : Int) : Int := if a0 < a1 then 0 else if a2 < a0 then 0 else 1
theorem b_X12_isIn (D : aD) (a0 : Int) (a1 : Int) (a2 : Int) : 0 ≤ v_X12_isIn D a0 a1 a2 ∧ v_X12_isIn D a0 a1 a2 ≤ 1 := b01 (fun c1 => ⟨by decide, by decide⟩) (fun c1 => b01 (fun c2 => ⟨by decide, by decide⟩) (fun c2 => ⟨by decide, by decide⟩))
set_option maxRecDepth 100000 in
theorem ev_X12_isIn {n : Nat} {A : aA} {D : aD} (a0 : Int) (a1 : Int) (a2 : Int) (h0 : rg a0) (h1 : rg a1) (h2 : rg a2) : Ev (n) 1 121 [am_i (wz a0), am_i (wz a1), am_i (wz a2)] A D (ri (v_X12_isIn D a0 a1 a2)) A D := by
  unfold v_X12_isIn
  refine Ev_of (c := 0) (P := P_X12_isIn) (lo := [some (am_i (wz a0)), some (am_i (wz a1)), some (am_i (wz a2))]) rfl rfl rfl (fun d hd s hr => ?_)
  refine ok (m_iload_n (q := 1) rfl rfl rfl rfl) ?_
  refine ok (m_iload_n (q := 2) rfl rfl rfl rfl) ?_
  refine okp (m_cmplt (qt := 14) (qf := 5) rfl rfl h0 h1 rfl rfl) (fun c1 => ?_) (fun c1 => ?_)
  · refine ok (m_iconst (q := 15) rfl rfl rfl) ?_
    exact ok (m_retb rfl rfl ⟨by decide, by decide⟩) (ok_i hr ⟨by decide, by decide⟩)
  · refine ok (m_iload_n (q := 6) rfl rfl rfl rfl) ?_
    refine ok (m_iload_n (q := 7) rfl rfl rfl rfl) ?_
    refine okp (m_cmpgt (qt := 14) (qf := 10) rfl rfl h0 h2 rfl rfl) (fun c2 => ?_) (fun c2 => ?_)
    · refine ok (m_iconst (q := 15) rfl rfl rfl) ?_
      exact ok (m_retb rfl rfl ⟨by decide, by decide⟩) (ok_i hr ⟨by decide, by decide⟩)
    · refine ok (m_iconst (q := 11) rfl rfl rfl) ?_
      refine ok (m_goto (q := 15) rfl rfl rfl) ?_
      exact ok (m_retb rfl rfl ⟨by decide, by decide⟩) (ok_i hr ⟨by decide, by decide⟩)
abbrev P_X12_isDay : Nat → Option am_E := am_fy tb_X12_isDay
def v_X12_isDay (D : aD) (a0 : Int) : Int := v_X12_isIn D a0 0 999
theorem b_X12_isDay (D : aD) (a0 : Int) : 0 ≤ v_X12_isDay D a0 ∧ v_X12_isDay D a0 ≤ 1 := (b_X12_isIn D a0 0 999)
set_option maxRecDepth 100000 in
theorem ev_X12_isDay {n : Nat} {A : aA} {D : aD} (a0 : Int) (h0 : rg a0) : Ev (n) 2 123 [am_i (wz a0)] A D (ri (v_X12_isDay D a0)) A D := by
  unfold v_X12_isDay
  refine Ev_of (c := 1) (P := P_X12_isDay) (lo := [some (am_i (wz a0))]) rfl rfl rfl (fun d hd s hr => ?_)
  refine ok (m_iload_n (q := 1) rfl rfl rfl rfl) ?_
  refine ok (m_iconst (q := 2) rfl rfl rfl) ?_
  refine ok (m_sipush (q := 5) rfl rfl rfl) ?_
  refine oke (e_ci (x_cs (q := 8) rfl rfl rfl rfl rfl rfl rfl rfl rfl) (ev_X12_isIn (D := D) a0 0 999 h0 ⟨by decide, by decide⟩ ⟨by decide, by decide⟩) (Nat.le_trans (by decide) hd) hr) (fun s1 r2 => ?_)
  exact ok (m_retb rfl rfl (b_X12_isIn D a0 0 999)) (ok_i r2 (Ev_rg (ev_X12_isIn (D := D) a0 0 999 h0 ⟨by decide, by decide⟩ ⟨by decide, by decide⟩) hr))
abbrev P_X12_isServant : Nat → Option am_E := am_fy tb_X12_isServant
def v_X12_isServant (D : aD) (a1 : Int) : Int := v_X12_isIn D a1 0 (wr ((D 70 1) - 1))
theorem b_X12_isServant (D : aD) (a1 : Int) : 0 ≤ v_X12_isServant D a1 ∧ v_X12_isServant D a1 ≤ 1 := (b_X12_isIn D a1 0 (wr ((D 70 1) - 1)))
set_option maxRecDepth 100000 in
theorem ev_X12_isServant {n : Nat} {A : aA} {D : aD} (a1 : Int) (h1 : rg a1) : Ev (n) 2 124 [am_r (some 70), am_i (wz a1)] A D (ri (v_X12_isServant D a1)) A D := by
  unfold v_X12_isServant
  refine Ev_of (c := 1) (P := P_X12_isServant) (lo := [some (am_r (some 70)), some (am_i (wz a1))]) rfl rfl rfl (fun d hd s hr => ?_)
  refine ok (m_iload_n (q := 1) rfl rfl rfl rfl) ?_
  refine ok (m_iconst (q := 2) rfl rfl rfl) ?_
  refine ok (m_aload_n (q := 3) rfl rfl rfl rfl) ?_
  refine ok (m_gfs (z := 1) (q := 6) rfl rfl rfl hr rfl rfl rfl rfl rfl) ?_
  refine ok (m_iconst (q := 7) rfl rfl rfl) ?_
  refine ok (m_isub (q := 8) rfl rfl rfl) ?_
  refine oke (e_ci (x_cs (q := 11) rfl rfl rfl rfl rfl rfl rfl rfl rfl) (ev_X12_isIn (D := D) a1 0 (wr ((D 70 1) - 1)) h1 ⟨by decide, by decide⟩ (rg_wr _)) (Nat.le_trans (by decide) hd) hr) (fun s1 r2 => ?_)
  exact ok (m_retb rfl rfl (b_X12_isIn D a1 0 (wr ((D 70 1) - 1)))) (ok_i r2 (Ev_rg (ev_X12_isIn (D := D) a1 0 (wr ((D 70 1) - 1)) h1 ⟨by decide, by decide⟩ (rg_wr _)) hr))
abbrev P_X12_isKnown : Nat → Option am_E := am_fy tb_X12_isKnown
def v_X12_isKnown (D : aD) (a1 : Int) (a2 : Int) : Int := if a2 < D 86 a1 then 0 else if D 87 a1 ≤ a2 then 0 else 1
def p_X12_isKnown (D : aD) (a1 : Int) (a2 : Int) : Prop := (0 ≤ a1 ∧ a1 < 60)
theorem b_X12_isKnown (D : aD) (a1 : Int) (a2 : Int) : 0 ≤ v_X12_isKnown D a1 a2 ∧ v_X12_isKnown D a1 a2 ≤ 1 := b01 (fun c2 => ⟨by decide, by decide⟩) (fun c2 => b01 (fun c3 => ⟨by decide, by decide⟩) (fun c3 => ⟨by decide, by decide⟩))
set_option maxRecDepth 100000 in
theorem ev_X12_isKnown {n : Nat} {A : aA} {D : aD} (a1 : Int) (a2 : Int) (h1 : rg a1) (h2 : rg a2) (hp : p_X12_isKnown D a1 a2) : Ev (n) 1 139 [am_r (some 70), am_i (wz a1), am_i (wz a2)] A D (ri (v_X12_isKnown D a1 a2)) A D := by
  unfold p_X12_isKnown at hp
  unfold v_X12_isKnown
  refine Ev_of (c := 0) (P := P_X12_isKnown) (lo := [some (am_r (some 70)), some (am_i (wz a1)), some (am_i (wz a2))]) rfl rfl rfl (fun d hd s hr => ?_)
  refine ok (m_aload_n (q := 1) rfl rfl rfl rfl) ?_
  refine ok (m_gfc (q := 4) rfl rfl rfl hr rfl rfl rfl) ?_
  refine ok (m_iload_n (q := 5) rfl rfl rfl rfl) ?_
  have g1 := hp
  refine ok (m_ials (q := 6) rfl rfl rfl hr rfl rfl g1 rfl) ?_
  refine ok (m_iload_n (q := 7) rfl rfl rfl rfl) ?_
  refine okp (m_cmpgt (qt := 24) (qf := 10) rfl rfl (Rp_rg hr 86 a1) h2 rfl rfl) (fun c2 => ?_) (fun c2 => ?_)
  · refine ok (m_iconst (q := 25) rfl rfl rfl) ?_
    exact ok (m_retb rfl rfl ⟨by decide, by decide⟩) (ok_i hr ⟨by decide, by decide⟩)
  · refine ok (m_aload_n (q := 11) rfl rfl rfl rfl) ?_
    refine ok (m_gfc (q := 14) rfl rfl rfl hr rfl rfl rfl) ?_
    refine ok (m_iload_n (q := 15) rfl rfl rfl rfl) ?_
    refine ok (m_ials (q := 16) rfl rfl rfl hr rfl rfl g1 rfl) ?_
    refine ok (m_iload_n (q := 17) rfl rfl rfl rfl) ?_
    refine okp (m_cmple (qt := 24) (qf := 20) rfl rfl (Rp_rg hr 87 a1) h2 rfl rfl) (fun c3 => ?_) (fun c3 => ?_)
    · refine ok (m_iconst (q := 25) rfl rfl rfl) ?_
      exact ok (m_retb rfl rfl ⟨by decide, by decide⟩) (ok_i hr ⟨by decide, by decide⟩)
    · refine ok (m_iconst (q := 21) rfl rfl rfl) ?_
      refine ok (m_goto (q := 25) rfl rfl rfl) ?_
      exact ok (m_retb rfl rfl ⟨by decide, by decide⟩) (ok_i hr ⟨by decide, by decide⟩)
abbrev P_X12_endOf : Nat → Option am_E := am_fy tb_X12_endOf
def v_X12_endOf (D : aD) (a1 : Int) (a2 : Int) : Int := if a2 < D 91 a1 then 5000 else D 88 a1
def p_X12_endOf (D : aD) (a1 : Int) (a2 : Int) : Prop := (0 ≤ a1 ∧ a1 < 60)
set_option maxRecDepth 100000 in
theorem ev_X12_endOf {n : Nat} {A : aA} {D : aD} (a1 : Int) (a2 : Int) (h1 : rg a1) (h2 : rg a2) (hp : p_X12_endOf D a1 a2) : Ev (n) 1 140 [am_r (some 70), am_i (wz a1), am_i (wz a2)] A D (ri (v_X12_endOf D a1 a2)) A D := by
  unfold p_X12_endOf at hp
  unfold v_X12_endOf
  refine Ev_of (c := 0) (P := P_X12_endOf) (lo := [some (am_r (some 70)), some (am_i (wz a1)), some (am_i (wz a2))]) rfl rfl rfl (fun d hd s hr => ?_)
  refine ok (m_aload_n (q := 1) rfl rfl rfl rfl) ?_
  refine ok (m_gfc (q := 4) rfl rfl rfl hr rfl rfl rfl) ?_
  refine ok (m_iload_n (q := 5) rfl rfl rfl rfl) ?_
  have g1 := hp
  refine ok (m_ials (q := 6) rfl rfl rfl hr rfl rfl g1 rfl) ?_
  refine ok (m_iload_n (q := 7) rfl rfl rfl rfl) ?_
  refine okp (m_cmpgt (qt := 19) (qf := 10) rfl rfl (Rp_rg hr 91 a1) h2 rfl rfl) (fun c2 => ?_) (fun c2 => ?_)
  · refine ok (m_sipush (q := 22) rfl rfl rfl) ?_
    exact ok (m_reti rfl rfl) (ok_i hr ⟨by decide, by decide⟩)
  · refine ok (m_aload_n (q := 11) rfl rfl rfl rfl) ?_
    refine ok (m_gfc (q := 14) rfl rfl rfl hr rfl rfl rfl) ?_
    refine ok (m_iload_n (q := 15) rfl rfl rfl rfl) ?_
    refine ok (m_ials (q := 16) rfl rfl rfl hr rfl rfl g1 rfl) ?_
    refine ok (m_goto (q := 22) rfl rfl rfl) ?_
    exact ok (m_reti rfl rfl) (ok_i hr (Rp_rg hr 88 a1))
abbrev P_X12_ageOn : Nat → Option am_E := am_fy tb_X12_ageOn
def v_X12_ageOn (D : aD) (a1 : Int) (a2 : Int) : Int := max 0 (wr ((wr (a2 - (D 71 a1))).tdiv 365))
def p_X12_ageOn (D : aD) (a1 : Int) (a2 : Int) : Prop := (0 ≤ a1 ∧ a1 < 24)
set_option maxRecDepth 100000 in
theorem ev_X12_ageOn {n : Nat} {A : aA} {D : aD} (a1 : Int) (a2 : Int) (h1 : rg a1) (h2 : rg a2) (hp : p_X12_ageOn D a1 a2) : Ev (n) 1 129 [am_r (some 70), am_i (wz a1), am_i (wz a2)] A D (ri (v_X12_ageOn D a1 a2)) A D := by
  unfold p_X12_ageOn at hp
  unfold v_X12_ageOn
  refine Ev_of (c := 0) (P := P_X12_ageOn) (lo := [some (am_r (some 70)), some (am_i (wz a1)), some (am_i (wz a2))]) rfl rfl rfl (fun d hd s hr => ?_)
  refine ok (m_iconst (q := 1) rfl rfl rfl) ?_
  refine ok (m_iload_n (q := 2) rfl rfl rfl rfl) ?_
  refine ok (m_aload_n (q := 3) rfl rfl rfl rfl) ?_
  refine ok (m_gfc (q := 6) rfl rfl rfl hr rfl rfl rfl) ?_
  refine ok (m_iload_n (q := 7) rfl rfl rfl rfl) ?_
  have g1 := hp
  refine ok (m_ials (q := 8) rfl rfl rfl hr rfl rfl g1 rfl) ?_
  refine ok (m_isub (q := 9) rfl rfl rfl) ?_
  refine ok (m_sipush (q := 12) rfl rfl rfl) ?_
  refine ok (m_idiv (q := 13) rfl rfl (rg_wr _) ⟨by decide, by decide⟩ (by decide) rfl) ?_
  refine ok (m_max (q := 16) rfl rfl rfl ⟨by decide, by decide⟩ (rg_wr _) rfl) ?_
  exact ok (m_reti rfl rfl) (ok_i hr (rg_max ⟨by decide, by decide⟩ (rg_wr _)))
