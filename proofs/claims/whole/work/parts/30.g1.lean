/-! Who is where: holders, twice. -/
section G1
variable {n : Nat} {A : aA} {D : aD}
theorem inb_eq (D : aD) (a b c : Int) : v_X11_between D a b c = v_X12_isIn D a b c := rfl
theorem isI {D : aD} {a b c : Int} : ¬ v_X12_isIn D a b c = 0 ↔ b ≤ a ∧ a ≤ c := by
  unfold v_X12_isIn
  constructor
  · intro h; split at h
    · exact absurd rfl h
    · split at h
      · exact absurd rfl h
      · omega
  · intro h; rw [if_neg (by omega), if_neg (by omega)]; decide
theorem isI0 {D : aD} {a b c : Int} : v_X12_isIn D a b c = 0 ↔ ¬ (b ≤ a ∧ a ≤ c) := by rw [← isI (D := D)]; exact Decidable.not_not.symm
theorem isDy {D : aD} {a : Int} : ¬ v_X12_isDay D a = 0 ↔ 0 ≤ a ∧ a ≤ 999 := isI
theorem isSv {D : aD} (h : Iv D) {a : Int} : ¬ v_X12_isServant D a = 0 ↔ 0 ≤ a ∧ a < D 70 1 := by
  have hc := h.ct; unfold I_ct at hc
  unfold v_X12_isServant; rw [isI, wr_id (by omega) (by omega)]; omega
theorem isHs {D : aD} (h : Iv D) {a : Int} : ¬ v_X12_isHouse D a = 0 ↔ 0 ≤ a ∧ a < D 70 2 := by
  have hc := h.ct; unfold I_ct at hc
  unfold v_X12_isHouse; rw [isI, wr_id (by omega) (by omega)]; omega
theorem isPl {D : aD} (h : Iv D) {a : Int} : ¬ v_X12_isPlace D a = 0 ↔ 0 ≤ a ∧ a < D 70 3 := by
  have hc := h.ct; unfold I_ct at hc
  unfold v_X12_isPlace; rw [isI, wr_id (by omega) (by omega)]; omega
theorem isPg {D : aD} (h : Iv D) {a : Int} : ¬ v_X12_isPlacing D a = 0 ↔ 0 ≤ a ∧ a < D 70 4 := by
  have hc := h.ct; unfold I_ct at hc
  unfold v_X12_isPlacing; rw [isI, wr_id (by omega) (by omega)]; omega
theorem xSv {D : aD} (h : Iv D) (a : Int) : v_X11_isServant D a = v_X12_isServant D a := by
  have hc := h.ct; unfold I_ct at hc
  unfold v_X11_isServant v_X12_isServant; rw [hc.2.1.1]; rfl
theorem xHs {D : aD} (h : Iv D) (a : Int) : v_X11_isHouse D a = v_X12_isHouse D a := by
  have hc := h.ct; unfold I_ct at hc
  unfold v_X11_isHouse v_X12_isHouse; rw [hc.2.2.1.1]; rfl
theorem xPl {D : aD} (h : Iv D) (a : Int) : v_X11_isPlace D a = v_X12_isPlace D a := by
  have hc := h.ct; unfold I_ct at hc
  unfold v_X11_isPlace v_X12_isPlace; rw [hc.2.2.2.1.1]; rfl
theorem xPg {D : aD} (h : Iv D) (a : Int) : v_X11_isPlacing D a = v_X12_isPlacing D a := by
  have hc := h.ct; unfold I_ct at hc
  unfold v_X11_isPlacing v_X12_isPlacing; rw [hc.2.2.2.2.1]; rfl
theorem xDy {D : aD} (a : Int) : v_X11_isDay D a = v_X12_isDay D a := rfl
abbrev P_X12_in : Nat → Option am_E := am_fy tb_X12_in
def v_X12_in (D : aD) (a1 : Int) (a2 : Int) (a3 : Int) : Int := if v_X12_isServant D a1 = 0 then (-1) else if v_X12_isDay D a2 = 0 then (-1) else if v_X12_isDay D a3 = 0 then (-1) else w_inOf D a1 a2 a3
def p_X12_in (D : aD) (a1 : Int) (a2 : Int) (a3 : Int) : Prop := (if v_X12_isServant D a1 = 0 then True else (if v_X12_isDay D a2 = 0 then True else (if v_X12_isDay D a3 = 0 then True else (p_inOf D a1 a2 a3))))
set_option maxRecDepth 100000 in
theorem ev_X12_in {n : Nat} {A : aA} {D : aD} (a1 : Int) (a2 : Int) (a3 : Int) (h1 : rg a1) (h2 : rg a2) (h3 : rg a3) (hp : p_X12_in D a1 a2 a3) : Ev (n) 3 142 [am_r (some 70), am_i (wz a1), am_i (wz a2), am_i (wz a3)] A D (ri (v_X12_in D a1 a2 a3)) A D := by
  unfold p_X12_in at hp
  unfold v_X12_in
  refine Ev_of (c := 2) (P := P_X12_in) (lo := [some (am_r (some 70)), some (am_i (wz a1)), some (am_i (wz a2)), some (am_i (wz a3))]) rfl rfl rfl (fun d hd s hr => ?_)
  refine ok (m_aload_n (q := 1) rfl rfl rfl rfl) ?_
  refine ok (m_iload_n (q := 2) rfl rfl rfl rfl) ?_
  refine oke (e_ci (x_cv (q := 5) rfl rfl rfl rfl rfl rfl rfl rfl rfl rfl (is_st hr rfl rfl)) (ev_X12_isServant (D := D) a1 h1) (Nat.le_trans (by decide) hd) hr) (fun s1 r2 => ?_)
  refine okp (m_ifeq (qt := 32) (qf := 8) rfl rfl (Ev_rg (ev_X12_isServant (D := D) a1 h1) hr) rfl rfl) (fun c3 => ?_) (fun c3 => ?_)
  · refine ok (m_iconst (q := 33) rfl rfl rfl) ?_
    exact ok (m_reti rfl rfl) (ok_i r2 ⟨by decide, by decide⟩)
  · replace hp := iq c3 hp
    refine ok (m_iload_n (q := 9) rfl rfl rfl rfl) ?_
    refine oke (e_ci (x_cs (q := 12) rfl rfl rfl rfl rfl rfl rfl rfl rfl) (ev_X12_isDay (D := D) a2 h2) (Nat.le_trans (by decide) hd) r2) (fun s4 r5 => ?_)
    refine okp (m_ifeq (qt := 32) (qf := 15) rfl rfl (Ev_rg (ev_X12_isDay (D := D) a2 h2) r2) rfl rfl) (fun c6 => ?_) (fun c6 => ?_)
    · refine ok (m_iconst (q := 33) rfl rfl rfl) ?_
      exact ok (m_reti rfl rfl) (ok_i r5 ⟨by decide, by decide⟩)
    · replace hp := iq c6 hp
      refine ok (m_iload_n (q := 16) rfl rfl rfl rfl) ?_
      refine oke (e_ci (x_cs (q := 19) rfl rfl rfl rfl rfl rfl rfl rfl rfl) (ev_X12_isDay (D := D) a3 h3) (Nat.le_trans (by decide) hd) r5) (fun s7 r8 => ?_)
      refine okp (m_ifeq (qt := 32) (qf := 22) rfl rfl (Ev_rg (ev_X12_isDay (D := D) a3 h3) r5) rfl rfl) (fun c9 => ?_) (fun c9 => ?_)
      · refine ok (m_iconst (q := 33) rfl rfl rfl) ?_
        exact ok (m_reti rfl rfl) (ok_i r8 ⟨by decide, by decide⟩)
      · replace hp := iq c9 hp
        refine ok (m_aload_n (q := 23) rfl rfl rfl rfl) ?_
        refine ok (m_iload_n (q := 24) rfl rfl rfl rfl) ?_
        refine ok (m_iload_n (q := 25) rfl rfl rfl rfl) ?_
        refine ok (m_iload_n (q := 26) rfl rfl rfl rfl) ?_
        have g12 := hp
        refine oke (e_ci (x_cv (q := 29) rfl rfl rfl rfl rfl rfl rfl rfl rfl rfl (is_st r8 rfl rfl)) (ev_X12_inOf (D := D) a1 a2 a3 h1 h2 h3 g12) (Nat.le_trans (by decide) hd) r8) (fun s10 r11 => ?_)
        refine ok (m_goto (q := 33) rfl rfl rfl) ?_
        exact ok (m_reti rfl rfl) (ok_i r11 (Ev_rg (ev_X12_inOf (D := D) a1 a2 a3 h1 h2 h3 g12) r8))
abbrev P_X11_in : Nat → Option am_E := am_fy tb_X11_in
def v_X11_in (D : aD) (a1 : Int) (a2 : Int) (a3 : Int) : Int := if v_X11_isServant D a1 = 0 then (-1) else if v_X11_isDay D a2 = 0 then (-1) else if v_X11_isDay D a3 = 0 then (-1) else if w_inOf D a1 a2 a3 < 0 then (-1) else D 2500 (w_inOf D a1 a2 a3)
def p_X11_in (D : aD) (a1 : Int) (a2 : Int) (a3 : Int) : Prop := (if v_X11_isServant D a1 = 0 then True else (if v_X11_isDay D a2 = 0 then True else (if v_X11_isDay D a3 = 0 then True else (p_inOf D a1 a2 a3))))
set_option maxRecDepth 100000 in
theorem ev_X11_in {n : Nat} {A : aA} {D : aD} (a1 : Int) (a2 : Int) (a3 : Int) (h1 : rg a1) (h2 : rg a2) (h3 : rg a3) (hp : p_X11_in D a1 a2 a3) : Ev (n) 6 79 [am_r (some 32), am_i (wz a1), am_i (wz a2), am_i (wz a3)] A D (ri (v_X11_in D a1 a2 a3)) A D := by
  unfold p_X11_in at hp
  unfold v_X11_in
  refine Ev_of (c := 5) (P := P_X11_in) (lo := [some (am_r (some 32)), some (am_i (wz a1)), some (am_i (wz a2)), some (am_i (wz a3)), none]) rfl rfl rfl (fun d hd s hr => ?_)
  refine ok (m_aload_n (q := 1) rfl rfl rfl rfl) ?_
  refine ok (m_iload_n (q := 2) rfl rfl rfl rfl) ?_
  refine oke (e_ci (x_cv (q := 5) rfl rfl rfl rfl rfl rfl rfl rfl rfl rfl (is_st hr rfl rfl)) (ev_X11_isServant (D := D) a1 h1) (Nat.le_trans (by decide) hd) hr) (fun s1 r2 => ?_)
  refine okp (m_ifeq (qt := 22) (qf := 8) rfl rfl (Ev_rg (ev_X11_isServant (D := D) a1 h1) hr) rfl rfl) (fun c3 => ?_) (fun c3 => ?_)
  · refine ok (m_iconst (q := 23) rfl rfl rfl) ?_
    exact ok (m_reti rfl rfl) (ok_i r2 ⟨by decide, by decide⟩)
  · replace hp := iq c3 hp
    refine ok (m_iload_n (q := 9) rfl rfl rfl rfl) ?_
    refine oke (e_ci (x_cs (q := 12) rfl rfl rfl rfl rfl rfl rfl rfl rfl) (ev_X11_isDay (D := D) a2 h2) (Nat.le_trans (by decide) hd) r2) (fun s4 r5 => ?_)
    refine okp (m_ifeq (qt := 22) (qf := 15) rfl rfl (Ev_rg (ev_X11_isDay (D := D) a2 h2) r2) rfl rfl) (fun c6 => ?_) (fun c6 => ?_)
    · refine ok (m_iconst (q := 23) rfl rfl rfl) ?_
      exact ok (m_reti rfl rfl) (ok_i r5 ⟨by decide, by decide⟩)
    · replace hp := iq c6 hp
      refine ok (m_iload_n (q := 16) rfl rfl rfl rfl) ?_
      refine oke (e_ci (x_cs (q := 19) rfl rfl rfl rfl rfl rfl rfl rfl rfl) (ev_X11_isDay (D := D) a3 h3) (Nat.le_trans (by decide) hd) r5) (fun s7 r8 => ?_)
      refine okp (m_ifne (qt := 24) (qf := 22) rfl rfl (Ev_rg (ev_X11_isDay (D := D) a3 h3) r5) rfl rfl) (fun c9 => ?_) (fun c9 => ?_)
      · refine ok (m_iconst (q := 23) rfl rfl rfl) ?_
        exact ok (m_reti rfl rfl) (ok_i r8 ⟨by decide, by decide⟩)
      · replace hp := iq c9 hp
        refine ok (m_aload_n (q := 25) rfl rfl rfl rfl) ?_
        refine ok (m_gfc (q := 28) rfl rfl rfl r8 rfl rfl rfl) ?_
        refine ok (m_iload_n (q := 29) rfl rfl rfl rfl) ?_
        refine ok (m_iload_n (q := 30) rfl rfl rfl rfl) ?_
        refine ok (m_iload_n (q := 31) rfl rfl rfl rfl) ?_
        have g12 := hp
        refine oke (e_cr (x_cv (q := 34) rfl rfl rfl rfl rfl rfl rfl rfl rfl rfl (is_st r8 rfl rfl)) (ev_X3_whereIn (D := D) a1 a2 a3 h1 h2 h3 g12) (Nat.le_trans (by decide) hd) r8) (fun s10 r11 => ?_)
        refine ok (m_astore (q := 36) (lo' := [some (am_r (some 32)), some (am_i (wz a1)), some (am_i (wz a2)), some (am_i (wz a3)), some (am_r (nr A 15 (w_inOf D a1 a2 a3)))]) rfl rfl rfl rfl rfl) ?_
        refine ok (m_aload (q := 38) rfl rfl rfl rfl) ?_
        refine okp ((m_ifnonnull (qt := 45) (qf := 41) rfl rfl rfl rfl).trans (ifn_n r11 rfl (fg_whereIn (D := D) a1 a2 a3 h1 h2 h3 g12 r8))) (fun c13 => ?_) (fun c13 => ?_)
        · refine ok (m_iconst (q := 42) rfl rfl rfl) ?_
          refine ok (m_goto (q := 50) rfl rfl rfl) ?_
          exact ok (m_reti rfl rfl) (ok_i r11 ⟨by decide, by decide⟩)
        · refine ok (o' := mr d P_X11_in 45 [some (am_r (some 32)), some (am_i (wz a1)), some (am_i (wz a2)), some (am_i (wz a3)), some (am_r (some (A 15 (w_inOf D a1 a2 a3))))] [] s10) (by rw [nr_s (Int.not_lt.mp c13)]; try rfl) ?_
          refine ok (m_aload (q := 47) rfl rfl rfl rfl) ?_
          refine ok (m_gft (t := 15) (q := 50) rfl rfl rfl r11 rfl ((fg_whereIn (D := D) a1 a2 a3 h1 h2 h3 g12 r8) (Int.not_lt.mp c13)) rfl rfl rfl) ?_
          exact ok (m_reti rfl rfl) (ok_i r11 (show rg (D 2500 (w_inOf D a1 a2 a3)) from Rp_rg r11 2500 (w_inOf D a1 a2 a3)))
abbrev P_X12_holderOf : Nat → Option am_E := am_fy tb_X12_holderOf
def K_X12_holderOf_3 (n : Nat) (A : aA) (D : aD) (a1 : Int) (a2 : Int) (a3 : Int) (a4 : Int) (x : Int) (D' : aD) : Prop := Lp n 2 P_X12_holderOf 3 [some (am_r (some 70)), some (am_i (wz a1)), some (am_i (wz a2)), some (am_i (wz a3)), some (am_i (wz a4)), none] [] A D (ri x) A D'
set_option maxRecDepth 100000 in
theorem rl_X12_holderOf {n : Nat} {A : aA} {D D' : aD} (a1 : Int) (a2 : Int) (a3 : Int) (h1 : rg a1) (h2 : rg a2) (h3 : rg a3) {x : Int} (hp : K_X12_holderOf_3 (n) A D a1 a2 a3 0 x D') : Ev (n) (3) 143 [am_r (some 70), am_i (wz a1), am_i (wz a2), am_i (wz a3)] A D (ri x) A D' := by
  refine Ev_of (c := 2) (P := P_X12_holderOf) (lo := [some (am_r (some 70)), some (am_i (wz a1)), some (am_i (wz a2)), some (am_i (wz a3)), none, none]) rfl rfl rfl (fun d hd s hr => ?_)
  refine ok (m_iconst (q := 1) rfl rfl rfl) ?_
  refine ok (m_istore (q := 3) (lo' := [some (am_r (some 70)), some (am_i (wz a1)), some (am_i (wz a2)), some (am_i (wz a3)), some (am_i (wz 0)), none]) rfl rfl rfl rfl rfl) ?_
  exact hp d hd _ hr
set_option maxRecDepth 100000 in
theorem rl_X12_holderOf_3 {n : Nat} {A : aA} {D D' : aD} (a1 : Int) (a2 : Int) (a3 : Int) (a4 : Int) (h1 : rg a1) (h2 : rg a2) (h3 : rg a3) (h4 : rg a4) {x : Int} (hp : (if D 70 1 ≤ a4 then (x = (-1) ∧ D' = D) else (p_inOf D a4 a2 a3) ∧ (if w_inOf D a4 a2 a3 = (-1) then K_X12_holderOf_3 (n) A D a1 a2 a3 (wr (a4 + 1)) x D' else (0 ≤ w_inOf D a4 a2 a3 ∧ w_inOf D a4 a2 a3 < 60) ∧ (if D 84 (w_inOf D a4 a2 a3) = a1 then (x = a4 ∧ D' = D) else K_X12_holderOf_3 (n) A D a1 a2 a3 (wr (a4 + 1)) x D')))) : K_X12_holderOf_3 (n) A D a1 a2 a3 a4 x D' := by
  unfold K_X12_holderOf_3
  refine fun d hd s hr => ?_
  refine ok (m_iload (q := 5) rfl rfl rfl rfl) ?_
  refine ok (m_aload_n (q := 6) rfl rfl rfl rfl) ?_
  refine ok (m_gfs (z := 1) (q := 9) rfl rfl rfl hr rfl rfl rfl rfl rfl) ?_
  refine okc (m_cmpge (qt := 48) (qf := 12) rfl rfl h4 (Rp_rg hr 70 1) rfl rfl) (fun c1 => ?_) (fun c1 => ?_)
  · replace hp := ip c1 hp
    refine ok (m_iconst (q := 49) rfl rfl rfl) ?_
    exact ok (m_reti rfl rfl) (ok_iq hr ⟨by decide, by decide⟩ hp)
  · replace hp := iq c1 hp
    refine ok (m_aload_n (q := 13) rfl rfl rfl rfl) ?_
    refine ok (m_iload (q := 15) rfl rfl rfl rfl) ?_
    refine ok (m_iload_n (q := 16) rfl rfl rfl rfl) ?_
    refine ok (m_iload_n (q := 17) rfl rfl rfl rfl) ?_
    obtain ⟨g4, hp⟩ := hp
    refine oke (e_ci (x_cv (q := 20) rfl rfl rfl rfl rfl rfl rfl rfl rfl rfl (is_st hr rfl rfl)) (ev_X12_inOf (D := D) a4 a2 a3 h4 h2 h3 g4) (Nat.le_trans (by decide) hd) hr) (fun s2 r3 => ?_)
    refine ok (m_istore (q := 22) (lo' := [some (am_r (some 70)), some (am_i (wz a1)), some (am_i (wz a2)), some (am_i (wz a3)), some (am_i (wz a4)), some (am_i (wz (w_inOf D a4 a2 a3)))]) rfl rfl rfl rfl rfl) ?_
    refine ok (m_iload (q := 24) rfl rfl rfl rfl) ?_
    refine ok (m_iconst (q := 25) rfl rfl rfl) ?_
    refine okc (m_cmpeq (qt := 42) (qf := 28) rfl rfl (Ev_rg (ev_X12_inOf (D := D) a4 a2 a3 h4 h2 h3 g4) hr) ⟨by decide, by decide⟩ rfl rfl) (fun c5 => ?_) (fun c5 => ?_)
    · replace hp := ip c5 hp
      refine ok (m_iinc (q := 45) (lo' := [some (am_r (some 70)), some (am_i (wz a1)), some (am_i (wz a2)), some (am_i (wz a3)), some (am_i (wz (wr (a4 + 1)))), some (am_i (wz (w_inOf D a4 a2 a3)))]) rfl rfl rfl rfl rfl rfl rfl) ?_
      refine ok (m_goto (q := 3) rfl rfl rfl) ?_
      refine ok (mk rfl (lo' := [some (am_r (some 70)), some (am_i (wz a1)), some (am_i (wz a2)), some (am_i (wz a3)), some (am_i (wz (wr (a4 + 1)))), none]) rfl) ?_
      exact hp d hd _ r3
    · replace hp := iq c5 hp
      refine ok (m_aload_n (q := 29) rfl rfl rfl rfl) ?_
      refine ok (m_gfc (q := 32) rfl rfl rfl r3 rfl rfl rfl) ?_
      refine ok (m_iload (q := 34) rfl rfl rfl rfl) ?_
      obtain ⟨g6, hp⟩ := hp
      refine ok (m_ials (q := 35) rfl rfl rfl r3 rfl rfl g6 rfl) ?_
      refine ok (m_iload_n (q := 36) rfl rfl rfl rfl) ?_
      refine okc (m_cmpne (qt := 42) (qf := 39) rfl rfl (Rp_rg r3 84 (w_inOf D a4 a2 a3)) h1 rfl rfl) (fun c7 => ?_) (fun c7 => ?_)
      · replace hp := ip c7 hp
        refine ok (m_iload (q := 41) rfl rfl rfl rfl) ?_
        exact ok (m_reti rfl rfl) (ok_iq r3 h4 hp)
      · replace hp := iq c7 hp
        refine ok (m_iinc (q := 45) (lo' := [some (am_r (some 70)), some (am_i (wz a1)), some (am_i (wz a2)), some (am_i (wz a3)), some (am_i (wz (wr (a4 + 1)))), some (am_i (wz (w_inOf D a4 a2 a3)))]) rfl rfl rfl rfl rfl rfl rfl) ?_
        refine ok (m_goto (q := 3) rfl rfl rfl) ?_
        refine ok (mk rfl (lo' := [some (am_r (some 70)), some (am_i (wz a1)), some (am_i (wz a2)), some (am_i (wz a3)), some (am_i (wz (wr (a4 + 1)))), none]) rfl) ?_
        exact hp d hd _ r3
abbrev P_X11_holder : Nat → Option am_E := am_fy tb_X11_holder
def K_X11_holder_27 (n : Nat) (A : aA) (D : aD) (a1 : Int) (a2 : Int) (a3 : Int) (a4 : Int) (x : Int) (D' : aD) : Prop := Lp n 5 P_X11_holder 27 [some (am_r (some 32)), some (am_i (wz a1)), some (am_i (wz a2)), some (am_i (wz a3)), some (am_i (wz a4)), none] [] A D (ri x) A D'
set_option maxRecDepth 100000 in
theorem rl_X11_holder {n : Nat} {A : aA} {D D' : aD} (a1 : Int) (a2 : Int) (a3 : Int) (h1 : rg a1) (h2 : rg a2) (h3 : rg a3) {x : Int} (hp : (if v_X11_isPlace D a1 = 0 then (x = (-1) ∧ D' = D) else (if v_X11_isDay D a2 = 0 then (x = (-1) ∧ D' = D) else (if v_X11_isDay D a3 = 0 then (x = (-1) ∧ D' = D) else K_X11_holder_27 (n) A D a1 a2 a3 0 x D')))) : Ev (n) (6) 80 [am_r (some 32), am_i (wz a1), am_i (wz a2), am_i (wz a3)] A D (ri x) A D' := by
  refine Ev_of (c := 5) (P := P_X11_holder) (lo := [some (am_r (some 32)), some (am_i (wz a1)), some (am_i (wz a2)), some (am_i (wz a3)), none, none]) rfl rfl rfl (fun d hd s hr => ?_)
  refine ok (m_aload_n (q := 1) rfl rfl rfl rfl) ?_
  refine ok (m_iload_n (q := 2) rfl rfl rfl rfl) ?_
  refine oke (e_ci (x_cv (q := 5) rfl rfl rfl rfl rfl rfl rfl rfl rfl rfl (is_st hr rfl rfl)) (ev_X11_isPlace (D := D) a1 h1) (Nat.le_trans (by decide) hd) hr) (fun s1 r2 => ?_)
  refine okc (m_ifeq (qt := 22) (qf := 8) rfl rfl (Ev_rg (ev_X11_isPlace (D := D) a1 h1) hr) rfl rfl) (fun c3 => ?_) (fun c3 => ?_)
  · replace hp := ip c3 hp
    refine ok (m_iconst (q := 23) rfl rfl rfl) ?_
    exact ok (m_reti rfl rfl) (ok_iq r2 ⟨by decide, by decide⟩ hp)
  · replace hp := iq c3 hp
    refine ok (m_iload_n (q := 9) rfl rfl rfl rfl) ?_
    refine oke (e_ci (x_cs (q := 12) rfl rfl rfl rfl rfl rfl rfl rfl rfl) (ev_X11_isDay (D := D) a2 h2) (Nat.le_trans (by decide) hd) r2) (fun s4 r5 => ?_)
    refine okc (m_ifeq (qt := 22) (qf := 15) rfl rfl (Ev_rg (ev_X11_isDay (D := D) a2 h2) r2) rfl rfl) (fun c6 => ?_) (fun c6 => ?_)
    · replace hp := ip c6 hp
      refine ok (m_iconst (q := 23) rfl rfl rfl) ?_
      exact ok (m_reti rfl rfl) (ok_iq r5 ⟨by decide, by decide⟩ hp)
    · replace hp := iq c6 hp
      refine ok (m_iload_n (q := 16) rfl rfl rfl rfl) ?_
      refine oke (e_ci (x_cs (q := 19) rfl rfl rfl rfl rfl rfl rfl rfl rfl) (ev_X11_isDay (D := D) a3 h3) (Nat.le_trans (by decide) hd) r5) (fun s7 r8 => ?_)
      refine okc (m_ifne (qt := 24) (qf := 22) rfl rfl (Ev_rg (ev_X11_isDay (D := D) a3 h3) r5) rfl rfl) (fun c9 => ?_) (fun c9 => ?_)
      · replace hp := ip c9 hp
        refine ok (m_iconst (q := 23) rfl rfl rfl) ?_
        exact ok (m_reti rfl rfl) (ok_iq r8 ⟨by decide, by decide⟩ hp)
      · replace hp := iq c9 hp
        refine ok (m_iconst (q := 25) rfl rfl rfl) ?_
        refine ok (m_istore (q := 27) (lo' := [some (am_r (some 32)), some (am_i (wz a1)), some (am_i (wz a2)), some (am_i (wz a3)), some (am_i (wz 0)), none]) rfl rfl rfl rfl rfl) ?_
        exact hp d hd _ r8
set_option maxRecDepth 100000 in
theorem rl_X11_holder_27 {n : Nat} {A : aA} {D D' : aD} (a1 : Int) (a2 : Int) (a3 : Int) (a4 : Int) (h1 : rg a1) (h2 : rg a2) (h3 : rg a3) (h4 : rg a4) {x : Int} (hp : (if D 1002 0 ≤ a4 then (x = (-1) ∧ D' = D) else (p_inOf D a4 a2 a3) ∧ (if w_inOf D a4 a2 a3 < 0 then K_X11_holder_27 (n) A D a1 a2 a3 (wr (a4 + 1)) x D' else (if D 2100 (D 2502 (w_inOf D a4 a2 a3)) = a1 then (x = a4 ∧ D' = D) else K_X11_holder_27 (n) A D a1 a2 a3 (wr (a4 + 1)) x D')))) : K_X11_holder_27 (n) A D a1 a2 a3 a4 x D' := by
  unfold K_X11_holder_27
  refine fun d hd s hr => ?_
  refine ok (m_iload (q := 29) rfl rfl rfl rfl) ?_
  refine ok (m_aload_n (q := 30) rfl rfl rfl rfl) ?_
  have f_10 := Rp_fx0_0 hr
  refine ok (m_gfy (q := 33) rfl rfl rfl hr rfl rfl rfl) ?_
  refine oke (e_ci (x_cv (q := 36) rfl rfl rfl rfl rfl rfl rfl rfl rfl rfl (is_ty hr rfl f_10)) (ev_size 0 f_10) (Nat.le_trans (by decide) hd) hr) (fun s11 r12 => ?_)
  refine okc (m_cmpge (qt := 78) (qf := 39) rfl rfl h4 (show rg (D 1002 0) from Rp_rg hr 1002 0) rfl rfl) (fun c13 => ?_) (fun c13 => ?_)
  · replace hp := ip c13 hp
    refine ok (m_iconst (q := 79) rfl rfl rfl) ?_
    exact ok (m_reti rfl rfl) (ok_iq r12 ⟨by decide, by decide⟩ hp)
  · replace hp := iq c13 hp
    refine ok (m_aload_n (q := 40) rfl rfl rfl rfl) ?_
    refine ok (m_gfc (q := 43) rfl rfl rfl r12 rfl rfl rfl) ?_
    refine ok (m_iload (q := 45) rfl rfl rfl rfl) ?_
    refine ok (m_iload_n (q := 46) rfl rfl rfl rfl) ?_
    refine ok (m_iload_n (q := 47) rfl rfl rfl rfl) ?_
    obtain ⟨g16, hp⟩ := hp
    refine oke (e_cr (x_cv (q := 50) rfl rfl rfl rfl rfl rfl rfl rfl rfl rfl (is_st r12 rfl rfl)) (ev_X3_whereIn (D := D) a4 a2 a3 h4 h2 h3 g16) (Nat.le_trans (by decide) hd) r12) (fun s14 r15 => ?_)
    refine ok (m_astore (q := 52) (lo' := [some (am_r (some 32)), some (am_i (wz a1)), some (am_i (wz a2)), some (am_i (wz a3)), some (am_i (wz a4)), some (am_r (nr A 15 (w_inOf D a4 a2 a3)))]) rfl rfl rfl rfl rfl) ?_
    refine ok (m_aload (q := 54) rfl rfl rfl rfl) ?_
    refine okc ((m_ifnull (qt := 72) (qf := 57) rfl rfl rfl rfl).trans (ifn_n r15 rfl (fg_whereIn (D := D) a4 a2 a3 h4 h2 h3 g16 r12))) (fun c17 => ?_) (fun c17 => ?_)
    · replace hp := ip c17 hp
      refine ok (m_iinc (q := 75) (lo' := [some (am_r (some 32)), some (am_i (wz a1)), some (am_i (wz a2)), some (am_i (wz a3)), some (am_i (wz (wr (a4 + 1)))), some (am_r (nr A 15 (w_inOf D a4 a2 a3)))]) rfl rfl rfl rfl rfl rfl rfl) ?_
      refine ok (m_goto (q := 27) rfl rfl rfl) ?_
      refine ok (mk rfl (lo' := [some (am_r (some 32)), some (am_i (wz a1)), some (am_i (wz a2)), some (am_i (wz a3)), some (am_i (wz (wr (a4 + 1)))), none]) rfl) ?_
      exact hp d hd _ r15
    · replace hp := iq c17 hp
      refine ok (o' := mr d P_X11_holder 57 [some (am_r (some 32)), some (am_i (wz a1)), some (am_i (wz a2)), some (am_i (wz a3)), some (am_i (wz a4)), some (am_r (some (A 15 (w_inOf D a4 a2 a3))))] [] s14) (by rw [nr_s (Int.not_lt.mp c17)]; try rfl) ?_
      refine ok (m_aload (q := 59) rfl rfl rfl rfl) ?_
      have f_18 : D 911 (D 2502 (w_inOf D a4 a2 a3)) = 1 := Rp_f15_11 (D := D) (i := w_inOf D a4 a2 a3) r15 ((fg_whereIn (D := D) a4 a2 a3 h4 h2 h3 g16 r12) (Int.not_lt.mp c17))
      refine ok (m_gfx (t := 15) (q := 62) (r := some (A 11 (D 2502 (w_inOf D a4 a2 a3)))) rfl rfl rfl r15 rfl ((fg_whereIn (D := D) a4 a2 a3 h4 h2 h3 g16 r12) (Int.not_lt.mp c17)) rfl rfl rfl) ?_
      refine ok (m_gft (t := 11) (q := 65) rfl rfl rfl r15 rfl f_18 rfl rfl rfl) ?_
      refine ok (m_iload_n (q := 66) rfl rfl rfl rfl) ?_
      refine okc (m_cmpne (qt := 72) (qf := 69) rfl rfl (show rg (D 2100 (D 2502 (w_inOf D a4 a2 a3))) from Rp_rg r15 2100 (D 2502 (w_inOf D a4 a2 a3))) h1 rfl rfl) (fun c19 => ?_) (fun c19 => ?_)
      · replace hp := ip c19 hp
        refine ok (m_iload (q := 71) rfl rfl rfl rfl) ?_
        exact ok (m_reti rfl rfl) (ok_iq r15 h4 hp)
      · replace hp := iq c19 hp
        refine ok (m_iinc (q := 75) (lo' := [some (am_r (some 32)), some (am_i (wz a1)), some (am_i (wz a2)), some (am_i (wz a3)), some (am_i (wz (wr (a4 + 1)))), some (am_r (some (A 15 (w_inOf D a4 a2 a3))))]) rfl rfl rfl rfl rfl rfl rfl) ?_
        refine ok (m_goto (q := 27) rfl rfl rfl) ?_
        refine ok (mk rfl (lo' := [some (am_r (some 32)), some (am_i (wz a1)), some (am_i (wz a2)), some (am_i (wz a3)), some (am_i (wz (wr (a4 + 1)))), none]) rfl) ?_
        exact hp d hd _ r15
def hdP (D : aD) (p d k s : Int) : Bool := decide (0 ≤ w_inOf D s d k ∧ D 84 (w_inOf D s d k) = p)
def w_holderOf (D : aD) (p d k : Int) : Int := fsi (hdP D p d k) 0 (D 70 1)
theorem K_holderOf {p d k : Int} (h1 : rg p) (h2 : rg d) (h3 : rg k) (hp : p_inOf D 0 d k) : K_X12_holderOf_3 n A D p d k 0 (w_holderOf D p d k) D := by
  have hc := hp.1.ct; unfold I_ct at hc
  refine dn_ind (K := fun j => K_X12_holderOf_3 n A D p d k j (fsi (hdP D p d k) j (D 70 1)) D) (lo := 0) (N := D 70 1) ?_ ?_ 0 (by omega) (by omega)
  · refine rl_X12_holderOf_3 _ _ _ _ h1 h2 h3 (rgb (by omega) (by omega)) ?_
    rw [if_pos (Int.le_refl _), fsi_end (Int.le_refl _)]; exact ⟨rfl, rfl⟩
  · intro j j0 j1 ih
    have hb := inOf_b (D := D) (s := j) (d := d) (k := k) (by omega)
    refine rl_X12_holderOf_3 _ _ _ _ h1 h2 h3 (rgb (by omega) (by omega)) ?_
    rw [if_neg (by omega), wr1 j0 j1 (by omega)]
    refine ⟨hp, ?_⟩
    by_cases c1 : 0 ≤ w_inOf D j d k ∧ D 84 (w_inOf D j d k) = p
    · rw [fsi_t j1 (by unfold hdP; exact decide_eq_true c1), if_neg (by omega)]
      refine ⟨⟨by omega, by omega⟩, ?_⟩
      rw [if_pos c1.2]; exact ⟨rfl, rfl⟩
    · rw [fsi_f j1 (by unfold hdP; exact decide_eq_false c1)]
      split
      · exact ih
      · refine ⟨⟨by omega, by omega⟩, ?_⟩
        rw [if_neg (fun q => c1 ⟨by omega, q⟩)]; exact ih
def p_holderOf (D : aD) (_ d k : Int) : Prop := p_inOf D 0 d k
theorem ev_X12_holderOf (p d k : Int) (h1 : rg p) (h2 : rg d) (h3 : rg k) (hp : p_holderOf D p d k) : Ev n 3 143 [am_r (some 70), am_i (wz p), am_i (wz d), am_i (wz k)] A D (ri (w_holderOf D p d k)) A D := rl_X12_holderOf p d k h1 h2 h3 (K_holderOf h1 h2 h3 hp)
abbrev P_X12_holder : Nat → Option am_E := am_fy tb_X12_holder
def v_X12_holder (D : aD) (a1 : Int) (a2 : Int) (a3 : Int) : Int := if v_X12_isPlace D a1 = 0 then (-1) else if v_X12_isDay D a2 = 0 then (-1) else if v_X12_isDay D a3 = 0 then (-1) else w_holderOf D a1 a2 a3
def p_X12_holder (D : aD) (a1 : Int) (a2 : Int) (a3 : Int) : Prop := (if v_X12_isPlace D a1 = 0 then True else (if v_X12_isDay D a2 = 0 then True else (if v_X12_isDay D a3 = 0 then True else (p_holderOf D a1 a2 a3))))
set_option maxRecDepth 100000 in
theorem ev_X12_holder {n : Nat} {A : aA} {D : aD} (a1 : Int) (a2 : Int) (a3 : Int) (h1 : rg a1) (h2 : rg a2) (h3 : rg a3) (hp : p_X12_holder D a1 a2 a3) : Ev (n) 4 144 [am_r (some 70), am_i (wz a1), am_i (wz a2), am_i (wz a3)] A D (ri (v_X12_holder D a1 a2 a3)) A D := by
  unfold p_X12_holder at hp
  unfold v_X12_holder
  refine Ev_of (c := 3) (P := P_X12_holder) (lo := [some (am_r (some 70)), some (am_i (wz a1)), some (am_i (wz a2)), some (am_i (wz a3))]) rfl rfl rfl (fun d hd s hr => ?_)
  refine ok (m_aload_n (q := 1) rfl rfl rfl rfl) ?_
  refine ok (m_iload_n (q := 2) rfl rfl rfl rfl) ?_
  refine oke (e_ci (x_cv (q := 5) rfl rfl rfl rfl rfl rfl rfl rfl rfl rfl (is_st hr rfl rfl)) (ev_X12_isPlace (D := D) a1 h1) (Nat.le_trans (by decide) hd) hr) (fun s1 r2 => ?_)
  refine okp (m_ifeq (qt := 32) (qf := 8) rfl rfl (Ev_rg (ev_X12_isPlace (D := D) a1 h1) hr) rfl rfl) (fun c3 => ?_) (fun c3 => ?_)
  · refine ok (m_iconst (q := 33) rfl rfl rfl) ?_
    exact ok (m_reti rfl rfl) (ok_i r2 ⟨by decide, by decide⟩)
  · replace hp := iq c3 hp
    refine ok (m_iload_n (q := 9) rfl rfl rfl rfl) ?_
    refine oke (e_ci (x_cs (q := 12) rfl rfl rfl rfl rfl rfl rfl rfl rfl) (ev_X12_isDay (D := D) a2 h2) (Nat.le_trans (by decide) hd) r2) (fun s4 r5 => ?_)
    refine okp (m_ifeq (qt := 32) (qf := 15) rfl rfl (Ev_rg (ev_X12_isDay (D := D) a2 h2) r2) rfl rfl) (fun c6 => ?_) (fun c6 => ?_)
    · refine ok (m_iconst (q := 33) rfl rfl rfl) ?_
      exact ok (m_reti rfl rfl) (ok_i r5 ⟨by decide, by decide⟩)
    · replace hp := iq c6 hp
      refine ok (m_iload_n (q := 16) rfl rfl rfl rfl) ?_
      refine oke (e_ci (x_cs (q := 19) rfl rfl rfl rfl rfl rfl rfl rfl rfl) (ev_X12_isDay (D := D) a3 h3) (Nat.le_trans (by decide) hd) r5) (fun s7 r8 => ?_)
      refine okp (m_ifeq (qt := 32) (qf := 22) rfl rfl (Ev_rg (ev_X12_isDay (D := D) a3 h3) r5) rfl rfl) (fun c9 => ?_) (fun c9 => ?_)
      · refine ok (m_iconst (q := 33) rfl rfl rfl) ?_
        exact ok (m_reti rfl rfl) (ok_i r8 ⟨by decide, by decide⟩)
      · replace hp := iq c9 hp
        refine ok (m_aload_n (q := 23) rfl rfl rfl rfl) ?_
        refine ok (m_iload_n (q := 24) rfl rfl rfl rfl) ?_
        refine ok (m_iload_n (q := 25) rfl rfl rfl rfl) ?_
        refine ok (m_iload_n (q := 26) rfl rfl rfl rfl) ?_
        have g12 := hp
        refine oke (e_ci (x_cv (q := 29) rfl rfl rfl rfl rfl rfl rfl rfl rfl rfl (is_st r8 rfl rfl)) (ev_X12_holderOf (D := D) a1 a2 a3 h1 h2 h3 g12) (Nat.le_trans (by decide) hd) r8) (fun s10 r11 => ?_)
        refine ok (m_goto (q := 33) rfl rfl rfl) ?_
        exact ok (m_reti rfl rfl) (ok_i r11 (Ev_rg (ev_X12_holderOf (D := D) a1 a2 a3 h1 h2 h3 g12) r8))
theorem K_holder {p d k : Int} (h1 : rg p) (h2 : rg d) (h3 : rg k) (hp : p_inOf D 0 d k) : K_X11_holder_27 n A D p d k 0 (w_holderOf D p d k) D := by
  have hc := hp.1.ct; unfold I_ct at hc
  refine dn_ind (K := fun j => K_X11_holder_27 n A D p d k j (fsi (hdP D p d k) j (D 70 1)) D) (lo := 0) (N := D 70 1) ?_ ?_ 0 (by omega) (by omega)
  · refine rl_X11_holder_27 _ _ _ _ h1 h2 h3 (rgb (by omega) (by omega)) ?_
    rw [if_pos (by omega), fsi_end (Int.le_refl _)]; exact ⟨rfl, rfl⟩
  · intro j j0 j1 ih
    have hb := inOf_b (D := D) (s := j) (d := d) (k := k) (by omega)
    refine rl_X11_holder_27 _ _ _ _ h1 h2 h3 (rgb (by omega) (by omega)) ?_
    rw [if_neg (by omega), wr1 j0 j1 (by omega)]
    refine ⟨hp, ?_⟩
    by_cases c0 : w_inOf D j d k < 0
    · rw [if_pos c0, fsi_f j1 (by unfold hdP; exact decide_eq_false (by omega))]; exact ih
    · rw [if_neg c0, (plc_eq hp.1 (p := w_inOf D j d k) (by omega) (by omega)).1]
      by_cases c1 : D 84 (w_inOf D j d k) = p
      · rw [if_pos c1, fsi_t j1 (by unfold hdP; exact decide_eq_true ⟨by omega, c1⟩)]; exact ⟨rfl, rfl⟩
      · rw [if_neg c1, fsi_f j1 (by unfold hdP; exact decide_eq_false (fun q => c1 q.2))]; exact ih
/-- two at once -/
def twP (D : aD) (k p q : Int) : Bool := decide (D 83 q = D 83 p ∧ ¬ v_X12_isKnown D q k = 0 ∧ max (D 85 p) (D 85 q) < min (v_X12_endOf D p k) (v_X12_endOf D q k))
def w_beside (D : aD) (p k : Int) : Int := if v_X12_isKnown D p k = 0 then -1 else fsi (twP D k p) (p + 1) (D 70 4)
def p_beside (D : aD) (p k : Int) : Prop := Iv D ∧ (0 ≤ k ∧ k ≤ 999) ∧ 0 ≤ p ∧ p < D 70 4
theorem sh_eq (h : Iv D) {p q k : Int} (p0 : 0 ≤ p) (p1 : p < D 70 4) (q0 : 0 ≤ q) (q1 : q < D 70 4) (hk : k ≤ 999) : v_X5_sharesDayWith D p q k = 0 ↔ ¬ max (D 85 p) (D 85 q) < min (v_X12_endOf D p k) (v_X12_endOf D q k) := by
  have hc := h.ct; unfold I_ct at hc
  have e1 := en_rg h.pg (by omega) (k := k) p0 p1
  have e2 := en_rg h.pg (by omega) (k := k) q0 q1
  have f1 := h.pg p p0 p1
  have f2 := h.pg q q0 q1
  unfold v_X5_sharesDayWith
  rw [en_eq h.pg (by omega) p0 p1 hk, en_eq h.pg (by omega) q0 q1 hk, f1.2.2.2.1, f2.2.2.2.1]
  have g1 : D 85 p ≤ 999 := by omega
  have g2 : D 85 q ≤ 999 := by omega
  clear f1 f2 hc
  generalize v_X12_endOf D p k = a at *
  generalize v_X12_endOf D q k = b at *
  omega
abbrev P_X3_firstBeside : Nat → Option am_E := am_fy tb_X3_firstBeside
def K_X3_firstBeside_17 (n : Nat) (A : aA) (D : aD) (i1 : Int) (a2 : Int) (a3 : Int) (x : Int) (D' : aD) : Prop := Lp n 4 P_X3_firstBeside 17 [some (am_r (some 50)), some (am_r (some (A 15 i1))), some (am_i (wz a2)), some (am_i (wz a3)), none] [] A D (ri x) A D'
set_option maxRecDepth 100000 in
theorem rl_X3_firstBeside {n : Nat} {A : aA} {D D' : aD} (i1 : Int) (a2 : Int) (f1 : D 915 i1 = 1) (h2 : rg a2) {x : Int} (hp : (if v_X5_isKnownBy D i1 a2 = 0 then (x = (-1) ∧ D' = D) else K_X3_firstBeside_17 (n) A D i1 a2 (wr ((D 2500 i1) + 1)) x D')) : Ev (n) (5) 25 [am_r (some 50), am_r (some (A 15 i1)), am_i (wz a2)] A D (ri x) A D' := by
  refine Ev_of (c := 4) (P := P_X3_firstBeside) (lo := [some (am_r (some 50)), some (am_r (some (A 15 i1))), some (am_i (wz a2)), none, none]) rfl rfl rfl (fun d hd s hr => ?_)
  refine ok (m_aload_n (q := 1) rfl rfl rfl rfl) ?_
  refine ok (m_iload_n (q := 2) rfl rfl rfl rfl) ?_
  refine oke (e_ci (x_cv (q := 5) rfl rfl rfl rfl rfl rfl rfl rfl rfl rfl (is_ty hr rfl f1)) (ev_X5_isKnownBy (D := D) i1 a2 f1 h2) (Nat.le_trans (by decide) hd) hr) (fun s1 r2 => ?_)
  refine okc (m_ifne (qt := 10) (qf := 8) rfl rfl (Ev_rg (ev_X5_isKnownBy (D := D) i1 a2 f1 h2) hr) rfl rfl) (fun c3 => ?_) (fun c3 => ?_)
  · replace hp := ip c3 hp
    refine ok (m_iconst (q := 9) rfl rfl rfl) ?_
    exact ok (m_reti rfl rfl) (ok_iq r2 ⟨by decide, by decide⟩ hp)
  · replace hp := iq c3 hp
    refine ok (m_aload_n (q := 11) rfl rfl rfl rfl) ?_
    refine ok (m_gft (t := 15) (q := 14) rfl rfl rfl r2 rfl f1 rfl rfl rfl) ?_
    refine ok (m_iconst (q := 15) rfl rfl rfl) ?_
    refine ok (m_iadd (q := 16) rfl rfl rfl) ?_
    refine ok (m_istore_n (q := 17) (lo' := [some (am_r (some 50)), some (am_r (some (A 15 i1))), some (am_i (wz a2)), some (am_i (wz (wr ((D 2500 i1) + 1)))), none]) rfl rfl rfl rfl rfl) ?_
    exact hp d hd _ r2
set_option maxRecDepth 100000 in
theorem rl_X3_firstBeside_17 {n : Nat} {A : aA} {D D' : aD} (i1 : Int) (a2 : Int) (a3 : Int) (f1 : D 915 i1 = 1) (h2 : rg a2) (h3 : rg a3) {x : Int} (hp : (if D 1002 5 ≤ a3 then (x = (-1) ∧ D' = D) else (0 ≤ a3 ∧ a3 < D 1002 5) ∧ (if D 2000 (D 2501 a3) = D 2000 (D 2501 i1) then (if v_X5_isKnownBy D a3 a2 = 0 then K_X3_firstBeside_17 (n) A D i1 a2 (wr (a3 + 1)) x D' else (if v_X5_sharesDayWith D i1 a3 a2 = 0 then K_X3_firstBeside_17 (n) A D i1 a2 (wr (a3 + 1)) x D' else (x = a3 ∧ D' = D))) else K_X3_firstBeside_17 (n) A D i1 a2 (wr (a3 + 1)) x D'))) : K_X3_firstBeside_17 (n) A D i1 a2 a3 x D' := by
  unfold K_X3_firstBeside_17
  refine fun d hd s hr => ?_
  refine ok (m_iload_n (q := 18) rfl rfl rfl rfl) ?_
  refine ok (m_aload_n (q := 19) rfl rfl rfl rfl) ?_
  have f_4 := Rp_fx0_5 hr
  refine ok (m_gfy (q := 22) rfl rfl rfl hr rfl rfl rfl) ?_
  refine oke (e_ci (x_cv (q := 25) rfl rfl rfl rfl rfl rfl rfl rfl rfl rfl (is_ty hr rfl f_4)) (ev_size 5 f_4) (Nat.le_trans (by decide) hd) hr) (fun s5 r6 => ?_)
  refine okc (m_cmpge (qt := 86) (qf := 28) rfl rfl h3 (show rg (D 1002 5) from Rp_rg hr 1002 5) rfl rfl) (fun c7 => ?_) (fun c7 => ?_)
  · replace hp := ip c7 hp
    refine ok (m_iconst (q := 87) rfl rfl rfl) ?_
    exact ok (m_reti rfl rfl) (ok_iq r6 ⟨by decide, by decide⟩ hp)
  · replace hp := iq c7 hp
    refine ok (m_aload_n (q := 29) rfl rfl rfl rfl) ?_
    have f_8 := Rp_fx0_5 r6
    refine ok (m_gfy (q := 32) rfl rfl rfl r6 rfl rfl rfl) ?_
    refine ok (m_iload_n (q := 33) rfl rfl rfl rfl) ?_
    obtain ⟨g11, hp⟩ := hp
    have f_12 := Rp_el5 (D := D) r6 g11
    refine oke (e_cr (x_cv (q := 36) rfl rfl rfl rfl rfl rfl rfl rfl rfl rfl (is_ty r6 rfl f_8)) (ev_get5 a3 g11) (Nat.le_trans (by decide) hd) r6) (fun s9 r10 => ?_)
    refine ok (m_cast (q := 39) rfl rfl rfl (isN_ty r10 rfl f_12)) ?_
    refine ok (m_astore (q := 41) (lo' := [some (am_r (some 50)), some (am_r (some (A 15 i1))), some (am_i (wz a2)), some (am_i (wz a3)), some (am_r (some (A 15 a3)))]) rfl rfl rfl rfl rfl) ?_
    refine ok (m_aload (q := 43) rfl rfl rfl rfl) ?_
    have f_13 : D 910 (D 2501 a3) = 1 := Rp_f15_10 (D := D) (i := a3) r10 f_12
    refine ok (m_gfx (t := 15) (q := 46) (r := some (A 10 (D 2501 a3))) rfl rfl rfl r10 rfl f_12 rfl rfl rfl) ?_
    refine ok (m_gft (t := 10) (q := 49) rfl rfl rfl r10 rfl f_13 rfl rfl rfl) ?_
    refine ok (m_aload_n (q := 50) rfl rfl rfl rfl) ?_
    have f_14 : D 910 (D 2501 i1) = 1 := Rp_f15_10 (D := D) (i := i1) r10 f1
    refine ok (m_gfx (t := 15) (q := 53) (r := some (A 10 (D 2501 i1))) rfl rfl rfl r10 rfl f1 rfl rfl rfl) ?_
    refine ok (m_gft (t := 10) (q := 56) rfl rfl rfl r10 rfl f_14 rfl rfl rfl) ?_
    refine okc (m_cmpne (qt := 80) (qf := 59) rfl rfl (show rg (D 2000 (D 2501 a3)) from Rp_rg r10 2000 (D 2501 a3)) (show rg (D 2000 (D 2501 i1)) from Rp_rg r10 2000 (D 2501 i1)) rfl rfl) (fun c15 => ?_) (fun c15 => ?_)
    · replace hp := ip c15 hp
      refine ok (m_aload (q := 61) rfl rfl rfl rfl) ?_
      refine ok (m_iload_n (q := 62) rfl rfl rfl rfl) ?_
      refine oke (e_ci (x_cv (q := 65) rfl rfl rfl rfl rfl rfl rfl rfl rfl rfl (is_ty r10 rfl f_12)) (ev_X5_isKnownBy (D := D) a3 a2 f_12 h2) (Nat.le_trans (by decide) hd) r10) (fun s16 r17 => ?_)
      refine okc (m_ifeq (qt := 80) (qf := 68) rfl rfl (Ev_rg (ev_X5_isKnownBy (D := D) a3 a2 f_12 h2) r10) rfl rfl) (fun c18 => ?_) (fun c18 => ?_)
      · replace hp := ip c18 hp
        refine ok (m_iinc (q := 83) (lo' := [some (am_r (some 50)), some (am_r (some (A 15 i1))), some (am_i (wz a2)), some (am_i (wz (wr (a3 + 1)))), some (am_r (some (A 15 a3)))]) rfl rfl rfl rfl rfl rfl rfl) ?_
        refine ok (m_goto (q := 17) rfl rfl rfl) ?_
        refine ok (mk rfl (lo' := [some (am_r (some 50)), some (am_r (some (A 15 i1))), some (am_i (wz a2)), some (am_i (wz (wr (a3 + 1)))), none]) rfl) ?_
        exact hp d hd _ r17
      · replace hp := iq c18 hp
        refine ok (m_aload_n (q := 69) rfl rfl rfl rfl) ?_
        refine ok (m_aload (q := 71) rfl rfl rfl rfl) ?_
        refine ok (m_iload_n (q := 72) rfl rfl rfl rfl) ?_
        refine oke (e_ci (x_cv (q := 75) rfl rfl rfl rfl rfl rfl rfl rfl rfl rfl (is_ty r17 rfl f1)) (ev_X5_sharesDayWith (D := D) i1 a3 a2 f1 f_12 h2) (Nat.le_trans (by decide) hd) r17) (fun s19 r20 => ?_)
        refine okc (m_ifeq (qt := 80) (qf := 78) rfl rfl (Ev_rg (ev_X5_sharesDayWith (D := D) i1 a3 a2 f1 f_12 h2) r17) rfl rfl) (fun c21 => ?_) (fun c21 => ?_)
        · replace hp := ip c21 hp
          refine ok (m_iinc (q := 83) (lo' := [some (am_r (some 50)), some (am_r (some (A 15 i1))), some (am_i (wz a2)), some (am_i (wz (wr (a3 + 1)))), some (am_r (some (A 15 a3)))]) rfl rfl rfl rfl rfl rfl rfl) ?_
          refine ok (m_goto (q := 17) rfl rfl rfl) ?_
          refine ok (mk rfl (lo' := [some (am_r (some 50)), some (am_r (some (A 15 i1))), some (am_i (wz a2)), some (am_i (wz (wr (a3 + 1)))), none]) rfl) ?_
          exact hp d hd _ r20
        · replace hp := iq c21 hp
          refine ok (m_iload_n (q := 79) rfl rfl rfl rfl) ?_
          exact ok (m_reti rfl rfl) (ok_iq r20 h3 hp)
    · replace hp := iq c15 hp
      refine ok (m_iinc (q := 83) (lo' := [some (am_r (some 50)), some (am_r (some (A 15 i1))), some (am_i (wz a2)), some (am_i (wz (wr (a3 + 1)))), some (am_r (some (A 15 a3)))]) rfl rfl rfl rfl rfl rfl rfl) ?_
      refine ok (m_goto (q := 17) rfl rfl rfl) ?_
      refine ok (mk rfl (lo' := [some (am_r (some 50)), some (am_r (some (A 15 i1))), some (am_i (wz a2)), some (am_i (wz (wr (a3 + 1)))), none]) rfl) ?_
      exact hp d hd _ r10
theorem ev_X3_firstBeside (p k : Int) (f1 : D 915 p = 1) (h2 : rg k) (hp : p_beside D p k) : Ev n 5 25 [am_r (some 50), am_r (some (A 15 p)), am_i (wz k)] A D (ri (w_beside D p k)) A D := by
  obtain ⟨hI, hk, p0, p1⟩ := hp
  have hc := hI.ct; unfold I_ct at hc
  refine rl_X3_firstBeside p k f1 h2 ?_
  unfold w_beside
  rw [kn_eq hI.pg p0 p1 hk.2]
  by_cases c0 : v_X12_isKnown D p k = 0
  · rw [if_pos c0, if_pos c0]; exact ⟨rfl, rfl⟩
  rw [if_neg c0, if_neg c0, (hI.pg p p0 p1).1, wr1 p0 p1 (by omega)]
  refine dn_ind (K := fun j => K_X3_firstBeside_17 n A D p k j (fsi (twP D k p) j (D 70 4)) D) (lo := 0) (N := D 70 4) ?_ ?_ (p + 1) (by omega) (by omega)
  · refine rl_X3_firstBeside_17 _ _ _ f1 h2 (rgb (by omega) (by omega)) ?_
    rw [if_pos (by omega), fsi_end (Int.le_refl _)]; exact ⟨rfl, rfl⟩
  · intro j j0 j1 ih
    refine rl_X3_firstBeside_17 _ _ _ f1 h2 (rgb (by omega) (by omega)) ?_
    rw [if_neg (by omega), wr1 j0 j1 (by omega), srv_eq hI j0 j1, srv_eq hI p0 p1, kn_eq hI.pg j0 j1 hk.2]
    refine ⟨⟨by omega, by omega⟩, ?_⟩
    by_cases c1 : D 83 j = D 83 p
    · rw [if_pos c1]
      by_cases c2 : v_X12_isKnown D j k = 0
      · rw [if_pos c2, fsi_f j1 (by unfold twP; exact decide_eq_false (fun q => q.2.1 c2))]; exact ih
      · rw [if_neg c2]
        by_cases c3 : v_X5_sharesDayWith D p j k = 0
        · rw [if_pos c3, fsi_f j1 (by unfold twP; exact decide_eq_false (fun q => (sh_eq hI p0 p1 j0 j1 hk.2).mp c3 q.2.2))]; exact ih
        · rw [if_neg c3, fsi_t j1 (by unfold twP; exact decide_eq_true ⟨c1, c2, Decidable.not_not.mp (fun q => c3 ((sh_eq hI p0 p1 j0 j1 hk.2).mpr q))⟩)]; exact ⟨rfl, rfl⟩
    · rw [if_neg c1, fsi_f j1 (by unfold twP; exact decide_eq_false (fun q => c1 q.1))]; exact ih
abbrev P_X11_twice : Nat → Option am_E := am_fy tb_X11_twice
def K_X11_twice_29 (n : Nat) (A : aA) (D : aD) (a1 : Int) (a2 : Int) (a3 : Int) (a4 : Int) (x : Int) (D' : aD) : Prop := Lp n 5 P_X11_twice 29 [some (am_r (some 32)), some (am_i (wz a1)), some (am_i (wz a2)), some (am_i (wz a3)), some (am_i (wz a4)), none, none] [] A D (ri x) A D'
set_option maxRecDepth 100000 in
theorem rl_X11_twice {n : Nat} {A : aA} {D D' : aD} (a1 : Int) (a2 : Int) (a3 : Int) (h1 : rg a1) (h2 : rg a2) (h3 : rg a3) {x : Int} (hp : (if v_X11_isServant D a1 = 0 then (x = (-1) ∧ D' = D) else (if v_X11_isDay D a2 = 0 then (x = (-1) ∧ D' = D) else (if v_X11_between D a3 0 1 = 0 then (x = (-1) ∧ D' = D) else K_X11_twice_29 (n) A D a1 a2 a3 0 x D')))) : Ev (n) (6) 81 [am_r (some 32), am_i (wz a1), am_i (wz a2), am_i (wz a3)] A D (ri x) A D' := by
  refine Ev_of (c := 5) (P := P_X11_twice) (lo := [some (am_r (some 32)), some (am_i (wz a1)), some (am_i (wz a2)), some (am_i (wz a3)), none, none, none]) rfl rfl rfl (fun d hd s hr => ?_)
  refine ok (m_aload_n (q := 1) rfl rfl rfl rfl) ?_
  refine ok (m_iload_n (q := 2) rfl rfl rfl rfl) ?_
  refine oke (e_ci (x_cv (q := 5) rfl rfl rfl rfl rfl rfl rfl rfl rfl rfl (is_st hr rfl rfl)) (ev_X11_isServant (D := D) a1 h1) (Nat.le_trans (by decide) hd) hr) (fun s1 r2 => ?_)
  refine okc (m_ifeq (qt := 24) (qf := 8) rfl rfl (Ev_rg (ev_X11_isServant (D := D) a1 h1) hr) rfl rfl) (fun c3 => ?_) (fun c3 => ?_)
  · replace hp := ip c3 hp
    refine ok (m_iconst (q := 25) rfl rfl rfl) ?_
    exact ok (m_reti rfl rfl) (ok_iq r2 ⟨by decide, by decide⟩ hp)
  · replace hp := iq c3 hp
    refine ok (m_iload_n (q := 9) rfl rfl rfl rfl) ?_
    refine oke (e_ci (x_cs (q := 12) rfl rfl rfl rfl rfl rfl rfl rfl rfl) (ev_X11_isDay (D := D) a2 h2) (Nat.le_trans (by decide) hd) r2) (fun s4 r5 => ?_)
    refine okc (m_ifeq (qt := 24) (qf := 15) rfl rfl (Ev_rg (ev_X11_isDay (D := D) a2 h2) r2) rfl rfl) (fun c6 => ?_) (fun c6 => ?_)
    · replace hp := ip c6 hp
      refine ok (m_iconst (q := 25) rfl rfl rfl) ?_
      exact ok (m_reti rfl rfl) (ok_iq r5 ⟨by decide, by decide⟩ hp)
    · replace hp := iq c6 hp
      refine ok (m_iload_n (q := 16) rfl rfl rfl rfl) ?_
      refine ok (m_iconst (q := 17) rfl rfl rfl) ?_
      refine ok (m_iconst (q := 18) rfl rfl rfl) ?_
      refine oke (e_ci (x_cs (q := 21) rfl rfl rfl rfl rfl rfl rfl rfl rfl) (ev_X11_between (D := D) a3 0 1 h3 ⟨by decide, by decide⟩ ⟨by decide, by decide⟩) (Nat.le_trans (by decide) hd) r5) (fun s7 r8 => ?_)
      refine okc (m_ifne (qt := 26) (qf := 24) rfl rfl (Ev_rg (ev_X11_between (D := D) a3 0 1 h3 ⟨by decide, by decide⟩ ⟨by decide, by decide⟩) r5) rfl rfl) (fun c9 => ?_) (fun c9 => ?_)
      · replace hp := ip c9 hp
        refine ok (m_iconst (q := 25) rfl rfl rfl) ?_
        exact ok (m_reti rfl rfl) (ok_iq r8 ⟨by decide, by decide⟩ hp)
      · replace hp := iq c9 hp
        refine ok (m_iconst (q := 27) rfl rfl rfl) ?_
        refine ok (m_istore (q := 29) (lo' := [some (am_r (some 32)), some (am_i (wz a1)), some (am_i (wz a2)), some (am_i (wz a3)), some (am_i (wz 0)), none, none]) rfl rfl rfl rfl rfl) ?_
        exact hp d hd _ r8
set_option maxRecDepth 100000 in
theorem rl_X11_twice_29 {n : Nat} {A : aA} {D D' : aD} (a1 : Int) (a2 : Int) (a3 : Int) (a4 : Int) (h1 : rg a1) (h2 : rg a2) (h3 : rg a3) (h4 : rg a4) {x : Int} (hp : (if D 1002 5 ≤ a4 then (x = (-1) ∧ D' = D) else (0 ≤ a4 ∧ a4 < D 1002 5) ∧ (if D 2000 (D 2501 a4) = a1 then (p_beside D a4 a2) ∧ (if w_beside D a4 a2 = (-1) then K_X11_twice_29 (n) A D a1 a2 a3 (wr (a4 + 1)) x D' else (if a3 = 0 then (x = a4 ∧ D' = D) else (x = w_beside D a4 a2 ∧ D' = D))) else K_X11_twice_29 (n) A D a1 a2 a3 (wr (a4 + 1)) x D'))) : K_X11_twice_29 (n) A D a1 a2 a3 a4 x D' := by
  unfold K_X11_twice_29
  refine fun d hd s hr => ?_
  refine ok (m_iload (q := 31) rfl rfl rfl rfl) ?_
  refine ok (m_aload_n (q := 32) rfl rfl rfl rfl) ?_
  refine ok (m_gfc (q := 35) rfl rfl rfl hr rfl rfl rfl) ?_
  have f_10 := Rp_fx0_5 hr
  refine ok (m_gfy (q := 38) rfl rfl rfl hr rfl rfl rfl) ?_
  refine oke (e_ci (x_cv (q := 41) rfl rfl rfl rfl rfl rfl rfl rfl rfl rfl (is_ty hr rfl f_10)) (ev_size 5 f_10) (Nat.le_trans (by decide) hd) hr) (fun s11 r12 => ?_)
  refine okc (m_cmpge (qt := 113) (qf := 44) rfl rfl h4 (show rg (D 1002 5) from Rp_rg hr 1002 5) rfl rfl) (fun c13 => ?_) (fun c13 => ?_)
  · replace hp := ip c13 hp
    refine ok (m_iconst (q := 114) rfl rfl rfl) ?_
    exact ok (m_reti rfl rfl) (ok_iq r12 ⟨by decide, by decide⟩ hp)
  · replace hp := iq c13 hp
    refine ok (m_aload_n (q := 45) rfl rfl rfl rfl) ?_
    refine ok (m_gfc (q := 48) rfl rfl rfl r12 rfl rfl rfl) ?_
    have f_14 := Rp_fx0_5 r12
    refine ok (m_gfy (q := 51) rfl rfl rfl r12 rfl rfl rfl) ?_
    refine ok (m_iload (q := 53) rfl rfl rfl rfl) ?_
    obtain ⟨g17, hp⟩ := hp
    have f_18 := Rp_el5 (D := D) r12 g17
    refine oke (e_cr (x_cv (q := 56) rfl rfl rfl rfl rfl rfl rfl rfl rfl rfl (is_ty r12 rfl f_14)) (ev_get5 a4 g17) (Nat.le_trans (by decide) hd) r12) (fun s15 r16 => ?_)
    refine ok (m_cast (q := 59) rfl rfl rfl (isN_ty r16 rfl f_18)) ?_
    refine ok (m_astore (q := 61) (lo' := [some (am_r (some 32)), some (am_i (wz a1)), some (am_i (wz a2)), some (am_i (wz a3)), some (am_i (wz a4)), some (am_r (some (A 15 a4))), none]) rfl rfl rfl rfl rfl) ?_
    refine ok (m_aload (q := 63) rfl rfl rfl rfl) ?_
    have f_19 : D 910 (D 2501 a4) = 1 := Rp_f15_10 (D := D) (i := a4) r16 f_18
    refine ok (m_gfx (t := 15) (q := 66) (r := some (A 10 (D 2501 a4))) rfl rfl rfl r16 rfl f_18 rfl rfl rfl) ?_
    refine ok (m_gft (t := 10) (q := 69) rfl rfl rfl r16 rfl f_19 rfl rfl rfl) ?_
    refine ok (m_iload_n (q := 70) rfl rfl rfl rfl) ?_
    refine okc (m_cmpne (qt := 86) (qf := 73) rfl rfl (show rg (D 2000 (D 2501 a4)) from Rp_rg r16 2000 (D 2501 a4)) h1 rfl rfl) (fun c20 => ?_) (fun c20 => ?_)
    · replace hp := ip c20 hp
      refine ok (m_aload_n (q := 74) rfl rfl rfl rfl) ?_
      refine ok (m_gfc (q := 77) rfl rfl rfl r16 rfl rfl rfl) ?_
      refine ok (m_aload (q := 79) rfl rfl rfl rfl) ?_
      refine ok (m_iload_n (q := 80) rfl rfl rfl rfl) ?_
      obtain ⟨g23, hp⟩ := hp
      refine oke (e_ci (x_cv (q := 83) rfl rfl rfl rfl rfl rfl rfl rfl rfl rfl (is_st r16 rfl rfl)) (ev_X3_firstBeside (D := D) a4 a2 f_18 h2 g23) (Nat.le_trans (by decide) hd) r16) (fun s21 r22 => ?_)
      refine ok (m_goto (q := 87) rfl rfl rfl) ?_
      refine ok (m_istore (q := 89) (lo' := [some (am_r (some 32)), some (am_i (wz a1)), some (am_i (wz a2)), some (am_i (wz a3)), some (am_i (wz a4)), some (am_r (some (A 15 a4))), some (am_i (wz (w_beside D a4 a2)))]) rfl rfl rfl rfl rfl) ?_
      refine ok (m_iload (q := 91) rfl rfl rfl rfl) ?_
      refine ok (m_iconst (q := 92) rfl rfl rfl) ?_
      refine okc (m_cmpeq (qt := 107) (qf := 95) rfl rfl (Ev_rg (ev_X3_firstBeside (D := D) a4 a2 f_18 h2 g23) r16) ⟨by decide, by decide⟩ rfl rfl) (fun c24 => ?_) (fun c24 => ?_)
      · replace hp := ip c24 hp
        refine ok (m_iinc (q := 110) (lo' := [some (am_r (some 32)), some (am_i (wz a1)), some (am_i (wz a2)), some (am_i (wz a3)), some (am_i (wz (wr (a4 + 1)))), some (am_r (some (A 15 a4))), some (am_i (wz (w_beside D a4 a2)))]) rfl rfl rfl rfl rfl rfl rfl) ?_
        refine ok (m_goto (q := 29) rfl rfl rfl) ?_
        refine ok (mk rfl (lo' := [some (am_r (some 32)), some (am_i (wz a1)), some (am_i (wz a2)), some (am_i (wz a3)), some (am_i (wz (wr (a4 + 1)))), none, none]) rfl) ?_
        exact hp d hd _ r22
      · replace hp := iq c24 hp
        refine ok (m_iload_n (q := 96) rfl rfl rfl rfl) ?_
        refine okc (m_ifne (qt := 104) (qf := 99) rfl rfl h3 rfl rfl) (fun c25 => ?_) (fun c25 => ?_)
        · replace hp := ip c25 hp
          refine ok (m_iload (q := 101) rfl rfl rfl rfl) ?_
          refine ok (m_goto (q := 106) rfl rfl rfl) ?_
          exact ok (m_reti rfl rfl) (ok_iq r22 h4 hp)
        · replace hp := iq c25 hp
          refine ok (m_iload (q := 106) rfl rfl rfl rfl) ?_
          exact ok (m_reti rfl rfl) (ok_iq r22 (Ev_rg (ev_X3_firstBeside (D := D) a4 a2 f_18 h2 g23) r16) hp)
    · replace hp := iq c20 hp
      refine ok (m_iconst (q := 87) rfl rfl rfl) ?_
      refine ok (m_istore (q := 89) (lo' := [some (am_r (some 32)), some (am_i (wz a1)), some (am_i (wz a2)), some (am_i (wz a3)), some (am_i (wz a4)), some (am_r (some (A 15 a4))), some (am_i (wz (-1)))]) rfl rfl rfl rfl rfl) ?_
      refine ok (m_iload (q := 91) rfl rfl rfl rfl) ?_
      refine ok (m_iconst (q := 92) rfl rfl rfl) ?_
      refine ok ((m_cmpeq (qt := 107) (qf := 95) rfl rfl ⟨by decide, by decide⟩ ⟨by decide, by decide⟩ rfl rfl).trans (if_pos (by decide))) ?_
      refine ok (m_iinc (q := 110) (lo' := [some (am_r (some 32)), some (am_i (wz a1)), some (am_i (wz a2)), some (am_i (wz a3)), some (am_i (wz (wr (a4 + 1)))), some (am_r (some (A 15 a4))), some (am_i (wz (-1)))]) rfl rfl rfl rfl rfl rfl rfl) ?_
      refine ok (m_goto (q := 29) rfl rfl rfl) ?_
      refine ok (mk rfl (lo' := [some (am_r (some 32)), some (am_i (wz a1)), some (am_i (wz a2)), some (am_i (wz a3)), some (am_i (wz (wr (a4 + 1)))), none, none]) rfl) ?_
      exact hp d hd _ r16
abbrev P_X12_twice : Nat → Option am_E := am_fy tb_X12_twice
def K_X12_twice_29 (n : Nat) (A : aA) (D : aD) (a1 : Int) (a2 : Int) (a3 : Int) (a4 : Int) (x : Int) (D' : aD) : Prop := Lp n 2 P_X12_twice 29 [some (am_r (some 70)), some (am_i (wz a1)), some (am_i (wz a2)), some (am_i (wz a3)), some (am_i (wz a4)), none] [] A D (ri x) A D'
def K_X12_twice_44 (n : Nat) (A : aA) (D : aD) (a1 : Int) (a2 : Int) (a3 : Int) (a4 : Int) (a5 : Int) (x : Int) (D' : aD) : Prop := Lp n 2 P_X12_twice 44 [some (am_r (some 70)), some (am_i (wz a1)), some (am_i (wz a2)), some (am_i (wz a3)), some (am_i (wz a4)), some (am_i (wz a5))] [] A D (ri x) A D'
set_option maxRecDepth 100000 in
theorem rl_X12_twice {n : Nat} {A : aA} {D D' : aD} (a1 : Int) (a2 : Int) (a3 : Int) (h1 : rg a1) (h2 : rg a2) (h3 : rg a3) {x : Int} (hp : (if v_X12_isServant D a1 = 0 then (x = (-1) ∧ D' = D) else (if v_X12_isDay D a2 = 0 then (x = (-1) ∧ D' = D) else (if v_X12_isIn D a3 0 1 = 0 then (x = (-1) ∧ D' = D) else K_X12_twice_29 (n) A D a1 a2 a3 0 x D')))) : Ev (n) (3) 145 [am_r (some 70), am_i (wz a1), am_i (wz a2), am_i (wz a3)] A D (ri x) A D' := by
  refine Ev_of (c := 2) (P := P_X12_twice) (lo := [some (am_r (some 70)), some (am_i (wz a1)), some (am_i (wz a2)), some (am_i (wz a3)), none, none]) rfl rfl rfl (fun d hd s hr => ?_)
  refine ok (m_aload_n (q := 1) rfl rfl rfl rfl) ?_
  refine ok (m_iload_n (q := 2) rfl rfl rfl rfl) ?_
  refine oke (e_ci (x_cv (q := 5) rfl rfl rfl rfl rfl rfl rfl rfl rfl rfl (is_st hr rfl rfl)) (ev_X12_isServant (D := D) a1 h1) (Nat.le_trans (by decide) hd) hr) (fun s1 r2 => ?_)
  refine okc (m_ifeq (qt := 24) (qf := 8) rfl rfl (Ev_rg (ev_X12_isServant (D := D) a1 h1) hr) rfl rfl) (fun c3 => ?_) (fun c3 => ?_)
  · replace hp := ip c3 hp
    refine ok (m_iconst (q := 25) rfl rfl rfl) ?_
    exact ok (m_reti rfl rfl) (ok_iq r2 ⟨by decide, by decide⟩ hp)
  · replace hp := iq c3 hp
    refine ok (m_iload_n (q := 9) rfl rfl rfl rfl) ?_
    refine oke (e_ci (x_cs (q := 12) rfl rfl rfl rfl rfl rfl rfl rfl rfl) (ev_X12_isDay (D := D) a2 h2) (Nat.le_trans (by decide) hd) r2) (fun s4 r5 => ?_)
    refine okc (m_ifeq (qt := 24) (qf := 15) rfl rfl (Ev_rg (ev_X12_isDay (D := D) a2 h2) r2) rfl rfl) (fun c6 => ?_) (fun c6 => ?_)
    · replace hp := ip c6 hp
      refine ok (m_iconst (q := 25) rfl rfl rfl) ?_
      exact ok (m_reti rfl rfl) (ok_iq r5 ⟨by decide, by decide⟩ hp)
    · replace hp := iq c6 hp
      refine ok (m_iload_n (q := 16) rfl rfl rfl rfl) ?_
      refine ok (m_iconst (q := 17) rfl rfl rfl) ?_
      refine ok (m_iconst (q := 18) rfl rfl rfl) ?_
      refine oke (e_ci (x_cs (q := 21) rfl rfl rfl rfl rfl rfl rfl rfl rfl) (ev_X12_isIn (D := D) a3 0 1 h3 ⟨by decide, by decide⟩ ⟨by decide, by decide⟩) (Nat.le_trans (by decide) hd) r5) (fun s7 r8 => ?_)
      refine okc (m_ifne (qt := 26) (qf := 24) rfl rfl (Ev_rg (ev_X12_isIn (D := D) a3 0 1 h3 ⟨by decide, by decide⟩ ⟨by decide, by decide⟩) r5) rfl rfl) (fun c9 => ?_) (fun c9 => ?_)
      · replace hp := ip c9 hp
        refine ok (m_iconst (q := 25) rfl rfl rfl) ?_
        exact ok (m_reti rfl rfl) (ok_iq r8 ⟨by decide, by decide⟩ hp)
      · replace hp := iq c9 hp
        refine ok (m_iconst (q := 27) rfl rfl rfl) ?_
        refine ok (m_istore (q := 29) (lo' := [some (am_r (some 70)), some (am_i (wz a1)), some (am_i (wz a2)), some (am_i (wz a3)), some (am_i (wz 0)), none]) rfl rfl rfl rfl rfl) ?_
        exact hp d hd _ r8
set_option maxRecDepth 100000 in
theorem rl_X12_twice_29 {n : Nat} {A : aA} {D D' : aD} (a1 : Int) (a2 : Int) (a3 : Int) (a4 : Int) (h1 : rg a1) (h2 : rg a2) (h3 : rg a3) (h4 : rg a4) {x : Int} (hp : (if D 70 4 ≤ a4 then (x = (-1) ∧ D' = D) else K_X12_twice_44 (n) A D a1 a2 a3 a4 (wr (a4 + 1)) x D')) : K_X12_twice_29 (n) A D a1 a2 a3 a4 x D' := by
  unfold K_X12_twice_29
  refine fun d hd s hr => ?_
  refine ok (m_iload (q := 31) rfl rfl rfl rfl) ?_
  refine ok (m_aload_n (q := 32) rfl rfl rfl rfl) ?_
  refine ok (m_gfs (z := 4) (q := 35) rfl rfl rfl hr rfl rfl rfl rfl rfl) ?_
  refine okc (m_cmpge (qt := 159) (qf := 38) rfl rfl h4 (Rp_rg hr 70 4) rfl rfl) (fun c10 => ?_) (fun c10 => ?_)
  · replace hp := ip c10 hp
    refine ok (m_iconst (q := 160) rfl rfl rfl) ?_
    exact ok (m_reti rfl rfl) (ok_iq hr ⟨by decide, by decide⟩ hp)
  · replace hp := iq c10 hp
    refine ok (m_iload (q := 40) rfl rfl rfl rfl) ?_
    refine ok (m_iconst (q := 41) rfl rfl rfl) ?_
    refine ok (m_iadd (q := 42) rfl rfl rfl) ?_
    refine ok (m_istore (q := 44) (lo' := [some (am_r (some 70)), some (am_i (wz a1)), some (am_i (wz a2)), some (am_i (wz a3)), some (am_i (wz a4)), some (am_i (wz (wr (a4 + 1))))]) rfl rfl rfl rfl rfl) ?_
    exact hp d hd _ hr
set_option maxRecDepth 100000 in
theorem rl_X12_twice_44 {n : Nat} {A : aA} {D D' : aD} (a1 : Int) (a2 : Int) (a3 : Int) (a4 : Int) (a5 : Int) (h1 : rg a1) (h2 : rg a2) (h3 : rg a3) (h4 : rg a4) (h5 : rg a5) {x : Int} (hp : (if D 70 4 ≤ a5 then K_X12_twice_29 (n) A D a1 a2 a3 (wr (a4 + 1)) x D' else (0 ≤ a4 ∧ a4 < 60) ∧ (if D 83 a4 = a1 then (0 ≤ a5 ∧ a5 < 60) ∧ (if D 83 a5 = a1 then (p_X12_isKnown D a4 a2) ∧ (if v_X12_isKnown D a4 a2 = 0 then K_X12_twice_44 (n) A D a1 a2 a3 a4 (wr (a5 + 1)) x D' else (p_X12_isKnown D a5 a2) ∧ (if v_X12_isKnown D a5 a2 = 0 then K_X12_twice_44 (n) A D a1 a2 a3 a4 (wr (a5 + 1)) x D' else (p_X12_endOf D a4 a2) ∧ (p_X12_endOf D a5 a2) ∧ (if min (v_X12_endOf D a4 a2) (v_X12_endOf D a5 a2) ≤ max (D 85 a4) (D 85 a5) then K_X12_twice_44 (n) A D a1 a2 a3 a4 (wr (a5 + 1)) x D' else (if a3 = 0 then (x = a4 ∧ D' = D) else (x = a5 ∧ D' = D))))) else K_X12_twice_44 (n) A D a1 a2 a3 a4 (wr (a5 + 1)) x D') else K_X12_twice_44 (n) A D a1 a2 a3 a4 (wr (a5 + 1)) x D'))) : K_X12_twice_44 (n) A D a1 a2 a3 a4 a5 x D' := by
  unfold K_X12_twice_44
  refine fun d hd s hr => ?_
  refine ok (m_iload (q := 46) rfl rfl rfl rfl) ?_
  refine ok (m_aload_n (q := 47) rfl rfl rfl rfl) ?_
  refine ok (m_gfs (z := 4) (q := 50) rfl rfl rfl hr rfl rfl rfl rfl rfl) ?_
  refine okc (m_cmpge (qt := 153) (qf := 53) rfl rfl h5 (Rp_rg hr 70 4) rfl rfl) (fun c11 => ?_) (fun c11 => ?_)
  · replace hp := ip c11 hp
    refine ok (m_iinc (q := 156) (lo' := [some (am_r (some 70)), some (am_i (wz a1)), some (am_i (wz a2)), some (am_i (wz a3)), some (am_i (wz (wr (a4 + 1)))), some (am_i (wz a5))]) rfl rfl rfl rfl rfl rfl rfl) ?_
    refine ok (m_goto (q := 29) rfl rfl rfl) ?_
    refine ok (mk rfl (lo' := [some (am_r (some 70)), some (am_i (wz a1)), some (am_i (wz a2)), some (am_i (wz a3)), some (am_i (wz (wr (a4 + 1)))), none]) rfl) ?_
    exact hp d hd _ hr
  · replace hp := iq c11 hp
    refine ok (m_aload_n (q := 54) rfl rfl rfl rfl) ?_
    refine ok (m_gfc (q := 57) rfl rfl rfl hr rfl rfl rfl) ?_
    refine ok (m_iload (q := 59) rfl rfl rfl rfl) ?_
    obtain ⟨g12, hp⟩ := hp
    refine ok (m_ials (q := 60) rfl rfl rfl hr rfl rfl g12 rfl) ?_
    refine ok (m_iload_n (q := 61) rfl rfl rfl rfl) ?_
    refine okc (m_cmpne (qt := 147) (qf := 64) rfl rfl (Rp_rg hr 83 a4) h1 rfl rfl) (fun c13 => ?_) (fun c13 => ?_)
    · replace hp := ip c13 hp
      refine ok (m_aload_n (q := 65) rfl rfl rfl rfl) ?_
      refine ok (m_gfc (q := 68) rfl rfl rfl hr rfl rfl rfl) ?_
      refine ok (m_iload (q := 70) rfl rfl rfl rfl) ?_
      obtain ⟨g14, hp⟩ := hp
      refine ok (m_ials (q := 71) rfl rfl rfl hr rfl rfl g14 rfl) ?_
      refine ok (m_iload_n (q := 72) rfl rfl rfl rfl) ?_
      refine okc (m_cmpne (qt := 147) (qf := 75) rfl rfl (Rp_rg hr 83 a5) h1 rfl rfl) (fun c15 => ?_) (fun c15 => ?_)
      · replace hp := ip c15 hp
        refine ok (m_aload_n (q := 76) rfl rfl rfl rfl) ?_
        refine ok (m_iload (q := 78) rfl rfl rfl rfl) ?_
        refine ok (m_iload_n (q := 79) rfl rfl rfl rfl) ?_
        obtain ⟨g18, hp⟩ := hp
        refine oke (e_ci (x_cv (q := 82) rfl rfl rfl rfl rfl rfl rfl rfl rfl rfl (is_st hr rfl rfl)) (ev_X12_isKnown (D := D) a4 a2 h4 h2 g18) (Nat.le_trans (by decide) hd) hr) (fun s16 r17 => ?_)
        refine okc (m_ifeq (qt := 147) (qf := 85) rfl rfl (Ev_rg (ev_X12_isKnown (D := D) a4 a2 h4 h2 g18) hr) rfl rfl) (fun c19 => ?_) (fun c19 => ?_)
        · replace hp := ip c19 hp
          refine ok (m_iinc (q := 150) (lo' := [some (am_r (some 70)), some (am_i (wz a1)), some (am_i (wz a2)), some (am_i (wz a3)), some (am_i (wz a4)), some (am_i (wz (wr (a5 + 1))))]) rfl rfl rfl rfl rfl rfl rfl) ?_
          refine ok (m_goto (q := 44) rfl rfl rfl) ?_
          exact hp d hd _ r17
        · replace hp := iq c19 hp
          refine ok (m_aload_n (q := 86) rfl rfl rfl rfl) ?_
          refine ok (m_iload (q := 88) rfl rfl rfl rfl) ?_
          refine ok (m_iload_n (q := 89) rfl rfl rfl rfl) ?_
          obtain ⟨g22, hp⟩ := hp
          refine oke (e_ci (x_cv (q := 92) rfl rfl rfl rfl rfl rfl rfl rfl rfl rfl (is_st r17 rfl rfl)) (ev_X12_isKnown (D := D) a5 a2 h5 h2 g22) (Nat.le_trans (by decide) hd) r17) (fun s20 r21 => ?_)
          refine okc (m_ifne (qt := 98) (qf := 95) rfl rfl (Ev_rg (ev_X12_isKnown (D := D) a5 a2 h5 h2 g22) r17) rfl rfl) (fun c23 => ?_) (fun c23 => ?_)
          · replace hp := ip c23 hp
            refine ok (m_goto (q := 147) rfl rfl rfl) ?_
            refine ok (m_iinc (q := 150) (lo' := [some (am_r (some 70)), some (am_i (wz a1)), some (am_i (wz a2)), some (am_i (wz a3)), some (am_i (wz a4)), some (am_i (wz (wr (a5 + 1))))]) rfl rfl rfl rfl rfl rfl rfl) ?_
            refine ok (m_goto (q := 44) rfl rfl rfl) ?_
            exact hp d hd _ r21
          · replace hp := iq c23 hp
            refine ok (m_aload_n (q := 99) rfl rfl rfl rfl) ?_
            refine ok (m_gfc (q := 102) rfl rfl rfl r21 rfl rfl rfl) ?_
            refine ok (m_iload (q := 104) rfl rfl rfl rfl) ?_
            refine ok (m_ials (q := 105) rfl rfl rfl r21 rfl rfl g12 rfl) ?_
            refine ok (m_aload_n (q := 106) rfl rfl rfl rfl) ?_
            refine ok (m_gfc (q := 109) rfl rfl rfl r21 rfl rfl rfl) ?_
            refine ok (m_iload (q := 111) rfl rfl rfl rfl) ?_
            refine ok (m_ials (q := 112) rfl rfl rfl r21 rfl rfl g14 rfl) ?_
            refine ok (m_max (q := 115) rfl rfl rfl (Rp_rg r21 85 a4) (Rp_rg r21 85 a5) rfl) ?_
            refine ok (m_aload_n (q := 116) rfl rfl rfl rfl) ?_
            refine ok (m_iload (q := 118) rfl rfl rfl rfl) ?_
            refine ok (m_iload_n (q := 119) rfl rfl rfl rfl) ?_
            obtain ⟨g26, hp⟩ := hp
            refine oke (e_ci (x_cv (q := 122) rfl rfl rfl rfl rfl rfl rfl rfl rfl rfl (is_st r21 rfl rfl)) (ev_X12_endOf (D := D) a4 a2 h4 h2 g26) (Nat.le_trans (by decide) hd) r21) (fun s24 r25 => ?_)
            refine ok (m_aload_n (q := 123) rfl rfl rfl rfl) ?_
            refine ok (m_iload (q := 125) rfl rfl rfl rfl) ?_
            refine ok (m_iload_n (q := 126) rfl rfl rfl rfl) ?_
            obtain ⟨g29, hp⟩ := hp
            refine oke (e_ci (x_cv (q := 129) rfl rfl rfl rfl rfl rfl rfl rfl rfl rfl (is_st r25 rfl rfl)) (ev_X12_endOf (D := D) a5 a2 h5 h2 g29) (Nat.le_trans (by decide) hd) r25) (fun s27 r28 => ?_)
            refine ok (m_min (q := 132) rfl rfl rfl (Ev_rg (ev_X12_endOf (D := D) a4 a2 h4 h2 g26) r21) (Ev_rg (ev_X12_endOf (D := D) a5 a2 h5 h2 g29) r25) rfl) ?_
            refine okc (m_cmpge (qt := 147) (qf := 135) rfl rfl (rg_max (Rp_rg r21 85 a4) (Rp_rg r21 85 a5)) (rg_min (Ev_rg (ev_X12_endOf (D := D) a4 a2 h4 h2 g26) r21) (Ev_rg (ev_X12_endOf (D := D) a5 a2 h5 h2 g29) r25)) rfl rfl) (fun c30 => ?_) (fun c30 => ?_)
            · replace hp := ip c30 hp
              refine ok (m_iinc (q := 150) (lo' := [some (am_r (some 70)), some (am_i (wz a1)), some (am_i (wz a2)), some (am_i (wz a3)), some (am_i (wz a4)), some (am_i (wz (wr (a5 + 1))))]) rfl rfl rfl rfl rfl rfl rfl) ?_
              refine ok (m_goto (q := 44) rfl rfl rfl) ?_
              exact hp d hd _ r28
            · replace hp := iq c30 hp
              refine ok (m_iload_n (q := 136) rfl rfl rfl rfl) ?_
              refine okc (m_ifne (qt := 144) (qf := 139) rfl rfl h3 rfl rfl) (fun c31 => ?_) (fun c31 => ?_)
              · replace hp := ip c31 hp
                refine ok (m_iload (q := 141) rfl rfl rfl rfl) ?_
                refine ok (m_goto (q := 146) rfl rfl rfl) ?_
                exact ok (m_reti rfl rfl) (ok_iq r28 h4 hp)
              · replace hp := iq c31 hp
                refine ok (m_iload (q := 146) rfl rfl rfl rfl) ?_
                exact ok (m_reti rfl rfl) (ok_iq r28 h5 hp)
      · replace hp := iq c15 hp
        refine ok (m_iinc (q := 150) (lo' := [some (am_r (some 70)), some (am_i (wz a1)), some (am_i (wz a2)), some (am_i (wz a3)), some (am_i (wz a4)), some (am_i (wz (wr (a5 + 1))))]) rfl rfl rfl rfl rfl rfl rfl) ?_
        refine ok (m_goto (q := 44) rfl rfl rfl) ?_
        exact hp d hd _ hr
    · replace hp := iq c13 hp
      refine ok (m_iinc (q := 150) (lo' := [some (am_r (some 70)), some (am_i (wz a1)), some (am_i (wz a2)), some (am_i (wz a3)), some (am_i (wz a4)), some (am_i (wz (wr (a5 + 1))))]) rfl rfl rfl rfl rfl rfl rfl) ?_
      refine ok (m_goto (q := 44) rfl rfl rfl) ?_
      exact hp d hd _ hr
def tP (D : aD) (s k p : Int) : Bool := decide (D 83 p = s ∧ ¬ w_beside D p k = -1)
def twF (D : aD) (s k w j : Int) : Int := if fsi (tP D s k) j (D 70 4) = -1 then -1 else if w = 0 then fsi (tP D s k) j (D 70 4) else w_beside D (fsi (tP D s k) j (D 70 4)) k
theorem twF_end {s k w j : Int} (h : D 70 4 ≤ j) : twF D s k w j = -1 := by unfold twF; rw [fsi_end h]; rfl
theorem twF_f {s k w j : Int} (h : j < D 70 4) (hp : tP D s k j = false) : twF D s k w j = twF D s k w (j + 1) := by unfold twF; rw [fsi_f h hp]
theorem twF_t {s k w j : Int} (h : j < D 70 4) (h0 : 0 ≤ j) (hp : tP D s k j = true) : twF D s k w j = if w = 0 then j else w_beside D j k := by unfold twF; rw [fsi_t h hp, if_neg (by omega)]
theorem beside_b {p k : Int} (p0 : 0 ≤ p) (h : D 70 4 ≤ 60) : rg (w_beside D p k) := by
  unfold w_beside
  split
  · exact rgb (by omega) (by omega)
  · rcases fsi_spec (p := twP D k p) (N := D 70 4) (p + 1) with q | q <;> exact rgb (by omega) (by omega)
theorem twice_rg {s k w : Int} (h : 0 ≤ D 70 4) (h6 : D 70 4 ≤ 60) : rg (twF D s k w 0) := by
  unfold twF
  rcases fsi_spec (p := tP D s k) (N := D 70 4) 0 with q | q
  · rw [if_pos q.1]; exact rgb (by omega) (by omega)
  · rw [if_neg (by omega)]
    split
    · exact rgb (by omega) (by omega)
    · exact beside_b (by omega) h6
theorem K_twice {s k w : Int} (h1 : rg s) (h2 : rg k) (h3 : rg w) (hI : Iv D) (hk : 0 ≤ k ∧ k ≤ 999) : K_X11_twice_29 n A D s k w 0 (twF D s k w 0) D := by
  have hc := hI.ct; unfold I_ct at hc
  refine dn_ind (K := fun j => K_X11_twice_29 n A D s k w j (twF D s k w j) D) (lo := 0) (N := D 70 4) ?_ ?_ 0 (by omega) (by omega)
  · refine rl_X11_twice_29 _ _ _ _ h1 h2 h3 (rgb (by omega) (by omega)) ?_
    rw [if_pos (by omega), twF_end (Int.le_refl _)]; exact ⟨rfl, rfl⟩
  · intro j j0 j1 ih
    refine rl_X11_twice_29 _ _ _ _ h1 h2 h3 (rgb (by omega) (by omega)) ?_
    rw [if_neg (by omega), wr1 j0 j1 (by omega), srv_eq hI j0 j1]
    refine ⟨⟨by omega, by omega⟩, ?_⟩
    by_cases c1 : D 83 j = s
    · rw [if_pos c1]
      refine ⟨⟨hI, hk, j0, j1⟩, ?_⟩
      by_cases c2 : w_beside D j k = -1
      · rw [if_pos c2, twF_f j1 (by unfold tP; exact decide_eq_false (fun q => q.2 c2))]; exact ih
      · rw [if_neg c2, twF_t j1 j0 (by unfold tP; exact decide_eq_true ⟨c1, c2⟩)]
        split <;> exact ⟨rfl, rfl⟩
    · rw [if_neg c1, twF_f j1 (by unfold tP; exact decide_eq_false (fun q => c1 q.1))]; exact ih
theorem K_twice44 {s k w p : Int} (h1 : rg s) (h2 : rg k) (h3 : rg w) (hI : Iv D) (p0 : 0 ≤ p) (p1 : p < D 70 4) (hn : K_X12_twice_29 n A D s k w (p + 1) (twF D s k w (p + 1)) D) : ∀ j, p + 1 ≤ j → j ≤ D 70 4 → K_X12_twice_44 n A D s k w p j (if D 83 p = s ∧ ¬ v_X12_isKnown D p k = 0 ∧ ¬ fsi (twP D k p) j (D 70 4) = -1 then (if w = 0 then p else fsi (twP D k p) j (D 70 4)) else twF D s k w (p + 1)) D := by
  have hc := hI.ct; unfold I_ct at hc
  refine dn_ind (lo := p + 1) (N := D 70 4) ?_ ?_
  · refine rl_X12_twice_44 _ _ _ _ _ h1 h2 h3 (rgb (by omega) (by omega)) (rgb (by omega) (by omega)) ?_
    rw [if_pos (Int.le_refl _), if_neg (fun q => q.2.2 (fsi_end (Int.le_refl _))), wr1 p0 p1 (by omega)]; exact hn
  · intro j j0 j1 ih
    refine rl_X12_twice_44 _ _ _ _ _ h1 h2 h3 (rgb (by omega) (by omega)) (rgb (by omega) (by omega)) ?_
    rw [if_neg (by omega), wr1 (by omega) j1 (by omega)]
    refine ⟨⟨by omega, by omega⟩, ?_⟩
    by_cases c1 : D 83 p = s
    · rw [if_pos c1]
      refine ⟨⟨by omega, by omega⟩, ?_⟩
      by_cases c2 : D 83 j = s
      · rw [if_pos c2]
        refine ⟨⟨by omega, by omega⟩, ?_⟩
        by_cases c3 : v_X12_isKnown D p k = 0
        · rw [if_pos c3, if_neg (fun q => q.2.1 c3)]
          rw [if_neg (fun q => q.2.1 c3)] at ih; exact ih
        · rw [if_neg c3]
          refine ⟨⟨by omega, by omega⟩, ?_⟩
          by_cases c4 : v_X12_isKnown D j k = 0
          · rw [if_pos c4, fsi_f j1 (by unfold twP; exact decide_eq_false (fun q => q.2.1 c4))]; exact ih
          · rw [if_neg c4]
            refine ⟨⟨by omega, by omega⟩, ⟨by omega, by omega⟩, ?_⟩
            by_cases c5 : min (v_X12_endOf D p k) (v_X12_endOf D j k) ≤ max (D 85 p) (D 85 j)
            · rw [if_pos c5, fsi_f j1 (by unfold twP; exact decide_eq_false (fun q => by omega))]; exact ih
            · rw [if_neg c5, fsi_t j1 (by unfold twP; exact decide_eq_true ⟨c2.trans c1.symm, c4, by omega⟩), if_pos (show D 83 p = s ∧ ¬ v_X12_isKnown D p k = 0 ∧ ¬ j = -1 from ⟨c1, c3, by omega⟩)]
              split <;> exact ⟨rfl, rfl⟩
      · rw [if_neg c2, fsi_f j1 (by unfold twP; exact decide_eq_false (fun q => c2 (q.1.trans c1)))]; exact ih
    · rw [if_neg c1, if_neg (fun q => c1 q.1)]
      rw [if_neg (fun q => c1 q.1)] at ih; exact ih
theorem K_twice29 {s k w : Int} (h1 : rg s) (h2 : rg k) (h3 : rg w) (hI : Iv D) : K_X12_twice_29 n A D s k w 0 (twF D s k w 0) D := by
  have hc := hI.ct; unfold I_ct at hc
  refine dn_ind (K := fun j => K_X12_twice_29 n A D s k w j (twF D s k w j) D) (lo := 0) (N := D 70 4) ?_ ?_ 0 (by omega) (by omega)
  · refine rl_X12_twice_29 _ _ _ _ h1 h2 h3 (rgb (by omega) (by omega)) ?_
    rw [if_pos (by omega), twF_end (Int.le_refl _)]; exact ⟨rfl, rfl⟩
  · intro j j0 j1 ih
    refine rl_X12_twice_29 _ _ _ _ h1 h2 h3 (rgb (by omega) (by omega)) ?_
    rw [if_neg (by omega), wr1 j0 j1 (by omega)]
    have h := K_twice44 h1 h2 h3 hI j0 j1 ih (j + 1) (Int.le_refl _) (by omega)
    by_cases c1 : D 83 j = s ∧ ¬ v_X12_isKnown D j k = 0 ∧ ¬ fsi (twP D k j) (j + 1) (D 70 4) = -1
    · have e : w_beside D j k = fsi (twP D k j) (j + 1) (D 70 4) := by unfold w_beside; rw [if_neg c1.2.1]
      rw [if_pos c1] at h
      rw [twF_t j1 j0 (by unfold tP; exact decide_eq_true ⟨c1.1, by rw [e]; exact c1.2.2⟩), e]; exact h
    · rw [if_neg c1] at h
      rw [twF_f j1 ?_]
      · exact h
      · unfold tP
        refine decide_eq_false (fun q => c1 ⟨q.1, ?_⟩)
        have q2 := q.2
        unfold w_beside at q2
        by_cases c3 : v_X12_isKnown D j k = 0
        · rw [if_pos c3] at q2; exact absurd rfl q2
        · rw [if_neg c3] at q2; exact ⟨c3, q2⟩
end G1
