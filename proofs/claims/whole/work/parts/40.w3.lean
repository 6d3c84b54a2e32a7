/-! Leave, box. -/
section W3
variable {A : aA} {D : aD}
theorem lt_eq (hI : Inv D) {p : Int} (p0 : 0 ≤ p) (p1 : p < D 70 3) : (0 ≤ D 75 (D 77 p) ∧ D 75 (D 77 p) < 5) ∧ D 2102 p = D 75 (D 77 p) ∧ D 33 (D 75 (D 77 p)) = D 76 (D 75 (D 77 p)) ∧ 0 ≤ D 76 (D 75 (D 77 p)) ∧ D 76 (D 75 (D 77 p)) ≤ 30 ∧ 0 ≤ D 77 p ∧ D 77 p < 12 := by
  have hc := hI.iv.ct; unfold I_ct at hc
  have h := hI.iv.pl p p0 p1
  have hh := hI.iv.hs (D 77 p) (by omega) (by omega)
  have hl := hI.iv.lg (D 75 (D 77 p)) (by omega) (by omega)
  exact ⟨by omega, h.2.2.1, hl.1, hl.2.1, hl.2.2, by omega, by omega⟩
theorem c_leave (hI : Inv D) (p d nt cs : Int) (h1 : rg p) (h2 : rg d) (h3 : rg nt) (h4 : rg cs) : Wr 77 137 [am_i (wz p), am_i (wz d), am_i (wz nt), am_i (wz cs)] A D := by
  have hc := hI.iv.ct; unfold I_ct at hc
  by_cases q : ¬ v_X12_isPlacing D p = 0 ∧ ¬ v_X12_isIn D nt 0 99 = 0 ∧ ¬ v_X12_isIn D cs 0 4 = 0 ∧ D 88 p = -1 ∧ ¬ v_X12_isIn D d (D 85 p) (D 70 0) = 0
  · obtain ⟨q1, q2, q3, q4, q5⟩ := q
    have z := (isPg hI.iv).mp q1
    have z2 := isI.mp q2
    have z3 := isI.mp q3
    have z5 := isI.mp q5
    have hg := hI.iv.pg p z.1 z.2
    have hl := lt_eq hI (p := D 84 p) (by omega) (by omega)
    have e0 : D 2505 p = -1 := by omega
    have eL : D 33 (D 2102 (D 2502 p)) = D 76 (D 75 (D 77 (D 84 p))) := by rw [hg.2.2.1, hl.2.1, hl.2.2.1]
    have pX : p_X11_leave D p d nt cs := by
      unfold p_X11_leave
      rw [xPg hI.iv, if_neg q1, inb_eq, if_neg q2, inb_eq, if_neg q3, if_pos e0]
      refine ⟨by omega, ?_⟩
      split
      · trivial
      · rw [hg.2.2.1, hl.2.1]; exact hl.1
    have e1 : u_X11_leave D p d nt cs = up (up (up (up D 2505 p d) 2506 p (D 70 0 + D 76 (D 75 (D 77 (D 84 p))))) 2507 p nt) 2508 p cs := by
      unfold u_X11_leave
      rw [xPg hI.iv, if_neg q1, inb_eq, if_neg q2, inb_eq, if_neg q3, if_pos e0, hg.2.2.2.1, hc.1.1, inb_eq, if_neg q5, eL, wr_id (by omega) (by omega)]
    generalize hL : D 70 0 + D 76 (D 75 (D 77 (D 84 p))) = L at e1
    have pM : p_X12_leave (up (up (up (up D 2505 p d) 2506 p L) 2507 p nt) 2508 p cs) p d nt cs := by
      unfold p_X12_leave p_X12_letters v_X12_isPlacing
      simp (disch := decide) only [up_cf]
      have hq : (0 ≤ D 84 p ∧ D 84 p < 30) ∧ (0 ≤ D 77 (D 84 p) ∧ D 77 (D 84 p) < 12) ∧ 0 ≤ D 75 (D 77 (D 84 p)) ∧ D 75 (D 77 (D 84 p)) < 5 := ⟨by omega, by omega, by omega⟩
      repeat' (first | exact hq | apply And.intro | split)
      all_goals first | trivial | omega
    have vM : v_X12_leave (up (up (up (up D 2505 p d) 2506 p L) 2507 p nt) 2508 p cs) p d nt cs = 1 := by
      unfold v_X12_leave v_X12_isPlacing
      simp (disch := decide) only [up_cf]
      rw [if_neg (by exact q1), if_neg (by exact q5), if_neg (by exact q2), if_neg (by exact q3), if_pos q4]
    have e2 : u_X12_leave (up (up (up (up D 2505 p d) 2506 p L) 2507 p nt) 2508 p cs) p d nt cs = up (up (up (up (up (up (up (up D 2505 p d) 2506 p L) 2507 p nt) 2508 p cs) 88 p d) 89 p nt) 90 p cs) 91 p L := by
      unfold u_X12_leave v_X12_isPlacing v_X12_letters
      simp (disch := decide) only [up_cf]
      rw [if_neg (by exact q1), if_neg (by exact q5), if_neg (by exact q2), if_neg (by exact q3), if_pos q4, hL, wr_id (by omega) (by omega)]
    have e3 : v_X11_leave D p d nt cs = 1 := by
      unfold v_X11_leave
      rw [xPg hI.iv, if_neg q1, inb_eq, if_neg q2, inb_eq, if_neg q3, if_pos e0, hg.2.2.2.1, hc.1.1, inb_eq, if_neg q5]
    refine ⟨1, A, _, _, (Ev_i (Ev_D (ev_X11_leave (n := 0) p d nt cs h1 h2 h3 h4 pX) e1) e3).le (by decide), (Ev_i (Ev_D (ev_X12_leave (n := 0) p d nt cs h1 h2 h3 h4 pM) e2) vM).le (by decide), ⟨?_, ?_⟩, ?_⟩
    · obtain ⟨p1, p2, p3, p4, p5, p6, p7, p8, p9, p10, p11, p12, p13, p14, p15⟩ := hI.iv
      refine iv15 ?_ ?_ ?_ ?_ ?_ ?_ ?_ ?_ ?_ ?_ ?_ ?_ ?_ ?_ ?_
      · simpa (disch := decide) only [I_ct, up_cf, up_i, up_eq] using p1
      · simpa (disch := decide) only [I_cu, up_cf, up_i, up_eq] using p2
      · simpa (disch := decide) only [I_tp, up_cf, up_i, up_eq] using p3
      · simpa (disch := decide) only [I_lg, up_cf, up_i, up_eq] using p4
      · simpa (disch := decide) only [I_hs, up_cf, up_i, up_eq] using p5
      · simpa (disch := decide) only [I_sv, up_cf, up_i, up_eq] using p6
      · simpa (disch := decide) only [I_pl, up_cf, up_i, up_eq] using p7
      · simp (disch := decide) only [I_pg, up_cf, up_i, up_eq]
        intro i i0 i1
        have h := p8 i i0 i1
        by_cases c : i = p
        · subst c; simp only [up_eq]
          refine ⟨h.1, h.2.1, h.2.2.1, h.2.2.2.1, h.2.2.2.2.1, trivial, ?_, h.2.2.2.2.2.2.2.1, ?_⟩
          · rw [if_neg (by omega)]
          · have hL1 : 0 ≤ L ∧ L ≤ 1029 := by omega
            refine ⟨h.2.2.2.2.2.2.2.2.1, h.2.2.2.2.2.2.2.2.2.1, h.2.2.2.2.2.2.2.2.2.2.1, h.2.2.2.2.2.2.2.2.2.2.2.1, h.2.2.2.2.2.2.2.2.2.2.2.2.1, h.2.2.2.2.2.2.2.2.2.2.2.2.2.1, h.2.2.2.2.2.2.2.2.2.2.2.2.2.2.1, h.2.2.2.2.2.2.2.2.2.2.2.2.2.2.2.1, h.2.2.2.2.2.2.2.2.2.2.2.2.2.2.2.2.1, Or.inr ⟨z5.1, z5.2, hL1.1, hL1.2, trivial, trivial, z2.1, z2.2, z3.1, z3.2⟩⟩
        · simp only [up_i c]; exact h
      · simpa (disch := decide) only [I_bx, up_cf, up_i, up_eq] using p9
      · simpa (disch := decide) only [I_tm, up_cf, up_i, up_eq] using p10
      · simpa (disch := decide) only [I_ak, v_X12_ageOn, up_cf, up_i, up_eq] using p11
      · simpa (disch := decide) only [I_ws, up_cf, up_i, up_eq] using p12
      · simpa (disch := decide) only [I_wf, up_cf, up_i, up_eq] using p13
      · simpa (disch := decide) only [I_td, up_cf, up_i, up_eq] using p14
      · simpa (disch := decide) only [I_cn, up_cf, up_i, up_eq] using p15
    · exact Irb_k (fun c q => by rw [up_cf (nrb q rfl), up_cf (nrb q rfl), up_cf (nrb q rfl), up_cf (nrb q rfl), up_cf (nrb q rfl), up_cf (nrb q rfl), up_cf (nrb q rfl), up_cf (nrb q rfl)]) (by simp (disch := decide) only [up_cf]; exact ⟨trivial, trivial⟩) (fun l _ => by simp (disch := decide) only [up_cf]) hI.rb
    · unfold Fr; simp (disch := decide) only [up_cf]; exact ⟨trivial, trivial, by omega, by omega, by first | exact id | trivial⟩
  · have hX : v_X11_leave D p d nt cs = 0 ∧ u_X11_leave D p d nt cs = D ∧ p_X11_leave D p d nt cs := by
      unfold v_X11_leave u_X11_leave p_X11_leave
      rw [xPg hI.iv, inb_eq, inb_eq, inb_eq]
      by_cases c1 : v_X12_isPlacing D p = 0
      · rw [if_pos c1, if_pos c1, if_pos c1]; exact ⟨rfl, rfl, trivial⟩
      have z := (isPg hI.iv).mp c1
      have hg := hI.iv.pg p z.1 z.2
      rw [if_neg c1, if_neg c1, if_neg c1]
      by_cases c2 : v_X12_isIn D nt 0 99 = 0
      · rw [if_pos c2, if_pos c2, if_pos c2]; exact ⟨rfl, rfl, trivial⟩
      rw [if_neg c2, if_neg c2, if_neg c2]
      by_cases c3 : v_X12_isIn D cs 0 4 = 0
      · rw [if_pos c3, if_pos c3, if_pos c3]; exact ⟨rfl, rfl, trivial⟩
      rw [if_neg c3, if_neg c3, if_neg c3, hg.2.2.2.2.2.1, hg.2.2.2.1, hc.1.1]
      have hz : 0 ≤ p ∧ p < D 1002 5 := by omega
      by_cases c4 : D 88 p = -1
      · rw [if_pos c4, if_pos c4, if_pos c4]
        have c5 : v_X12_isIn D d (D 85 p) (D 70 0) = 0 := Decidable.not_not.mp (fun c5 => q ⟨c1, c2, c3, c4, c5⟩)
        rw [if_pos c5, if_pos c5, if_pos c5]; exact ⟨rfl, rfl, hz, trivial⟩
      · rw [if_neg c4, if_neg c4, if_neg c4]; exact ⟨rfl, rfl, hz, trivial⟩
    have hM : v_X12_leave D p d nt cs = 0 ∧ u_X12_leave D p d nt cs = D ∧ p_X12_leave D p d nt cs := by
      unfold v_X12_leave u_X12_leave p_X12_leave
      by_cases c1 : v_X12_isPlacing D p = 0
      · rw [if_pos c1, if_pos c1, if_pos c1]; exact ⟨rfl, rfl, trivial⟩
      have z := (isPg hI.iv).mp c1
      have hz : 0 ≤ p ∧ p < 60 := by omega
      rw [if_neg c1, if_neg c1, if_neg c1]
      by_cases c5 : v_X12_isIn D d (D 85 p) (D 70 0) = 0
      · rw [if_pos c5, if_pos c5, if_pos c5]; exact ⟨rfl, rfl, hz, trivial⟩
      rw [if_neg c5, if_neg c5, if_neg c5]
      by_cases c2 : v_X12_isIn D nt 0 99 = 0
      · rw [if_pos c2, if_pos c2, if_pos c2]; exact ⟨rfl, rfl, hz, trivial⟩
      rw [if_neg c2, if_neg c2, if_neg c2]
      by_cases c3 : v_X12_isIn D cs 0 4 = 0
      · rw [if_pos c3, if_pos c3, if_pos c3]; exact ⟨rfl, rfl, hz, trivial⟩
      rw [if_neg c3, if_neg c3, if_neg c3]
      have c4 : ¬ D 88 p = -1 := fun c4 => q ⟨c1, c2, c3, c4, c5⟩
      rw [if_neg c4, if_neg c4, if_neg c4]; exact ⟨rfl, rfl, hz, trivial⟩
    exact Rd.wr ⟨0, (Ev_i (Ev_D (ev_X11_leave (n := 0) p d nt cs h1 h2 h3 h4 hX.2.2) hX.2.1) hX.1).le (by decide), (Ev_i (Ev_D (ev_X12_leave (n := 0) p d nt cs h1 h2 h3 h4 hM.2.2) hM.2.1) hM.1).le (by decide)⟩ hI
abbrev P_X11_box : Nat → Option am_E := am_fy tb_X11_box
def v_X11_box (D : aD) (a1 : Int) (a2 : Int) : Int := if v_X11_isPlacing D a1 = 0 then (-1) else if v_X11_between D a2 1 9999 = 0 then (-1) else if 30 ≤ D 32 16 then (-1) else if D 2510 a1 = 0 then min a2 (D 2409 (w_bookOf D (D 32 14))) else (-1)
def u_X11_box (D : aD) (a1 : Int) (a2 : Int) : aD := if v_X11_isPlacing D a1 = 0 then D else if v_X11_between D a2 1 9999 = 0 then D else if 30 ≤ D 32 16 then D else if D 2510 a1 = 0 then (up (up (up D 2510 a1 1) 32 16 (wr ((D 32 16) + 1))) 32 17 (wr ((D 32 17) + (min a2 (D 2409 (w_bookOf D (D 32 14))))))) else D
def p_X11_box (D : aD) (a1 : Int) (a2 : Int) : Prop := (if v_X11_isPlacing D a1 = 0 then True else (if v_X11_between D a2 1 9999 = 0 then True else (if 30 ≤ D 32 16 then True else (0 ≤ a1 ∧ a1 < D 1002 5) ∧ (if D 2510 a1 = 0 then (p_inv1 D (D 32 14)) else True))))
set_option maxRecDepth 100000 in
theorem ev_X11_box {n : Nat} {A : aA} {D : aD} (a1 : Int) (a2 : Int) (h1 : rg a1) (h2 : rg a2) (hp : p_X11_box D a1 a2) : Ev (n) 6 104 [am_r (some 32), am_i (wz a1), am_i (wz a2)] A D (ri (v_X11_box D a1 a2)) A (u_X11_box D a1 a2) := by
  unfold p_X11_box at hp
  unfold v_X11_box u_X11_box
  refine Ev_of (c := 5) (P := P_X11_box) (lo := [some (am_r (some 32)), some (am_i (wz a1)), some (am_i (wz a2)), none]) rfl rfl rfl (fun d hd s hr => ?_)
  refine ok (m_aload_n (q := 1) rfl rfl rfl rfl) ?_
  refine ok (m_iload_n (q := 2) rfl rfl rfl rfl) ?_
  refine oke (e_ci (x_cv (q := 5) rfl rfl rfl rfl rfl rfl rfl rfl rfl rfl (is_st hr rfl rfl)) (ev_X11_isPlacing (D := D) a1 h1) (Nat.le_trans (by decide) hd) hr) (fun s1 r2 => ?_)
  refine okf (m_ifeq (qt := 48) (qf := 8) rfl rfl (Ev_rg (ev_X11_isPlacing (D := D) a1 h1) hr) rfl rfl) (fun c3 => ?_) (fun c3 => ?_)
  · refine ok (m_iconst (q := 49) rfl rfl rfl) ?_
    exact ok (m_reti rfl rfl) (ok_i r2 ⟨by decide, by decide⟩)
  · replace hp := iq c3 hp
    refine ok (m_iload_n (q := 9) rfl rfl rfl rfl) ?_
    refine ok (m_iconst (q := 10) rfl rfl rfl) ?_
    refine ok (m_sipush (q := 13) rfl rfl rfl) ?_
    refine oke (e_ci (x_cs (q := 16) rfl rfl rfl rfl rfl rfl rfl rfl rfl) (ev_X11_between (D := D) a2 1 9999 h2 ⟨by decide, by decide⟩ ⟨by decide, by decide⟩) (Nat.le_trans (by decide) hd) r2) (fun s4 r5 => ?_)
    refine okf (m_ifeq (qt := 48) (qf := 19) rfl rfl (Ev_rg (ev_X11_between (D := D) a2 1 9999 h2 ⟨by decide, by decide⟩ ⟨by decide, by decide⟩) r2) rfl rfl) (fun c6 => ?_) (fun c6 => ?_)
    · refine ok (m_iconst (q := 49) rfl rfl rfl) ?_
      exact ok (m_reti rfl rfl) (ok_i r5 ⟨by decide, by decide⟩)
    · replace hp := iq c6 hp
      refine ok (m_aload_n (q := 20) rfl rfl rfl rfl) ?_
      refine ok (m_gfs (z := 16) (q := 23) rfl rfl rfl r5 rfl rfl rfl rfl rfl) ?_
      refine ok (m_bipush (q := 25) rfl rfl rfl) ?_
      refine okf (m_cmpge (qt := 48) (qf := 28) rfl rfl (Rp_rg r5 32 16) ⟨by decide, by decide⟩ rfl rfl) (fun c7 => ?_) (fun c7 => ?_)
      · refine ok (m_iconst (q := 49) rfl rfl rfl) ?_
        exact ok (m_reti rfl rfl) (ok_i r5 ⟨by decide, by decide⟩)
      · replace hp := iq c7 hp
        refine ok (m_aload_n (q := 29) rfl rfl rfl rfl) ?_
        refine ok (m_gfc (q := 32) rfl rfl rfl r5 rfl rfl rfl) ?_
        have f_8 := Rp_fx0_5 r5
        refine ok (m_gfy (q := 35) rfl rfl rfl r5 rfl rfl rfl) ?_
        refine ok (m_iload_n (q := 36) rfl rfl rfl rfl) ?_
        obtain ⟨g11, hp⟩ := hp
        have f_12 := Rp_el5 (D := D) r5 g11
        refine oke (e_cr (x_cv (q := 39) rfl rfl rfl rfl rfl rfl rfl rfl rfl rfl (is_ty r5 rfl f_8)) (ev_get5 a1 g11) (Nat.le_trans (by decide) hd) r5) (fun s9 r10 => ?_)
        refine ok (m_cast (q := 42) rfl rfl rfl (isN_ty r10 rfl f_12)) ?_
        refine ok (m_gft (t := 15) (q := 45) rfl rfl rfl r10 rfl f_12 rfl rfl rfl) ?_
        refine okf (m_ifeq (qt := 50) (qf := 48) rfl rfl (show rg (D 2510 a1) from Rp_rg r10 2510 a1) rfl rfl) (fun c13 => ?_) (fun c13 => ?_)
        · replace hp := ip c13 hp
          refine ok (m_iload_n (q := 51) rfl rfl rfl rfl) ?_
          refine ok (m_aload_n (q := 52) rfl rfl rfl rfl) ?_
          refine ok (m_aload_n (q := 53) rfl rfl rfl rfl) ?_
          refine ok (m_gfs (z := 14) (q := 56) rfl rfl rfl r10 rfl rfl rfl rfl rfl) ?_
          have g16 := hp
          refine oke (e_cr (x_cv (q := 59) rfl rfl rfl rfl rfl rfl rfl rfl rfl rfl (is_st r10 rfl rfl)) (ev_X11_bookOf (D := D) (D 32 14) (Rp_rg r10 32 14) g16) (Nat.le_trans (by decide) hd) r10) (fun s14 r15 => ?_)
          refine ok (m_gft (t := 14) (q := 62) rfl rfl rfl r15 rfl (fg_bookOf (D := D) (D 32 14) (Rp_rg r10 32 14) g16 r10) rfl rfl rfl) ?_
          refine ok (m_min (q := 65) rfl rfl rfl h2 (show rg (D 2409 (w_bookOf D (D 32 14))) from Rp_rg r15 2409 (w_bookOf D (D 32 14))) rfl) ?_
          refine ok (m_istore_n (q := 66) (lo' := [some (am_r (some 32)), some (am_i (wz a1)), some (am_i (wz a2)), some (am_i (wz (min a2 (D 2409 (w_bookOf D (D 32 14))))))]) rfl rfl rfl rfl rfl) ?_
          refine ok (m_aload_n (q := 67) rfl rfl rfl rfl) ?_
          refine ok (m_gfc (q := 70) rfl rfl rfl r15 rfl rfl rfl) ?_
          have f_17 := Rp_fx0_5 r15
          refine ok (m_gfy (q := 73) rfl rfl rfl r15 rfl rfl rfl) ?_
          refine ok (m_iload_n (q := 74) rfl rfl rfl rfl) ?_
          have f_20 := Rp_el5 (D := D) r15 g11
          refine oke (e_cr (x_cv (q := 77) rfl rfl rfl rfl rfl rfl rfl rfl rfl rfl (is_ty r15 rfl f_17)) (ev_get5 a1 g11) (Nat.le_trans (by decide) hd) r15) (fun s18 r19 => ?_)
          refine ok (m_cast (q := 80) rfl rfl rfl (isN_ty r19 rfl f_20)) ?_
          refine ok (m_iconst (q := 81) rfl rfl rfl) ?_
          refine oke (e_pfzt (t := 15) (q := 84) rfl rfl rfl r19 rfl rfl f_20 rfl rfl ⟨by decide, by decide⟩) (fun s22 r21 => ?_)
          refine ok (m_aload_n (q := 85) rfl rfl rfl rfl) ?_
          refine ok (m_dup (q := 86) rfl rfl rfl rfl) ?_
          refine ok (m_gfs (z := 16) (q := 89) (w := D 32 16) rfl rfl rfl r21 rfl rfl rfl rfl rfl) ?_
          refine ok (m_iconst (q := 90) rfl rfl rfl) ?_
          refine ok (m_iadd (q := 91) rfl rfl rfl) ?_
          refine oke (e_pfs (q := 94) rfl rfl rfl r21 rfl rfl rfl rfl (rg_wr _)) (fun s24 r23 => ?_)
          refine ok (m_aload_n (q := 95) rfl rfl rfl rfl) ?_
          refine ok (m_dup (q := 96) rfl rfl rfl rfl) ?_
          refine ok (m_gfs (z := 17) (q := 99) (w := D 32 17) rfl rfl rfl r23 rfl rfl rfl rfl rfl) ?_
          refine ok (m_iload_n (q := 100) rfl rfl rfl rfl) ?_
          refine ok (m_iadd (q := 101) rfl rfl rfl) ?_
          refine oke (e_pfs (q := 104) rfl rfl rfl r23 rfl rfl rfl rfl (rg_wr _)) (fun s26 r25 => ?_)
          refine ok (m_iload_n (q := 105) rfl rfl rfl rfl) ?_
          exact ok (m_reti rfl rfl) (ok_i r25 (rg_min h2 (show rg (D 2409 (w_bookOf D (D 32 14))) from Rp_rg r15 2409 (w_bookOf D (D 32 14)))))
        · refine ok (m_iconst (q := 49) rfl rfl rfl) ?_
          exact ok (m_reti rfl rfl) (ok_i r10 ⟨by decide, by decide⟩)
theorem fl_X11_box (D : aD) (a1 : Int) (a2 : Int) (t : Nat) (i : Int) (ht : Nat.ble t 49 = true) : u_X11_box D a1 a2 (900 + t) i = D (900 + t) i := fl_if (rfl) (fl_if (rfl) (fl_if (rfl) (fl_if ((up_c (fl_ne rfl ht)).trans ((up_c (fl_ne rfl ht)).trans ((up_c (fl_ne rfl ht)).trans (rfl)))) (rfl))))
abbrev P_X12_box : Nat → Option am_E := am_fy tb_X12_box
def K_X12_box_5 (n : Nat) (A : aA) (D : aD) (a1 : Int) (a2 : Int) (a3 : Int) (a4 : Int) (x : Int) (D' : aD) : Prop := Lp n 2 P_X12_box 5 [some (am_r (some 70)), some (am_i (wz a1)), some (am_i (wz a2)), some (am_i (wz a3)), some (am_i (wz a4))] [] A D (ri x) A D'
set_option maxRecDepth 100000 in
theorem rl_X12_box {n : Nat} {A : aA} {D D' : aD} (a1 : Int) (a2 : Int) (h1 : rg a1) (h2 : rg a2) {x : Int} (hp : K_X12_box_5 (n) A D a1 a2 0 0 x D') : Ev (n) (3) 208 [am_r (some 70), am_i (wz a1), am_i (wz a2)] A D (ri x) A D' := by
  refine Ev_of (c := 2) (P := P_X12_box) (lo := [some (am_r (some 70)), some (am_i (wz a1)), some (am_i (wz a2)), none, none]) rfl rfl rfl (fun d hd s hr => ?_)
  refine ok (m_iconst (q := 1) rfl rfl rfl) ?_
  refine ok (m_istore_n (q := 2) (lo' := [some (am_r (some 70)), some (am_i (wz a1)), some (am_i (wz a2)), some (am_i (wz 0)), none]) rfl rfl rfl rfl rfl) ?_
  refine ok (m_iconst (q := 3) rfl rfl rfl) ?_
  refine ok (m_istore (q := 5) (lo' := [some (am_r (some 70)), some (am_i (wz a1)), some (am_i (wz a2)), some (am_i (wz 0)), some (am_i (wz 0))]) rfl rfl rfl rfl rfl) ?_
  exact hp d hd _ hr
set_option maxRecDepth 100000 in
theorem rl_X12_box_5 {n : Nat} {A : aA} {D D' : aD} (a1 : Int) (a2 : Int) (a3 : Int) (a4 : Int) (h1 : rg a1) (h2 : rg a2) (h3 : rg a3) (b3 : 0 ≤ a3 ∧ a3 ≤ 1) (h4 : rg a4) {x : Int} (hp : (if D 70 83 ≤ a4 then (if v_X12_isPlacing D a1 = 0 then (x = (-1) ∧ D' = D) else (if v_X12_isIn D a2 1 9999 = 0 then (x = (-1) ∧ D' = D) else (if a3 = 0 then (if D 70 83 = 30 then (x = (-1) ∧ D' = D) else (0 ≤ D 70 83 ∧ D 70 83 < 30) ∧ (p_X12_tells (up (up D 134 (D 70 83) a1) 70 83 (wr ((D 70 83) + 1))) (D 70 0) 7 0 0) ∧ (x = min a2 (v_X12_tells (up (up D 134 (D 70 83) a1) 70 83 (wr ((D 70 83) + 1))) (D 70 0) 7 0 0) ∧ D' = (up (up (up D 134 (D 70 83) a1) 70 83 (wr ((D 70 83) + 1))) 70 84 (wr ((D 70 84) + (min a2 (v_X12_tells (up (up D 134 (D 70 83) a1) 70 83 (wr ((D 70 83) + 1))) (D 70 0) 7 0 0))))))) else (x = (-1) ∧ D' = D)))) else (if a3 = 0 then (0 ≤ a4 ∧ a4 < 30) ∧ (if D 134 a4 = a1 then K_X12_box_5 (n) A D a1 a2 1 (wr (a4 + 1)) x D' else K_X12_box_5 (n) A D a1 a2 0 (wr (a4 + 1)) x D') else K_X12_box_5 (n) A D a1 a2 1 (wr (a4 + 1)) x D'))) : K_X12_box_5 (n) A D a1 a2 a3 a4 x D' := by
  unfold K_X12_box_5
  refine fun d hd s hr => ?_
  refine ok (m_iload (q := 7) rfl rfl rfl rfl) ?_
  refine ok (m_aload_n (q := 8) rfl rfl rfl rfl) ?_
  refine ok (m_gfs (z := 83) (q := 11) rfl rfl rfl hr rfl rfl rfl rfl rfl) ?_
  refine okc (m_cmpge (qt := 41) (qf := 14) rfl rfl h4 (Rp_rg hr 70 83) rfl rfl) (fun c1 => ?_) (fun c1 => ?_)
  · replace hp := ip c1 hp
    refine ok (m_aload_n (q := 42) rfl rfl rfl rfl) ?_
    refine ok (m_iload_n (q := 43) rfl rfl rfl rfl) ?_
    refine oke (e_ci (x_cv (q := 46) rfl rfl rfl rfl rfl rfl rfl rfl rfl rfl (is_st hr rfl rfl)) (ev_X12_isPlacing (D := D) a1 h1) (Nat.le_trans (by decide) hd) hr) (fun s2 r3 => ?_)
    refine okc (m_ifeq (qt := 73) (qf := 49) rfl rfl (Ev_rg (ev_X12_isPlacing (D := D) a1 h1) hr) rfl rfl) (fun c4 => ?_) (fun c4 => ?_)
    · replace hp := ip c4 hp
      refine ok (m_iconst (q := 74) rfl rfl rfl) ?_
      exact ok (m_reti rfl rfl) (ok_iq r3 ⟨by decide, by decide⟩ hp)
    · replace hp := iq c4 hp
      refine ok (m_iload_n (q := 50) rfl rfl rfl rfl) ?_
      refine ok (m_iconst (q := 51) rfl rfl rfl) ?_
      refine ok (m_sipush (q := 54) rfl rfl rfl) ?_
      refine oke (e_ci (x_cs (q := 57) rfl rfl rfl rfl rfl rfl rfl rfl rfl) (ev_X12_isIn (D := D) a2 1 9999 h2 ⟨by decide, by decide⟩ ⟨by decide, by decide⟩) (Nat.le_trans (by decide) hd) r3) (fun s5 r6 => ?_)
      refine okc (m_ifeq (qt := 73) (qf := 60) rfl rfl (Ev_rg (ev_X12_isIn (D := D) a2 1 9999 h2 ⟨by decide, by decide⟩ ⟨by decide, by decide⟩) r3) rfl rfl) (fun c7 => ?_) (fun c7 => ?_)
      · replace hp := ip c7 hp
        refine ok (m_iconst (q := 74) rfl rfl rfl) ?_
        exact ok (m_reti rfl rfl) (ok_iq r6 ⟨by decide, by decide⟩ hp)
      · replace hp := iq c7 hp
        refine ok (m_iload_n (q := 61) rfl rfl rfl rfl) ?_
        refine okc (m_ifne (qt := 73) (qf := 64) rfl rfl h3 rfl rfl) (fun c8 => ?_) (fun c8 => ?_)
        · replace hp := ip c8 hp
          refine ok (m_aload_n (q := 65) rfl rfl rfl rfl) ?_
          refine ok (m_gfs (z := 83) (q := 68) rfl rfl rfl r6 rfl rfl rfl rfl rfl) ?_
          refine ok (m_bipush (q := 70) rfl rfl rfl) ?_
          refine okc (m_cmpne (qt := 75) (qf := 73) rfl rfl (Rp_rg r6 70 83) ⟨by decide, by decide⟩ rfl rfl) (fun c9 => ?_) (fun c9 => ?_)
          · replace hp := ip c9 hp
            refine ok (m_iconst (q := 74) rfl rfl rfl) ?_
            exact ok (m_reti rfl rfl) (ok_iq r6 ⟨by decide, by decide⟩ hp)
          · replace hp := iq c9 hp
            refine ok (m_aload_n (q := 76) rfl rfl rfl rfl) ?_
            refine ok (m_gfc (q := 79) rfl rfl rfl r6 rfl rfl rfl) ?_
            refine ok (m_aload_n (q := 80) rfl rfl rfl rfl) ?_
            refine ok (m_gfs (z := 83) (q := 83) rfl rfl rfl r6 rfl rfl rfl rfl rfl) ?_
            refine ok (m_iload_n (q := 84) rfl rfl rfl rfl) ?_
            obtain ⟨g12, hp⟩ := hp
            refine oke (e_ias (q := 85) rfl rfl rfl r6 rfl rfl g12 h1) (fun s11 r10 => ?_)
            refine ok (m_aload_n (q := 86) rfl rfl rfl rfl) ?_
            refine ok (m_dup (q := 87) rfl rfl rfl rfl) ?_
            refine ok (m_gfs (z := 83) (q := 90) (w := D 70 83) rfl rfl rfl r10 rfl rfl rfl rfl rfl) ?_
            refine ok (m_iconst (q := 91) rfl rfl rfl) ?_
            refine ok (m_iadd (q := 92) rfl rfl rfl) ?_
            refine oke (e_pfs (q := 95) rfl rfl rfl r10 rfl rfl rfl rfl (rg_wr _)) (fun s14 r13 => ?_)
            refine ok (m_iload_n (q := 96) rfl rfl rfl rfl) ?_
            refine ok (m_aload_n (q := 97) rfl rfl rfl rfl) ?_
            refine ok (m_aload_n (q := 98) rfl rfl rfl rfl) ?_
            refine ok (m_gfs (z := 0) (q := 101) (w := D 70 0) rfl rfl rfl r13 rfl rfl rfl rfl rfl) ?_
            refine ok (m_bipush (q := 103) rfl rfl rfl) ?_
            refine ok (m_iconst (q := 104) rfl rfl rfl) ?_
            refine ok (m_iconst (q := 105) rfl rfl rfl) ?_
            obtain ⟨g17, hp⟩ := hp
            refine oke (e_ci (x_cv (q := 108) rfl rfl rfl rfl rfl rfl rfl rfl rfl rfl (is_st r13 rfl rfl)) (ev_X12_tells (D := (up (up D 134 (D 70 83) a1) 70 83 (wr ((D 70 83) + 1)))) (D 70 0) 7 0 0 (show rg (D 70 0) from Rp_rg r13 70 0) ⟨by decide, by decide⟩ ⟨by decide, by decide⟩ ⟨by decide, by decide⟩ g17) (Nat.le_trans (by decide) hd) r13) (fun s15 r16 => ?_)
            refine ok (m_min (q := 111) rfl rfl rfl h2 (Ev_rg (ev_X12_tells (D := (up (up D 134 (D 70 83) a1) 70 83 (wr ((D 70 83) + 1)))) (D 70 0) 7 0 0 (show rg (D 70 0) from Rp_rg r13 70 0) ⟨by decide, by decide⟩ ⟨by decide, by decide⟩ ⟨by decide, by decide⟩ g17) r13) rfl) ?_
            refine ok (m_istore (q := 113) (lo' := [some (am_r (some 70)), some (am_i (wz a1)), some (am_i (wz a2)), some (am_i (wz a3)), some (am_i (wz (min a2 (v_X12_tells (up (up D 134 (D 70 83) a1) 70 83 (wr ((D 70 83) + 1))) (D 70 0) 7 0 0))))]) rfl rfl rfl rfl rfl) ?_
            refine ok (m_aload_n (q := 114) rfl rfl rfl rfl) ?_
            refine ok (m_dup (q := 115) rfl rfl rfl rfl) ?_
            refine ok (m_gfs (z := 84) (q := 118) (w := D 70 84) rfl rfl rfl r16 rfl rfl rfl rfl rfl) ?_
            refine ok (m_iload (q := 120) rfl rfl rfl rfl) ?_
            refine ok (m_iadd (q := 121) rfl rfl rfl) ?_
            refine oke (e_pfs (q := 124) rfl rfl rfl r16 rfl rfl rfl rfl (rg_wr _)) (fun s19 r18 => ?_)
            refine ok (m_iload (q := 126) rfl rfl rfl rfl) ?_
            exact ok (m_reti rfl rfl) (ok_iq r18 (rg_min h2 (Ev_rg (ev_X12_tells (D := (up (up D 134 (D 70 83) a1) 70 83 (wr ((D 70 83) + 1)))) (D 70 0) 7 0 0 (show rg (D 70 0) from Rp_rg r13 70 0) ⟨by decide, by decide⟩ ⟨by decide, by decide⟩ ⟨by decide, by decide⟩ g17) r13)) hp)
        · replace hp := iq c8 hp
          refine ok (m_iconst (q := 74) rfl rfl rfl) ?_
          exact ok (m_reti rfl rfl) (ok_iq r6 ⟨by decide, by decide⟩ hp)
  · replace hp := iq c1 hp
    refine ok (m_iload_n (q := 15) rfl rfl rfl rfl) ?_
    refine okc (m_ifne (qt := 29) (qf := 18) rfl rfl h3 rfl rfl) (fun c20 => ?_) (fun c20 => ?_)
    · replace hp := ip c20 hp
      refine ok (m_aload_n (q := 19) rfl rfl rfl rfl) ?_
      refine ok (m_gfc (q := 22) rfl rfl rfl hr rfl rfl rfl) ?_
      refine ok (m_iload (q := 24) rfl rfl rfl rfl) ?_
      obtain ⟨g21, hp⟩ := hp
      refine ok (m_ials (q := 25) rfl rfl rfl hr rfl rfl g21 rfl) ?_
      refine ok (m_iload_n (q := 26) rfl rfl rfl rfl) ?_
      refine okc (m_cmpne (qt := 33) (qf := 29) rfl rfl (Rp_rg hr 134 a4) h1 rfl rfl) (fun c22 => ?_) (fun c22 => ?_)
      · replace hp := ip c22 hp
        refine ok (m_iconst (q := 30) rfl rfl rfl) ?_
        refine ok (m_goto (q := 34) rfl rfl rfl) ?_
        refine ok (m_istore_n (q := 35) (lo' := [some (am_r (some 70)), some (am_i (wz a1)), some (am_i (wz a2)), some (am_i (wz 1)), some (am_i (wz a4))]) rfl rfl rfl rfl rfl) ?_
        refine ok (m_iinc (q := 38) (lo' := [some (am_r (some 70)), some (am_i (wz a1)), some (am_i (wz a2)), some (am_i (wz 1)), some (am_i (wz (wr (a4 + 1))))]) rfl rfl rfl rfl rfl rfl rfl) ?_
        refine ok (m_goto (q := 5) rfl rfl rfl) ?_
        exact hp d hd _ hr
      · replace hp := iq c22 hp
        refine ok (m_iconst (q := 34) rfl rfl rfl) ?_
        refine ok (m_istore_n (q := 35) (lo' := [some (am_r (some 70)), some (am_i (wz a1)), some (am_i (wz a2)), some (am_i (wz 0)), some (am_i (wz a4))]) rfl rfl rfl rfl rfl) ?_
        refine ok (m_iinc (q := 38) (lo' := [some (am_r (some 70)), some (am_i (wz a1)), some (am_i (wz a2)), some (am_i (wz 0)), some (am_i (wz (wr (a4 + 1))))]) rfl rfl rfl rfl rfl rfl rfl) ?_
        refine ok (m_goto (q := 5) rfl rfl rfl) ?_
        exact hp d hd _ hr
    · replace hp := iq c20 hp
      refine ok (m_iconst (q := 30) rfl rfl rfl) ?_
      refine ok (m_goto (q := 34) rfl rfl rfl) ?_
      refine ok (m_istore_n (q := 35) (lo' := [some (am_r (some 70)), some (am_i (wz a1)), some (am_i (wz a2)), some (am_i (wz 1)), some (am_i (wz a4))]) rfl rfl rfl rfl rfl) ?_
      refine ok (m_iinc (q := 38) (lo' := [some (am_r (some 70)), some (am_i (wz a1)), some (am_i (wz a2)), some (am_i (wz 1)), some (am_i (wz (wr (a4 + 1))))]) rfl rfl rfl rfl rfl rfl rfl) ?_
      refine ok (m_goto (q := 5) rfl rfl rfl) ?_
      exact hp d hd _ hr
/-- is it there: 1 or 0 -/
def thr (g : Int → Int) (a j : Int) : Int := foi (fun t k => if t = 0 then (if g k = a then 1 else 0) else 1) 0 j
theorem thr_b (g : Int → Int) (a : Int) : ∀ j, 0 ≤ j → (thr g a j = 0 ∧ ∀ k, 0 ≤ k → k < j → g k ≠ a) ∨ (thr g a j = 1 ∧ ∃ k, 0 ≤ k ∧ k < j ∧ g k = a) := by
  intro j j0
  refine foi_ind (Q := fun j x => (x = 0 ∧ ∀ k, 0 ≤ k → k < j → g k ≠ a) ∨ (x = 1 ∧ ∃ k, 0 ≤ k ∧ k < j ∧ g k = a)) (Or.inl ⟨rfl, fun k h0 h1 => by omega⟩) (N := j) (fun i x i0 i1 q => ?_) j j0 (Int.le_refl _)
  rcases q with ⟨q1, q2⟩ | ⟨q1, k, q2, q3, q4⟩
  · rw [if_pos q1]
    by_cases c : g i = a
    · rw [if_pos c]; exact Or.inr ⟨rfl, i, i0, by omega, c⟩
    · rw [if_neg c]; refine Or.inl ⟨rfl, fun k h0 h1 => ?_⟩
      by_cases e : k = i
      · rw [e]; exact c
      · exact q2 k h0 (by omega)
  · rw [if_neg (by omega)]; exact Or.inr ⟨rfl, k, q2, by omega, q4⟩
theorem thr_s {g : Int → Int} {a j : Int} (h : 0 ≤ j) : thr g a (j + 1) = if thr g a j = 0 then (if g j = a then 1 else 0) else 1 := foi_s h
theorem K_box {n : Nat} {p w x : Int} {D' : aD} (h1 : rg p) (h2 : rg w) (hu : 0 ≤ D 70 83 ∧ D 70 83 ≤ 30) (H : K_X12_box_5 n A D p w (thr (D 134) p (D 70 83)) (D 70 83) x D') : K_X12_box_5 n A D p w 0 0 x D' := by
  refine dn_ind (K := fun j => K_X12_box_5 n A D p w (thr (D 134) p j) j x D') (lo := 0) (N := D 70 83) H ?_ 0 (by omega) (by omega)
  intro j j0 j1 ih
  have hb := thr_b (D 134) p j j0
  refine rl_X12_box_5 _ _ _ _ h1 h2 (rgb (by omega) (by omega)) (by omega) (rgb (by omega) (by omega)) ?_
  rw [if_neg (by omega), wr1 j0 j1 (by omega)]
  rw [thr_s j0] at ih
  by_cases c1 : thr (D 134) p j = 0
  · rw [if_pos c1] at ih ⊢
    refine ⟨by omega, ?_⟩
    by_cases c2 : D 134 j = p
    · rw [if_pos c2] at ih ⊢; exact ih
    · rw [if_neg c2] at ih ⊢; exact ih
  · rw [if_neg c1] at ih ⊢; exact ih
theorem c_box (hI : Inv D) (p w : Int) (h1 : rg p) (h2 : rg w) : Wr 104 208 [am_i (wz p), am_i (wz w)] A D := by
  have hc := hI.iv.ct; unfold I_ct at hc
  have hu := hI.iv.cu; unfold I_cu at hu
  have hbx := hI.iv.bx
  have ht := thr_b (D 134) p (D 70 83) hu.2.2.1.2.1
  by_cases q : ¬ v_X12_isPlacing D p = 0 ∧ ¬ v_X12_isIn D w 1 9999 = 0 ∧ thr (D 134) p (D 70 83) = 0 ∧ ¬ D 70 83 = 30
  · obtain ⟨q1, q2, q3, q4⟩ := q
    have z := (isPg hI.iv).mp q1
    have z2 := isI.mp q2
    have e25 : D 2510 p = 0 := by
      rcases hbx.1 p z.1 z.2 with ⟨r1, k, r2, r3, r4⟩ | ⟨r1, _⟩
      · rcases ht with ⟨s1, s2⟩ | ⟨s1, _⟩
        · exact absurd r4 (s2 k r2 r3)
        · omega
      · exact r1
    have hnk : ∀ k, 0 ≤ k → k < D 70 83 → D 134 k ≠ p := by
      rcases ht with ⟨s1, s2⟩ | ⟨s1, _⟩
      · exact s2
      · omega
    have hB : D 2409 (w_bookOf D (D 70 0)) = v_X12_tells D (D 70 0) 7 0 0 := (hdr hI (D 70 0)).1.2.2.2.1
    have hTb : 0 ≤ v_X12_tells D (D 70 0) 7 0 0 ∧ v_X12_tells D (D 70 0) 7 0 0 ≤ 9999 := by
      rw [tl_eq]; exact tl_b hI (by decide) ⟨by decide, by decide⟩
    generalize hT : min w (v_X12_tells D (D 70 0) 7 0 0) = T
    have hT2 : 0 ≤ T ∧ T ≤ 9999 := by omega
    have pX : p_X11_box D p w := by
      unfold p_X11_box
      rw [xPg hI.iv, if_neg q1, inb_eq, if_neg q2, if_neg (by omega), if_pos e25]
      exact ⟨by omega, hI.rb⟩
    have e1 : u_X11_box D p w = up (up (up D 2510 p 1) 32 16 (D 70 83 + 1)) 32 17 (D 70 84 + T) := by
      unfold u_X11_box
      rw [xPg hI.iv, if_neg q1, inb_eq, if_neg q2, if_neg (by omega), if_pos e25, hc.1.1, hB, hT, hu.2.2.1.1, hu.2.2.2.1, wr_id (by omega) (by omega), wr_id (by omega) (by omega)]
    have e3 : v_X11_box D p w = T := by
      unfold v_X11_box
      rw [xPg hI.iv, if_neg q1, inb_eq, if_neg q2, if_neg (by omega), if_pos e25, hc.1.1, hB, hT]
    have hrb2 : I_rb (up (up (up (up (up D 2510 p 1) 32 16 (D 70 83 + 1)) 32 17 (D 70 84 + T)) 134 (D 70 83) p) 70 83 (D 70 83 + 1)) := Irb_k (fun c q => by rw [up_cf (nrb q rfl), up_cf (nrb q rfl), up_cf (nrb q rfl), up_cf (nrb q rfl), up_cf (nrb q rfl)]) (by simp (disch := decide) only [up_cf, up_i]; exact ⟨trivial, trivial⟩) (fun l _ => by simp (disch := decide) only [up_cf]) hI.rb
    have hti : ∀ F : aD, F 94 = D 94 → F 95 = D 95 → F 92 = D 92 → F 96 = D 96 → F 93 = D 93 → F 70 26 = D 70 26 → v_X12_tells F (D 70 0) 7 0 0 = v_X12_tells D (D 70 0) 7 0 0 := by
      intro F a1 a2 a3 a4 a5 a6
      unfold v_X12_tells w_last lk w_inForce
      rw [a1, a2, a3, a4, a5, a6]
    refine ⟨T, A, _, up (up (up (up (up (up D 2510 p 1) 32 16 (D 70 83 + 1)) 32 17 (D 70 84 + T)) 134 (D 70 83) p) 70 83 (D 70 83 + 1)) 70 84 (D 70 84 + T), (Ev_i (Ev_D (ev_X11_box (n := 0) p w h1 h2 pX) e1) e3).le (by decide), (rl_X12_box (n := 0) p w h1 h2 ?_).le (by decide), ⟨?_, ?_⟩, ?_⟩
    · refine K_box h1 h2 (by simp (disch := decide) only [up_cf]; omega) ?_
      simp (disch := decide) only [up_cf]
      refine rl_X12_box_5 _ _ _ _ h1 h2 (rgb (by omega) (by omega)) (by omega) (rgb (by omega) (by omega)) ?_
      unfold v_X12_isPlacing
      simp (disch := decide) only [up_cf]
      rw [if_pos (Int.le_refl _), if_neg (by exact q1), if_neg (by exact q2), if_pos q3, if_neg q4]
      rw [wr_id (z := D 70 83 + 1) (by omega) (by omega), hti _ (by simp (disch := decide) only [up_cf]) (by simp (disch := decide) only [up_cf]) (by simp (disch := decide) only [up_cf]) (by simp (disch := decide) only [up_cf]) (by simp (disch := decide) only [up_cf]) (by simp (disch := decide) only [up_cf, up_i]), hT, wr_id (by omega) (by omega)]
      refine ⟨by omega, ?_, rfl, rfl⟩
      have hb := inForce_b (D := D) (d := D 70 0)
      have hif : w_inForce (up (up (up (up (up D 2510 p 1) 32 16 (D 70 83 + 1)) 32 17 (D 70 84 + T)) 134 (D 70 83) p) 70 83 (D 70 83 + 1)) (D 70 0) = w_inForce D (D 70 0) := by
        unfold w_inForce; simp (disch := decide) only [up_cf, up_i]
      have hlt : w_last (up (up (up (up (up D 2510 p 1) 32 16 (D 70 83 + 1)) 32 17 (D 70 84 + T)) 134 (D 70 83) p) 70 83 (D 70 83 + 1)) (w_inForce D (D 70 0)) 7 0 = w_last D (w_inForce D (D 70 0)) 7 0 := by
        unfold w_last lk; simp (disch := decide) only [up_cf]
      have hpl := pTells hI (D 70 0) 7 0 0
      refine ⟨hrb2, ⟨hrb2, ?_⟩, ?_⟩
      · rw [hif, up_i (by decide), up_c (by decide), up_c (by decide), up_c (by decide), up_c (by decide)]; exact hpl.2.1.2
      · rw [hif, hlt]; exact hpl.2.2
    · obtain ⟨p1, p2, p3, p4, p5, p6, p7, p8, p9, p10, p11, p12, p13, p14, p15⟩ := hI.iv
      refine iv15 ?_ ?_ ?_ ?_ ?_ ?_ ?_ ?_ ?_ ?_ ?_ ?_ ?_ ?_ ?_
      · simpa (disch := decide) only [I_ct, up_cf, up_i, up_eq] using p1
      · simp (disch := decide) only [I_cu, up_cf, up_i, up_eq]
        exact ⟨hu.1, hu.2.1, ⟨trivial, by omega, by omega⟩, ⟨trivial, by omega, by omega⟩⟩
      · simpa (disch := decide) only [I_tp, up_cf, up_i, up_eq] using p3
      · simpa (disch := decide) only [I_lg, up_cf, up_i, up_eq] using p4
      · simpa (disch := decide) only [I_hs, up_cf, up_i, up_eq] using p5
      · simpa (disch := decide) only [I_sv, up_cf, up_i, up_eq] using p6
      · simpa (disch := decide) only [I_pl, up_cf, up_i, up_eq] using p7
      · simpa (disch := decide) only [I_pg, up_cf, up_i, up_eq] using p8
      · simp (disch := decide) only [I_bx, up_cf, up_i, up_eq]
        refine ⟨fun i i0 i1 => ?_, fun k k0 k1 => ?_⟩
        · by_cases c : i = p
          · subst c; rw [up_eq]; exact Or.inl ⟨rfl, D 70 83, by omega, by omega, up_eq⟩
          · rw [up_i c]
            rcases hbx.1 i i0 i1 with ⟨r1, k, r2, r3, r4⟩ | ⟨r1, r2⟩
            · exact Or.inl ⟨r1, k, r2, by omega, by rw [up_i (by omega)]; exact r4⟩
            · refine Or.inr ⟨r1, fun k k0 k1 => ?_⟩
              by_cases e : k = D 70 83
              · rw [e, up_eq]; exact fun z => c z.symm
              · rw [up_i e]; exact r2 k k0 (by omega)
        · by_cases e : k = D 70 83
          · rw [e, up_eq]; exact z
          · rw [up_i e]; exact hbx.2 k k0 (by omega)
      · simpa (disch := decide) only [I_tm, up_cf, up_i, up_eq] using p10
      · simpa (disch := decide) only [I_ak, v_X12_ageOn, up_cf, up_i, up_eq] using p11
      · simpa (disch := decide) only [I_ws, up_cf, up_i, up_eq] using p12
      · simpa (disch := decide) only [I_wf, up_cf, up_i, up_eq] using p13
      · simpa (disch := decide) only [I_td, up_cf, up_i, up_eq] using p14
      · simpa (disch := decide) only [I_cn, up_cf, up_i, up_eq] using p15
    · exact Irb_k (fun c q => by rw [up_cf (nrb q rfl), up_cf (nrb q rfl), up_cf (nrb q rfl), up_cf (nrb q rfl), up_cf (nrb q rfl), up_cf (nrb q rfl)]) (by simp (disch := decide) only [up_cf, up_i]; exact ⟨trivial, trivial⟩) (fun l _ => by simp (disch := decide) only [up_cf]) hI.rb
    · unfold Fr; simp (disch := decide) only [up_cf]; exact ⟨trivial, trivial, by omega, by omega, by first | exact id | trivial⟩
  · have hX : v_X11_box D p w = -1 ∧ u_X11_box D p w = D ∧ p_X11_box D p w := by
      unfold v_X11_box u_X11_box p_X11_box
      rw [xPg hI.iv, inb_eq]
      by_cases c1 : v_X12_isPlacing D p = 0
      · rw [if_pos c1, if_pos c1, if_pos c1]; exact ⟨rfl, rfl, trivial⟩
      have z := (isPg hI.iv).mp c1
      rw [if_neg c1, if_neg c1, if_neg c1]
      by_cases c2 : v_X12_isIn D w 1 9999 = 0
      · rw [if_pos c2, if_pos c2, if_pos c2]; exact ⟨rfl, rfl, trivial⟩
      rw [if_neg c2, if_neg c2, if_neg c2]
      by_cases c3 : 30 ≤ D 32 16
      · rw [if_pos c3, if_pos c3, if_pos c3]; exact ⟨rfl, rfl, trivial⟩
      rw [if_neg c3, if_neg c3, if_neg c3]
      have hz : 0 ≤ p ∧ p < D 1002 5 := by omega
      have c4 : ¬ D 2510 p = 0 := fun c4 => by
        rcases hbx.1 p z.1 z.2 with ⟨r1, _⟩ | ⟨r1, r2⟩
        · omega
        · rcases ht with ⟨s1, s2⟩ | ⟨s1, k, s2, s3, s4⟩
          · exact q ⟨c1, c2, s1, by omega⟩
          · exact r2 k s2 s3 s4
      rw [if_neg c4, if_neg c4, if_neg c4]; exact ⟨rfl, rfl, hz, trivial⟩
    have hM : Ev 0 3 208 [am_r (some 70), am_i (wz p), am_i (wz w)] A D (ri (-1)) A D := by
      refine rl_X12_box p w h1 h2 (K_box h1 h2 (by omega) ?_)
      refine rl_X12_box_5 _ _ _ _ h1 h2 (rgb (by omega) (by omega)) (by omega) (rgb (by omega) (by omega)) ?_
      rw [if_pos (Int.le_refl _)]
      by_cases c1 : v_X12_isPlacing D p = 0
      · rw [if_pos c1]; exact ⟨rfl, rfl⟩
      rw [if_neg c1]
      by_cases c2 : v_X12_isIn D w 1 9999 = 0
      · rw [if_pos c2]; exact ⟨rfl, rfl⟩
      rw [if_neg c2]
      by_cases c3 : thr (D 134) p (D 70 83) = 0
      · rw [if_pos c3, if_pos (Decidable.not_not.mp (fun c4 => q ⟨c1, c2, c3, c4⟩))]; exact ⟨rfl, rfl⟩
      · rw [if_neg c3]; exact ⟨rfl, rfl⟩
    exact Rd.wr ⟨-1, (Ev_i (Ev_D (ev_X11_box (n := 0) p w h1 h2 hX.2.2) hX.2.1) hX.1).le (by decide), hM.le (by decide)⟩ hI
end W3
