/-! House, lag, undo, leave, tell, clear. -/
section W2
variable {A : aA} {D : aD}
theorem iv15 {D2 : aD} (p1 : I_ct D2) (p2 : I_cu D2) (p3 : I_tp D2) (p4 : I_lg D2) (p5 : I_hs D2) (p6 : I_sv D2) (p7 : I_pl D2) (p8 : I_pg D2) (p9 : I_bx D2) (p10 : I_tm D2) (p11 : I_ak D2) (p12 : I_ws D2) (p13 : I_wf D2) (p14 : I_td D2) (p15 : I_cn D2) : Iv D2 := ⟨p1, p2, p3, p4, p5, p6, p7, p8, p9, p10, p11, p12, p13, p14, p15⟩
theorem c_house (hI : Inv D) (a : Int) (h1 : rg a) : Wr 73 132 [am_i (wz a)] A D := by
  have hc := hI.iv.ct; unfold I_ct at hc
  have pX : p_X11_house D a := by unfold p_X11_house; repeat' split
                                  all_goals first | trivial | omega
  have pM : p_X12_house D a := by unfold p_X12_house; repeat' split
                                  all_goals first | trivial | omega
  by_cases q : v_X12_isIn D a 0 4 = 0 ∨ D 70 2 = 12
  · have e1 : u_X11_house D a = D := by unfold u_X11_house; rw [inb_eq, hc.2.2.1.1]; split; rfl; rw [if_neg (by omega)]
    have e2 : u_X12_house D a = D := by unfold u_X12_house; split; rfl; rw [if_pos (by omega)]
    have e3 : v_X11_house D a = v_X12_house D a := by unfold v_X11_house v_X12_house; rw [inb_eq, hc.2.2.1.1]; split; rfl; rw [if_neg (by omega), if_pos (by omega)]
    exact Rd.wr ⟨_, (Ev_i (Ev_D (ev_X11_house (n := 0) a h1 pX) e1) e3).le (by decide), (Ev_D (ev_X12_house (n := 0) a h1 pM) e2).le (by decide)⟩ hI
  have q1 : ¬ v_X12_isIn D a 0 4 = 0 := fun z => q (Or.inl z)
  have q2 : ¬ D 70 2 = 12 := fun z => q (Or.inr z)
  have qa := isI.mp q1
  have e1 : u_X11_house D a = up (up D 34 (D 70 2) a) 32 15 (D 70 2 + 1) := by
    unfold u_X11_house; rw [inb_eq, hc.2.2.1.1, if_neg q1, if_pos (by omega), wr_id (by omega) (by omega)]
  have e2 : u_X12_house (up (up D 34 (D 70 2) a) 32 15 (D 70 2 + 1)) a = up (up (up (up D 34 (D 70 2) a) 32 15 (D 70 2 + 1)) 75 (D 70 2) a) 70 2 (D 70 2 + 1) := by
    unfold u_X12_house v_X12_isIn
    simp (disch := decide) only [up_cf]
    rw [if_neg (by rw [if_neg (by omega), if_neg (by omega)]; decide), if_neg q2, wr_id (by omega) (by omega)]
  have e3 : v_X11_house D a = v_X12_house (up (up D 34 (D 70 2) a) 32 15 (D 70 2 + 1)) a := by
    unfold v_X11_house v_X12_house
    simp (disch := decide) only [up_cf]
    rw [inb_eq, hc.2.2.1.1, if_neg q1, if_pos (by omega), if_neg (c := v_X12_isIn (up (up D 34 (D 70 2) a) 32 15 (D 70 2 + 1)) a 0 4 = 0) q1, if_neg q2]
  have pM' : p_X12_house (up (up D 34 (D 70 2) a) 32 15 (D 70 2 + 1)) a := by
    unfold p_X12_house; simp (disch := decide) only [up_cf]; repeat' split
    all_goals first | trivial | omega
  refine ⟨_, A, _, _, (Ev_i (Ev_D (ev_X11_house (n := 0) a h1 pX) e1) e3).le (by decide), (Ev_D (ev_X12_house (n := 0) a h1 pM') e2).le (by decide), ⟨?_, ?_⟩, ?_⟩
  · obtain ⟨p1, p2, p3, p4, p5, p6, p7, p8, p9, p10, p11, p12, p13, p14, p15⟩ := hI.iv
    refine iv15 ?_ ?_ ?_ ?_ ?_ ?_ ?_ ?_ ?_ ?_ ?_ ?_ ?_ ?_ ?_
    · simp (disch := decide) only [I_ct, up_cf, up_i, up_eq]
      exact ⟨hc.1, hc.2.1, ⟨trivial, by omega, by omega⟩, hc.2.2.2⟩
    · simpa (disch := decide) only [I_cu, up_cf, up_i, up_eq] using p2
    · simpa (disch := decide) only [I_tp, up_cf, up_i, up_eq] using p3
    · simpa (disch := decide) only [I_lg, up_cf, up_i, up_eq] using p4
    · simp (disch := decide) only [I_hs, up_cf, up_i, up_eq]
      intro i i0 i1
      by_cases c : i = D 70 2
      · subst c; rw [up_eq, up_eq]; omega
      · rw [up_i c, up_i c]; exact p5 i i0 (by omega)
    · simpa (disch := decide) only [I_sv, up_cf, up_i, up_eq] using p6
    · simp (disch := decide) only [I_pl, up_cf, up_i, up_eq]
      intro i i0 i1
      have h := p7 i i0 i1
      rw [up_i (show D 77 i ≠ D 70 2 by omega)]
      refine ⟨h.1, h.2.1, h.2.2.1, h.2.2.2.1, h.2.2.2.2.1, h.2.2.2.2.2.1, h.2.2.2.2.2.2.1, h.2.2.2.2.2.2.2.1, ?_⟩
      omega
    · simpa (disch := decide) only [I_pg, up_cf, up_i, up_eq] using p8
    · simpa (disch := decide) only [I_bx, up_cf, up_i, up_eq] using p9
    · simp (disch := decide) only [I_tm, up_cf, up_i, up_eq]
      intro i i0 i1
      have h := p10 i i0 i1
      omega
    · simpa (disch := decide) only [I_ak, v_X12_ageOn, up_cf, up_i, up_eq] using p11
    · simpa (disch := decide) only [I_ws, up_cf, up_i, up_eq] using p12
    · simpa (disch := decide) only [I_wf, up_cf, up_i, up_eq] using p13
    · simpa (disch := decide) only [I_td, up_cf, up_i, up_eq] using p14
    · simpa (disch := decide) only [I_cn, up_cf, up_i, up_eq] using p15
  · exact Irb_k (fun c q => by rw [up_cf (nrb q rfl), up_cf (nrb q rfl), up_cf (nrb q rfl), up_cf (nrb q rfl)]) (by simp (disch := decide) only [up_cf, up_i]; exact ⟨trivial, trivial⟩) (fun l _ => by simp (disch := decide) only [up_cf]) hI.rb
  · unfold Fr; simp (disch := decide) only [up_cf]; exact ⟨trivial, trivial, by omega, by omega, by first | exact id | trivial⟩
theorem c_lag (hI : Inv D) (a b : Int) (h1 : rg a) (h2 : rg b) : Wr 74 133 [am_i (wz a), am_i (wz b)] A D := by
  have pX : p_X11_lag D a b := by unfold p_X11_lag; rw [inb_eq]; repeat' split
                                  all_goals first | trivial | (rename_i c _; have := isI.mp c; omega)
  by_cases q : v_X12_isIn D a 0 4 = 0 ∨ v_X12_isIn D b 0 30 = 0
  · have e1 : u_X11_lag D a b = D := by unfold u_X11_lag; rw [inb_eq, inb_eq]; split; rfl; rw [if_pos (by omega)]
    have e2 : u_X12_lag D a b = D := by unfold u_X12_lag; split; rfl; rw [if_pos (by omega)]
    have e3 : v_X11_lag D a b = v_X12_lag D a b := rfl
    have pM : p_X12_lag D a b := by unfold p_X12_lag; split; trivial; rw [if_pos (by omega)]; trivial
    exact Rd.wr ⟨_, (Ev_i (Ev_D (ev_X11_lag (n := 0) a b h1 h2 pX) e1) e3).le (by decide), (Ev_D (ev_X12_lag (n := 0) a b h1 h2 pM) e2).le (by decide)⟩ hI
  have q1 : ¬ v_X12_isIn D a 0 4 = 0 := fun z => q (Or.inl z)
  have q2 : ¬ v_X12_isIn D b 0 30 = 0 := fun z => q (Or.inr z)
  have qa := isI.mp q1
  have qb := isI.mp q2
  have e1 : u_X11_lag D a b = up D 33 a b := by unfold u_X11_lag; rw [inb_eq, inb_eq, if_neg q1, if_neg q2]
  have e2 : u_X12_lag (up D 33 a b) a b = up (up D 33 a b) 76 a b := by
    unfold u_X12_lag; rw [if_neg (c := v_X12_isIn (up D 33 a b) a 0 4 = 0) q1, if_neg (c := v_X12_isIn (up D 33 a b) b 0 30 = 0) q2]
  have e3 : v_X11_lag D a b = v_X12_lag (up D 33 a b) a b := rfl
  have pM : p_X12_lag (up D 33 a b) a b := by unfold p_X12_lag; repeat' split
                                              all_goals first | trivial | omega
  refine ⟨_, A, _, _, (Ev_i (Ev_D (ev_X11_lag (n := 0) a b h1 h2 pX) e1) e3).le (by decide), (Ev_D (ev_X12_lag (n := 0) a b h1 h2 pM) e2).le (by decide), ⟨?_, ?_⟩, ?_⟩
  · obtain ⟨p1, p2, p3, p4, p5, p6, p7, p8, p9, p10, p11, p12, p13, p14, p15⟩ := hI.iv
    refine iv15 ?_ ?_ ?_ ?_ ?_ ?_ ?_ ?_ ?_ ?_ ?_ ?_ ?_ ?_ ?_
    · simpa (disch := decide) only [I_ct, up_cf, up_i, up_eq] using p1
    · simpa (disch := decide) only [I_cu, up_cf, up_i, up_eq] using p2
    · simpa (disch := decide) only [I_tp, up_cf, up_i, up_eq] using p3
    · simp (disch := decide) only [I_lg, up_cf, up_i, up_eq]
      intro i i0 i1
      by_cases c : i = a
      · subst c; rw [up_eq, up_eq]; omega
      · rw [up_i c, up_i c]; exact p4 i i0 i1
    · simpa (disch := decide) only [I_hs, up_cf, up_i, up_eq] using p5
    · simpa (disch := decide) only [I_sv, up_cf, up_i, up_eq] using p6
    · simpa (disch := decide) only [I_pl, up_cf, up_i, up_eq] using p7
    · simpa (disch := decide) only [I_pg, up_cf, up_i, up_eq] using p8
    · simpa (disch := decide) only [I_bx, up_cf, up_i, up_eq] using p9
    · simpa (disch := decide) only [I_tm, up_cf, up_i, up_eq] using p10
    · simpa (disch := decide) only [I_ak, v_X12_ageOn, up_cf, up_i, up_eq] using p11
    · simpa (disch := decide) only [I_ws, up_cf, up_i, up_eq] using p12
    · simpa (disch := decide) only [I_wf, up_cf, up_i, up_eq] using p13
    · simpa (disch := decide) only [I_td, up_cf, up_i, up_eq] using p14
    · simpa (disch := decide) only [I_cn, up_cf, up_i, up_eq] using p15
  · exact Irb_k (fun c q => by rw [up_cf (nrb q rfl), up_cf (nrb q rfl)]) (by simp (disch := decide) only [up_cf]; exact ⟨trivial, trivial⟩) (fun l _ => by simp (disch := decide) only [up_cf]) hI.rb
  · unfold Fr; simp (disch := decide) only [up_cf]; exact ⟨trivial, trivial, by omega, by omega, by first | exact id | trivial⟩
theorem c_undo (hI : Inv D) (a : Int) (h1 : rg a) : Wr 78 138 [am_i (wz a)] A D := by
  have hc := hI.iv.ct; unfold I_ct at hc
  have pX : p_X11_undo D a := by
    unfold p_X11_undo; rw [xPg hI.iv]; split; trivial
    rename_i c; have := (isPg hI.iv).mp c; omega
  by_cases q : v_X12_isPlacing D a = 0 ∨ D 87 a ≠ 5000
  · have e0 : ¬ v_X12_isPlacing D a = 0 → ¬ D 2509 a = -1 := fun z => by
      have z1 := (isPg hI.iv).mp z
      have hg := hI.iv.pg a z1.1 z1.2
      omega
    have e1 : u_X11_undo D a = D := by unfold u_X11_undo; rw [xPg hI.iv]; split; rfl; rename_i z; rw [if_neg (e0 z)]
    have e2 : u_X12_undo D a = D := by unfold u_X12_undo; split; rfl; rw [if_neg (by omega)]
    have e3 : v_X11_undo D a = v_X12_undo D a := by
      unfold v_X11_undo v_X12_undo; rw [xPg hI.iv]; split; rfl; rename_i z; rw [if_neg (e0 z), if_neg (by omega)]
    have pM : p_X12_undo D a := by
      unfold p_X12_undo; split; trivial
      rename_i c; have := (isPg hI.iv).mp c; omega
    exact Rd.wr ⟨_, (Ev_i (Ev_D (ev_X11_undo (n := 0) a h1 pX) e1) e3).le (by decide), (Ev_D (ev_X12_undo (n := 0) a h1 pM) e2).le (by decide)⟩ hI
  have q1 : ¬ v_X12_isPlacing D a = 0 := fun z => q (Or.inl z)
  have q2 : D 87 a = 5000 := Decidable.not_not.mp (fun z => q (Or.inr z))
  have z1 := (isPg hI.iv).mp q1
  have hg := hI.iv.pg a z1.1 z1.2
  have q3 : D 2509 a = -1 := by omega
  have e1 : u_X11_undo D a = up D 2509 a (D 70 0) := by unfold u_X11_undo; rw [xPg hI.iv, if_neg q1, if_pos q3, hc.1.1]
  have qp : v_X12_isPlacing (up D 2509 a (D 70 0)) a = v_X12_isPlacing D a := by unfold v_X12_isPlacing; rw [up_c (by decide)]; rfl
  have e2 : u_X12_undo (up D 2509 a (D 70 0)) a = up (up D 2509 a (D 70 0)) 87 a (D 70 0) := by
    unfold u_X12_undo; rw [qp, if_neg q1, up_c (by decide), up_c (by decide), if_pos q2]
  have e3 : v_X11_undo D a = v_X12_undo (up D 2509 a (D 70 0)) a := by
    unfold v_X11_undo v_X12_undo; rw [qp, xPg hI.iv, if_neg q1, if_neg q1, if_pos q3, up_c (by decide), if_pos q2]
  have pM : p_X12_undo (up D 2509 a (D 70 0)) a := by unfold p_X12_undo; rw [qp, if_neg q1]; omega
  refine ⟨_, A, _, _, (Ev_i (Ev_D (ev_X11_undo (n := 0) a h1 pX) e1) e3).le (by decide), (Ev_D (ev_X12_undo (n := 0) a h1 pM) e2).le (by decide), ⟨?_, ?_⟩, ?_⟩
  · obtain ⟨p1, p2, p3, p4, p5, p6, p7, p8, p9, p10, p11, p12, p13, p14, p15⟩ := hI.iv
    refine iv15 ?_ ?_ ?_ ?_ ?_ ?_ ?_ ?_ ?_ ?_ ?_ ?_ ?_ ?_ ?_
    · simpa (disch := decide) only [I_ct, up_cf, up_i, up_eq] using p1
    · simpa (disch := decide) only [I_cu, up_cf, up_i, up_eq] using p2
    · simpa (disch := decide) only [I_tp, up_cf, up_i, up_eq] using p3
    · simpa (disch := decide) only [I_lg, up_cf, up_i, up_eq] using p4
    · simpa (disch := decide) only [I_hs, up_cf, up_i, up_eq] using p5
    · simpa (disch := decide) only [I_sv, up_cf, up_i, up_eq] using p6
    · simpa (disch := decide) only [I_pl, up_cf, up_i, up_eq] using p7
    · simp (disch := decide) only [I_pg, up_cf, up_i, up_eq]
      intro i i0 i1
      have h := p8 i i0 i1
      by_cases c : i = a
      · subst c; rw [up_eq, up_eq]
        refine ⟨h.1, h.2.1, h.2.2.1, h.2.2.2.1, h.2.2.2.2.1, h.2.2.2.2.2.1, h.2.2.2.2.2.2.1, ?_, ?_⟩
        · rw [if_neg (by omega)]
        · omega
      · rw [up_i c, up_i c]; exact h
    · simpa (disch := decide) only [I_bx, up_cf, up_i, up_eq] using p9
    · simpa (disch := decide) only [I_tm, up_cf, up_i, up_eq] using p10
    · simpa (disch := decide) only [I_ak, v_X12_ageOn, up_cf, up_i, up_eq] using p11
    · simpa (disch := decide) only [I_ws, up_cf, up_i, up_eq] using p12
    · simpa (disch := decide) only [I_wf, up_cf, up_i, up_eq] using p13
    · simpa (disch := decide) only [I_td, up_cf, up_i, up_eq] using p14
    · simpa (disch := decide) only [I_cn, up_cf, up_i, up_eq] using p15
  · exact Irb_k (fun c q => by rw [up_cf (nrb q rfl), up_cf (nrb q rfl)]) (by simp (disch := decide) only [up_cf]; exact ⟨trivial, trivial⟩) (fun l _ => by simp (disch := decide) only [up_cf]) hI.rb
  · unfold Fr; simp (disch := decide) only [up_cf]; exact ⟨trivial, trivial, by omega, by omega, by first | exact id | trivial⟩
theorem c_tell (hI : Inv D) (a b : Int) (h1 : rg a) (h2 : rg b) : Wr 95 194 [am_i (wz a), am_i (wz b)] A D := by
  have hc := hI.iv.ct; unfold I_ct at hc
  have pX : p_X11_tell D a b := by
    unfold p_X11_tell; rw [xSv hI.iv]; repeat' split
    all_goals first | trivial | (rename_i c _; have := (isSv hI.iv).mp c; omega) | (rename_i c _ _; have := (isSv hI.iv).mp c; omega)
  by_cases q : v_X12_isServant D a = 0 ∨ (¬ b = -1 ∧ v_X12_isPlace D b = 0)
  · have e1 : u_X11_tell D a b = D := by unfold u_X11_tell; rw [xSv hI.iv, xPl hI.iv]; split; rfl; rw [if_neg (by omega), if_pos (by omega)]
    have e2 : u_X12_tell D a b = D := by unfold u_X12_tell; split; rfl; rw [if_neg (by omega), if_pos (by omega)]
    have e3 : v_X11_tell D a b = v_X12_tell D a b := by unfold v_X11_tell v_X12_tell; rw [xSv hI.iv, xPl hI.iv]
    have pM : p_X12_tell D a b := by unfold p_X12_tell; split; trivial; rw [if_neg (by omega), if_pos (by omega)]; trivial
    exact Rd.wr ⟨_, (Ev_i (Ev_D (ev_X11_tell (n := 0) a b h1 h2 pX) e1) e3).le (by decide), (Ev_D (ev_X12_tell (n := 0) a b h1 h2 pM) e2).le (by decide)⟩ hI
  have q1 : ¬ v_X12_isServant D a = 0 := fun z => q (Or.inl z)
  have q2 : ¬ b = -1 → ¬ v_X12_isPlace D b = 0 := fun z z' => q (Or.inr ⟨z, z'⟩)
  have z1 := (isSv hI.iv).mp q1
  have z2 : -1 ≤ b ∧ b < D 70 3 := by
    by_cases c : b = -1
    · omega
    · have := (isPl hI.iv).mp (q2 c); omega
  have e1 : u_X11_tell D a b = up D 36 a b := by
    unfold u_X11_tell; rw [xSv hI.iv, xPl hI.iv, if_neg q1]
    by_cases c : b = -1
    · rw [if_pos c]
    · rw [if_neg c, if_neg (q2 c)]
  have qs : v_X12_isServant (up D 36 a b) a = v_X12_isServant D a := by unfold v_X12_isServant; rw [up_c (by decide)]; rfl
  have qp : v_X12_isPlace (up D 36 a b) b = v_X12_isPlace D b := by unfold v_X12_isPlace; rw [up_c (by decide)]; rfl
  have e2 : u_X12_tell (up D 36 a b) a b = up (up D 36 a b) 116 a (b + 1) := by
    unfold u_X12_tell; rw [qs, qp, if_neg q1, wr_id (by omega) (by omega)]
    by_cases c : b = -1
    · rw [if_pos c]
    · rw [if_neg c, if_neg (q2 c)]
  have e3 : v_X11_tell D a b = v_X12_tell (up D 36 a b) a b := by unfold v_X11_tell v_X12_tell; rw [qs, qp, xSv hI.iv, xPl hI.iv]
  have pM : p_X12_tell (up D 36 a b) a b := by
    unfold p_X12_tell; rw [qs, qp]; repeat' split
    all_goals first | trivial | omega
  refine ⟨_, A, _, _, (Ev_i (Ev_D (ev_X11_tell (n := 0) a b h1 h2 pX) e1) e3).le (by decide), (Ev_D (ev_X12_tell (n := 0) a b h1 h2 pM) e2).le (by decide), ⟨?_, ?_⟩, ?_⟩
  · obtain ⟨p1, p2, p3, p4, p5, p6, p7, p8, p9, p10, p11, p12, p13, p14, p15⟩ := hI.iv
    refine iv15 ?_ ?_ ?_ ?_ ?_ ?_ ?_ ?_ ?_ ?_ ?_ ?_ ?_ ?_ ?_
    · simpa (disch := decide) only [I_ct, up_cf, up_i, up_eq] using p1
    · simpa (disch := decide) only [I_cu, up_cf, up_i, up_eq] using p2
    · simpa (disch := decide) only [I_tp, up_cf, up_i, up_eq] using p3
    · simpa (disch := decide) only [I_lg, up_cf, up_i, up_eq] using p4
    · simpa (disch := decide) only [I_hs, up_cf, up_i, up_eq] using p5
    · simpa (disch := decide) only [I_sv, up_cf, up_i, up_eq] using p6
    · simpa (disch := decide) only [I_pl, up_cf, up_i, up_eq] using p7
    · simpa (disch := decide) only [I_pg, up_cf, up_i, up_eq] using p8
    · simpa (disch := decide) only [I_bx, up_cf, up_i, up_eq] using p9
    · simpa (disch := decide) only [I_tm, up_cf, up_i, up_eq] using p10
    · simpa (disch := decide) only [I_ak, v_X12_ageOn, up_cf, up_i, up_eq] using p11
    · simpa (disch := decide) only [I_ws, up_cf, up_i, up_eq] using p12
    · simpa (disch := decide) only [I_wf, up_cf, up_i, up_eq] using p13
    · simp (disch := decide) only [I_td, up_cf, up_i, up_eq]
      intro i i0 i1
      by_cases c : i = a
      · subst c; rw [up_eq, up_eq]; omega
      · rw [up_i c, up_i c]; exact p14 i i0 i1
    · simpa (disch := decide) only [I_cn, up_cf, up_i, up_eq] using p15
  · exact Irb_k (fun c q => by rw [up_cf (nrb q rfl), up_cf (nrb q rfl)]) (by simp (disch := decide) only [up_cf]; exact ⟨trivial, trivial⟩) (fun l _ => by simp (disch := decide) only [up_cf]) hI.rb
  · unfold Fr; simp (disch := decide) only [up_cf]; exact ⟨trivial, trivial, by omega, by omega, by first | exact id | trivial⟩
theorem c_clear (hI : Inv D) : Wr 98 199 [] A D := by
  have hn := hI.iv.cn; unfold I_cn at hn
  have e3 : v_X11_clear D = v_X12_clear (u_X11_clear D) := by
    unfold v_X11_clear v_X12_clear u_X11_clear
    simp (disch := decide) only [up_cf]
    rw [hn.1.1, hn.2.1.1]
  refine ⟨_, A, _, _, (Ev_i (ev_X11_clear (n := 0)) e3).le (by decide), (ev_X12_clear (n := 0)).le (by decide), ⟨?_, ?_⟩, ?_⟩
  · obtain ⟨p1, p2, p3, p4, p5, p6, p7, p8, p9, p10, p11, p12, p13, p14, p15⟩ := hI.iv
    unfold u_X12_clear u_X11_clear
    refine iv15 ?_ ?_ ?_ ?_ ?_ ?_ ?_ ?_ ?_ ?_ ?_ ?_ ?_ ?_ ?_
    · simpa (disch := decide) only [I_ct, up_cf, up_i, up_eq] using p1
    · simpa (disch := decide) only [I_cu, up_cf, up_i, up_eq] using p2
    · simpa (disch := decide) only [I_tp, up_cf, up_i, up_eq] using p3
    · simpa (disch := decide) only [I_lg, up_cf, up_i, up_eq] using p4
    · simpa (disch := decide) only [I_hs, up_cf, up_i, up_eq] using p5
    · simpa (disch := decide) only [I_sv, up_cf, up_i, up_eq] using p6
    · simpa (disch := decide) only [I_pl, up_cf, up_i, up_eq] using p7
    · simpa (disch := decide) only [I_pg, up_cf, up_i, up_eq] using p8
    · simpa (disch := decide) only [I_bx, up_cf, up_i, up_eq] using p9
    · simpa (disch := decide) only [I_tm, up_cf, up_i, up_eq] using p10
    · simpa (disch := decide) only [I_ak, v_X12_ageOn, up_cf, up_i, up_eq] using p11
    · simpa (disch := decide) only [I_ws, up_cf, up_i, up_eq] using p12
    · simpa (disch := decide) only [I_wf, up_cf, up_i, up_eq] using p13
    · simpa (disch := decide) only [I_td, up_cf, up_i, up_eq] using p14
    · simp (disch := decide) only [I_cn, up_cf, up_i, up_eq]
      refine ⟨⟨trivial, by omega, by omega⟩, ⟨trivial, by omega, by omega⟩, fun k k0 k1 => by omega, fun k k0 k1 => by omega, fun k k0 k1 => by omega, fun k k' k0 k1 k2 => by omega, fun k k' k0 k1 k2 => by omega, fun k k' k0 k1 k2 => by omega⟩
  · unfold u_X12_clear u_X11_clear
    exact Irb_k (fun c q => by rw [up_cf (nrb q rfl), up_cf (nrb q rfl), up_cf (nrb q rfl), up_cf (nrb q rfl)]) (by simp (disch := decide) only [up_cf, up_i]; exact ⟨trivial, trivial⟩) (fun l _ => by simp (disch := decide) only [up_cf]) hI.rb
  · unfold u_X12_clear u_X11_clear Fr; simp (disch := decide) only [up_cf]; exact ⟨trivial, trivial, by omega, by omega, by first | exact id | trivial⟩
end W2
