/-! Calls that make things: placing, write, ask. -/
section Co
variable {n : Nat} {A A' : aA} {D D' E : aD} {d : Nat} {s : am_S} {l : Int}
abbrev pgX (c : Nat) : Prop := c ≠ 1000 ∧ c ≠ 1002 ∧ c ≠ 901 ∧ c ≠ 1100 ∧ c ≠ 950 ∧ c ≠ 951 ∧ c ≠ 915 ∧ (c < 2500 ∨ 2510 < c)
theorem c_placing (hR : Rp 0 A D s) (hI : Inv D) (hH : Hp D) (hh : D 950 0 ≤ 100000000 ∧ D 951 0 ≤ 100000000) (a1 a2 a3 : Int) (h1 : rg a1) (h2 : rg a2) (h3 : rg a3) : Wr 76 136 [am_i (wz a1), am_i (wz a2), am_i (wz a3)] A D := by
  have hc := hI.iv.ct; unfold I_ct at hc
  have hu := hI.iv.cu; unfold I_cu at hu
  by_cases q : (0 ≤ a1 ∧ a1 < D 70 1) ∧ (0 ≤ a2 ∧ a2 < D 70 3) ∧ (0 ≤ a3 ∧ a3 ≤ D 70 0) ∧ D 70 4 < 60
  · obtain ⟨H1, H2, H3, H4, H5, H6, H7, H8, H9⟩ := hH
    have F0 : D 900 5 = 1 := (Rp_cl hR).2.2.2.2.2.2.2.2.2.2.2.2.2.2.2.2.1
    have ez : D 1002 5 = D 70 4 := hc.2.2.2.2.1
    have b7 := hI.iv.pl a2 q.2.1.1 q.2.1.2
    have b5 := hI.iv.hs (D 77 a2) (by omega) (by omega)
    have b4 := hI.iv.lg (D 75 (D 77 a2)) (by omega) (by omega)
    have eW : wr ((pgD D (D 70 4) (D 70 4) a1 a2 a3 0 (-1) (-1) 0 (-1) (-1) 0) 32 14 + (pgD D (D 70 4) (D 70 4) a1 a2 a3 0 (-1) (-1) 0 (-1) (-1) 0) 33 ((pgD D (D 70 4) (D 70 4) a1 a2 a3 0 (-1) (-1) 0 (-1) (-1) 0) 2102 a2)) = (D 70 0 + D 76 (D 75 (D 77 a2))) := by
      rw [pgD_o (by decide), pgD_o (by decide), pgD_o (by decide), b7.2.2.1, b4.1, hc.1.1, wr_id (by omega) (by omega)]
    have E1 : Ev 0 9 76 [am_r (some 32), am_i (wz a1), am_i (wz a2), am_i (wz a3)] A D (ri (D 70 4)) (addA (upA A 15 (D 70 4) (D 950 0).toNat) (up (pgD D (D 70 4) (D 70 4) a1 a2 a3 0 (-1) (-1) 0 (-1) (-1) 0) 2504 (D 70 4) (D 70 0 + D 76 (D 75 (D 77 a2)))) 5) (addD (up (pgD D (D 70 4) (D 70 4) a1 a2 a3 0 (-1) (-1) 0 (-1) (-1) 0) 2504 (D 70 4) (D 70 0 + D 76 (D 75 (D 77 a2)))) 5) := by
      refine rl_X11_placing a1 a2 a3 h1 h2 h3 ?_
      rw [xSv hI.iv, xPl hI.iv, inb_eq, ez, if_neg ((isSv hI.iv).mpr q.1), if_neg ((isPl hI.iv).mpr q.2.1), hc.1.1, if_neg (isI.mpr q.2.2.1), if_pos q.2.2.2]
      refine ⟨by omega, K_pg (fun i z => (H1 i z).1) (fun z => by have := H6 _ z; omega) h3 (by omega) (fun s hr => Rp_el1 hr (by omega)) h2 (by omega) ?_⟩
      rw [ez]
      refine rl_X11_placing_89 a1 a2 a3 a2 (D 70 4) h1 h2 h3 ((pgD_o (by decide)).trans (Rp_el1 hR (by omega))) (by rw [pgD_915, if_pos rfl]) ?_
      rw [eW]
      refine ⟨by rw [pgD_o (by decide), b7.2.2.1]; omega, ⟨?_, ?_, ?_, ?_, ?_⟩, ?_⟩
      · simp (disch := decide) only [up_cf]
        rw [pgD_o (by decide), ez]; exact (Int.zero_add _).symm
      · simp (disch := decide) only [up_cf]
        rw [pgD_o (by decide), ez]; omega
      · simp (disch := decide) only [up_cf]
        rw [pgD_o (by decide), pgD_o (by decide)]; exact fun z => (H1 5 z).2
      · simp (disch := decide) only [up_cf]
        rw [pgD_h.1]; omega
      · simp (disch := decide) only [up_cf]
        rw [pgD_h.2]; omega
      · refine rl_X11_placing_124 a1 a2 a3 a2 (D 70 4) h1 h2 h3 ?_ ?_ ⟨rfl, ?_, rfl⟩
        · simp (disch := decide) only [addD_f, up_cf]
          exact (pgD_o (by decide)).trans (Rp_el1 hR (by omega))
        · simp (disch := decide) only [addD_f, up_cf]
          rw [pgD_915, if_pos rfl]
        · simp (disch := decide) only [addD_f, up_cf]
          exact pgD_f.1.symm
    generalize hA1 : addA (upA A 15 (D 70 4) (D 950 0).toNat) (up (pgD D (D 70 4) (D 70 4) a1 a2 a3 0 (-1) (-1) 0 (-1) (-1) 0) 2504 (D 70 4) (D 70 0 + D 76 (D 75 (D 77 a2)))) 5 = A1 at E1
    generalize hD1 : addD (up (pgD D (D 70 4) (D 70 4) a1 a2 a3 0 (-1) (-1) 0 (-1) (-1) 0) 2504 (D 70 4) (D 70 0 + D 76 (D 75 (D 77 a2)))) 5 = D1 at E1
    have f0 : (up (pgD D (D 70 4) (D 70 4) a1 a2 a3 0 (-1) (-1) 0 (-1) (-1) 0) 2504 (D 70 4) (D 70 0 + D 76 (D 75 (D 77 a2)))) 1002 = D 1002 := funext fun j => by simp (disch := decide) only [up_cf]; exact pgD_o (by decide)
    have g : ∀ c', pgX c' → D1 c' = D c' := fun c' z => by
      rw [← hD1, addD_f (by omega)]; rw [up_cf (by omega)]; funext j; exact pgD_o (by omega)
    have gz : ∀ j, D1 1002 j = if j = 5 then D 70 4 + 1 else D 1002 j := fun j => by rw [← hD1, addD_z, f0, ez]
    have gz0 : D1 1002 5 = D 70 4 + 1 := by rw [gz, if_pos rfl]
    have gzn : ∀ j, j ≠ 5 → D1 1002 j = D 1002 j := fun j z => by rw [gz, if_neg z]
    obtain ⟨k0, k1, k2, k3, k4, k5, k6, k7, k8, k9, k10⟩ := pgD_f (D := D) (i := D 70 4) (x0 := D 70 4) (x1 := a1) (x2 := a2) (x3 := a3) (x4 := 0) (x5 := -1) (x6 := -1) (x7 := 0) (x8 := -1) (x9 := -1) (x10 := 0)
    have gi : D1 2500 (D 70 4) = D 70 4 ∧ D1 2501 (D 70 4) = a1 ∧ D1 2502 (D 70 4) = a2 ∧ D1 2503 (D 70 4) = a3 ∧ D1 2504 (D 70 4) = (D 70 0 + D 76 (D 75 (D 77 a2))) ∧ D1 2505 (D 70 4) = -1 ∧ D1 2506 (D 70 4) = -1 ∧ D1 2507 (D 70 4) = 0 ∧ D1 2508 (D 70 4) = -1 ∧ D1 2509 (D 70 4) = -1 ∧ D1 2510 (D 70 4) = 0 := by
      rw [← hD1]; simp (disch := decide) only [addD_f, up_cf, up_eq]; exact ⟨k0, k1, k2, k3, trivial, k5, k6, k7, k8, k9, k10⟩
    have gj : ∀ j, j ≠ D 70 4 → D1 2500 j = D 2500 j ∧ D1 2501 j = D 2501 j ∧ D1 2502 j = D 2502 j ∧ D1 2503 j = D 2503 j ∧ D1 2504 j = D 2504 j ∧ D1 2505 j = D 2505 j ∧ D1 2506 j = D 2506 j ∧ D1 2507 j = D 2507 j ∧ D1 2508 j = D 2508 j ∧ D1 2509 j = D 2509 j ∧ D1 2510 j = D 2510 j := fun j z => by
      rw [← hD1]; simp (disch := decide) only [addD_f, up_cf]
      simp only [up_i z]
      exact ⟨pgD_j (by decide) z, pgD_j (by decide) z, pgD_j (by decide) z, pgD_j (by decide) z, pgD_j (by decide) z, pgD_j (by decide) z, pgD_j (by decide) z, pgD_j (by decide) z, pgD_j (by decide) z, pgD_j (by decide) z, pgD_j (by decide) z⟩
    have g9 : D1 950 0 ≤ D 950 0 + 2 ∧ D1 951 0 ≤ D 951 0 + 141 := by
      have z := addD_h (D := up (pgD D (D 70 4) (D 70 4) a1 a2 a3 0 (-1) (-1) 0 (-1) (-1) 0) 2504 (D 70 4) (D 70 0 + D 76 (D 75 (D 77 a2)))) (l := 5) (by rw [f0]; omega)
      rw [hD1, f0] at z; simp (disch := decide) only [up_cf] at z; rw [pgD_h.1, pgD_h.2] at z; omega
    have e3 : v_X12_placing D1 a1 a2 a3 = D 70 4 := by
      unfold v_X12_placing v_X12_isServant v_X12_isPlace
      simp (disch := decide) only [g]
      rw [if_neg (show ¬ v_X12_isIn D1 a1 0 (wr (D 70 1 - 1)) = 0 from (isSv hI.iv).mpr q.1), if_neg (show ¬ v_X12_isIn D1 a2 0 (wr (D 70 3 - 1)) = 0 from (isPl hI.iv).mpr q.2.1), if_neg (isI.mpr q.2.2.1), if_neg (show ¬ D 70 4 = 60 by omega), wr_id (z := D 70 4 + 1) (by omega) (by omega), wr_id (by omega) (by omega)]; omega
    have e2 : u_X12_placing D1 a1 a2 a3 = up (up (up (up (up (up (up (up D1 83 (D 70 4) a1) 84 (D 70 4) a2) 85 (D 70 4) a3) 86 (D 70 4) (D 70 0 + D 76 (D 75 (D 77 a2)))) 87 (D 70 4) 5000) 88 (D 70 4) (-1)) 91 (D 70 4) 5000) 70 4 (D 70 4 + 1) := by
      unfold u_X12_placing v_X12_isServant v_X12_isPlace v_X12_letters
      simp (disch := decide) only [up_cf, g]
      rw [if_neg (show ¬ v_X12_isIn D1 a1 0 (wr (D 70 1 - 1)) = 0 from (isSv hI.iv).mpr q.1), if_neg (show ¬ v_X12_isIn D1 a2 0 (wr (D 70 3 - 1)) = 0 from (isPl hI.iv).mpr q.2.1), if_neg (isI.mpr q.2.2.1), if_neg (show ¬ D 70 4 = 60 by omega), wr_id (z := D 70 4 + 1) (by omega) (by omega), wr_id (z := D 70 0 + D 76 (D 75 (D 77 a2))) (by omega) (by omega)]
    have pM : p_X12_placing D1 a1 a2 a3 := by
      unfold p_X12_placing v_X12_isServant v_X12_isPlace p_X12_letters; simp (disch := decide) only [up_cf, g]; repeat' split
      all_goals first | trivial | omega | exact ⟨by omega, by omega, by omega, by omega⟩
    refine ⟨D 70 4, A1, D1, _, E1.le (by decide), (Ev_D (Ev_i (ev_X12_placing (n := 0) a1 a2 a3 h1 h2 h3 pM) e3) e2).le (by decide), ⟨?_, ?_⟩, ?_⟩
    · obtain ⟨p1, p2, p3, p4, p5, p6, p7, p8, p9, p10, p11, p12, p13, p14, p15⟩ := hI.iv
      refine iv15 ?_ ?_ ?_ ?_ ?_ ?_ ?_ ?_ ?_ ?_ ?_ ?_ ?_ ?_ ?_
      · simp (disch := decide) only [I_ct, up_cf, up_i, up_eq, g]
        rw [gz0, gzn 0 (by decide), gzn 1 (by decide)]
        exact ⟨hc.1, hc.2.1, hc.2.2.1, hc.2.2.2.1, rfl, by omega, by omega⟩
      · simp (disch := decide) only [I_cu, up_cf, up_i, up_eq, g]
        rw [gzn 2 (by decide), gzn 3 (by decide)]; exact p2
      · simpa (disch := decide) only [I_tp, up_cf, up_i, up_eq, g] using p3
      · simpa (disch := decide) only [I_lg, up_cf, up_i, up_eq, g] using p4
      · simpa (disch := decide) only [I_hs, up_cf, up_i, up_eq, g] using p5
      · simpa (disch := decide) only [I_sv, up_cf, up_i, up_eq, g] using p6
      · simpa (disch := decide) only [I_pl, up_cf, up_i, up_eq, g] using p7
      · simp (disch := decide) only [I_pg, up_cf, up_i, up_eq, g]
        intro j j0 j1
        by_cases e : j = D 70 4
        · subst e
          simp only [up_eq, gi.1, gi.2.1, gi.2.2.1, gi.2.2.2.1, gi.2.2.2.2.1, gi.2.2.2.2.2.1, gi.2.2.2.2.2.2.1, gi.2.2.2.2.2.2.2.1, gi.2.2.2.2.2.2.2.2.1, gi.2.2.2.2.2.2.2.2.2.1, gi.2.2.2.2.2.2.2.2.2.2]
          exact ⟨trivial, trivial, trivial, trivial, trivial, trivial, by rfl, by rfl, by omega, by omega, by omega, by omega, by omega, by omega, by omega, by omega, Or.inl trivial, Or.inl ⟨trivial, trivial, trivial⟩⟩
        · have z := gj j e
          simp (disch := decide) only [up_i e, z.1, z.2.1, z.2.2.1, z.2.2.2.1, z.2.2.2.2.1, z.2.2.2.2.2.1, z.2.2.2.2.2.2.1, z.2.2.2.2.2.2.2.1, z.2.2.2.2.2.2.2.2.1, z.2.2.2.2.2.2.2.2.2.1, z.2.2.2.2.2.2.2.2.2.2, g]
          exact p8 j j0 (by omega)
      · simp (disch := decide) only [I_bx, up_cf, up_i, up_eq, g]
        refine ⟨fun j j0 j1 => ?_, fun k k0 k1 => by have := p9.2 k k0 k1; omega⟩
        by_cases e : j = D 70 4
        · subst e
          refine Or.inr ⟨gi.2.2.2.2.2.2.2.2.2.2, fun k k0 k1 => by have := p9.2 k k0 k1; omega⟩
        · rw [(gj j e).2.2.2.2.2.2.2.2.2.2]; exact p9.1 j j0 (by omega)
      · simpa (disch := decide) only [I_tm, up_cf, up_i, up_eq, g] using p10
      · simpa (disch := decide) only [I_ak, v_X12_ageOn, up_cf, up_i, up_eq, g] using p11
      · simpa (disch := decide) only [I_ws, up_cf, up_i, up_eq, g] using p12
      · simpa (disch := decide) only [I_wf, up_cf, up_i, up_eq, g] using p13
      · simpa (disch := decide) only [I_td, up_cf, up_i, up_eq, g] using p14
      · simpa (disch := decide) only [I_cn, up_cf, up_i, up_eq, g] using p15
    · refine Irb_k (fun c' z => ?_) ⟨by rw [up_i (by decide)]; simp (disch := decide) only [up_cf, g], by rw [up_i (by decide)]; simp (disch := decide) only [up_cf, g]⟩ (fun j z => ?_) hI.rb
      · rw [up_cf (nrb z rfl), up_cf (nrb z rfl), up_cf (nrb z rfl), up_cf (nrb z rfl), up_cf (nrb z rfl), up_cf (nrb z rfl), up_cf (nrb z rfl), up_cf (nrb z rfl)]
        refine g c' ⟨nrb z rfl, nrb z rfl, nrb z rfl, nrb z rfl, nrb z rfl, nrb z rfl, nrb z rfl, ?_⟩
        have y2500 : c' ≠ 2500 := nrb z rfl
        have y2501 : c' ≠ 2501 := nrb z rfl
        have y2502 : c' ≠ 2502 := nrb z rfl
        have y2503 : c' ≠ 2503 := nrb z rfl
        have y2504 : c' ≠ 2504 := nrb z rfl
        have y2505 : c' ≠ 2505 := nrb z rfl
        have y2506 : c' ≠ 2506 := nrb z rfl
        have y2507 : c' ≠ 2507 := nrb z rfl
        have y2508 : c' ≠ 2508 := nrb z rfl
        have y2509 : c' ≠ 2509 := nrb z rfl
        have y2510 : c' ≠ 2510 := nrb z rfl
        omega
      · simp (disch := decide) only [up_cf]
        exact gzn j (by omega)
    · unfold Fr
      simp (disch := decide) only [up_cf, g]
      refine ⟨trivial, trivial, by omega, by omega, fun _ => ?_⟩
      have hx := addD_hp (E := up (pgD D (D 70 4) (D 70 4) a1 a2 a3 0 (-1) (-1) 0 (-1) (-1) 0) 2504 (D 70 4) (D 70 0 + D 76 (D 75 (D 77 a2)))) (l := 5) (fun k => by simp (disch := decide) only [up_cf]; rw [pgD_o (by decide), pgD_o (by decide), pgD_o (by decide)]; exact H1 k) (by simp (disch := decide) only [up_cf]; exact (pgD_o (by decide)).trans F0)
      rw [hD1] at hx
      have w0 : ∀ j, D1 915 j = if j = D 70 4 then 1 else D 915 j := fun j => by rw [← hD1, addD_f (by decide)]; simp (disch := decide) only [up_cf]; exact pgD_915
      refine ⟨?_, ?_, ?_, ?_, ?_, ?_, ?_, ?_, ?_⟩
      · simp only [g 900 (by decide)] at hx; exact hx
      · rw [gzn 0 (by decide)]; exact H2
      · rw [gzn 1 (by decide)]; exact H3
      · rw [gzn 2 (by decide)]; exact H4
      · rw [gzn 3 (by decide)]; exact H5
      · intro j z
        rw [w0] at z
        rw [gz0]
        by_cases e : j = D 70 4
        · omega
        · rw [if_neg e] at z
          have := H6 j z; omega
      · rw [gzn 4 (by decide)]; exact H7
      · rw [gzn 4 (by decide)]; exact H8
      · rw [gzn 4 (by decide)]; exact H9
  · have qd : v_X12_placing D a1 a2 a3 = -1 ∧ u_X12_placing D a1 a2 a3 = D ∧ p_X12_placing D a1 a2 a3 := by
      unfold v_X12_placing u_X12_placing p_X12_placing
      by_cases c0 : v_X12_isServant D a1 = 0
      · simp only [if_pos c0]; exact ⟨trivial, trivial, trivial⟩
      simp only [if_neg c0]
      have z0 := (isSv hI.iv).mp c0
      by_cases c1 : v_X12_isPlace D a2 = 0
      · simp only [if_pos c1]; exact ⟨trivial, trivial, trivial⟩
      simp only [if_neg c1]
      have z1 := (isPl hI.iv).mp c1
      by_cases c2 : v_X12_isIn D a3 0 (D 70 0) = 0
      · simp only [if_pos c2]; exact ⟨trivial, trivial, trivial⟩
      simp only [if_neg c2]
      have z2 := isI.mp c2
      have zz : D 70 4 = 60 := by omega
      simp only [if_pos zz]; exact ⟨trivial, trivial, trivial⟩
    have eX : Ev 0 9 76 [am_r (some 32), am_i (wz a1), am_i (wz a2), am_i (wz a3)] A D (ri (-1)) A D := by
      refine rl_X11_placing a1 a2 a3 h1 h2 h3 ?_
      rw [xSv hI.iv, xPl hI.iv, inb_eq, hc.2.2.2.2.1, hc.1.1]
      by_cases c0 : v_X12_isServant D a1 = 0
      · rw [if_pos c0]; exact ⟨rfl, rfl, rfl⟩
      rw [if_neg c0]
      by_cases c1 : v_X12_isPlace D a2 = 0
      · rw [if_pos c1]; exact ⟨rfl, rfl, rfl⟩
      rw [if_neg c1]
      by_cases c2 : v_X12_isIn D a3 0 (D 70 0) = 0
      · rw [if_pos c2]; exact ⟨rfl, rfl, rfl⟩
      rw [if_neg c2]
      rw [if_neg (fun z => q ⟨(isSv hI.iv).mp c0, (isPl hI.iv).mp c1, isI.mp c2, z⟩)]; exact ⟨rfl, rfl, rfl⟩
    exact Rd.wr ⟨-1, eX.le (by decide), (Ev_i (Ev_D (ev_X12_placing (n := 0) a1 a2 a3 h1 h2 h3 qd.2.2) qd.2.1) qd.1).le (by decide)⟩ hI
abbrev tmX (c : Nat) : Prop := c ≠ 1000 ∧ c ≠ 1002 ∧ c ≠ 901 ∧ c ≠ 1100 ∧ c ≠ 950 ∧ c ≠ 951 ∧ c ≠ 912 ∧ (c < 2200 ∨ 2205 < c)
theorem c_write (hR : Rp 0 A D s) (hI : Inv D) (hH : Hp D) (hh : D 950 0 ≤ 100000000 ∧ D 951 0 ≤ 100000000) (a1 a2 a3 a4 a5 : Int) (h1 : rg a1) (h2 : rg a2) (h3 : rg a3) (h4 : rg a4) (h5 : rg a5) : Wr 89 180 [am_i (wz a1), am_i (wz a2), am_i (wz a3), am_i (wz a4), am_i (wz a5)] A D := by
  have hc := hI.iv.ct; unfold I_ct at hc
  have hu := hI.iv.cu; unfold I_cu at hu
  by_cases q : (0 ≤ a1 ∧ a1 < D 70 2) ∧ (0 ≤ a2 ∧ a2 < D 70 1) ∧ (0 ≤ a3 ∧ a3 ≤ 9) ∧ (0 ≤ a4 ∧ a4 ≤ D 70 0) ∧ (a4 ≤ a5 ∧ a5 ≤ D 70 0) ∧ D 70 51 < 60
  · obtain ⟨H1, H2, H3, H4, H5, H6, H7, H8, H9⟩ := hH
    have F0 : D 900 2 = 1 := (Rp_cl hR).2.2.2.2.2.2.2.2.2.2.2.2.2.1
    have ez : D 1002 2 = D 70 51 := hu.1.1
    have E1 : Ev 0 9 89 [am_r (some 32), am_i (wz a1), am_i (wz a2), am_i (wz a3), am_i (wz a4), am_i (wz a5)] A D (ri (D 70 51)) (addA (upA A 12 (D 70 51) (D 950 0).toNat) (up (up (tmD D (D 70 51) a1 a2 a3 (D 70 0) 0 0) 2204 (D 70 51) a4) 2205 (D 70 51) a5) 2) (addD (up (up (tmD D (D 70 51) a1 a2 a3 (D 70 0) 0 0) 2204 (D 70 51) a4) 2205 (D 70 51) a5) 2) := by
      refine rl_X11_write a1 a2 a3 a4 a5 h1 h2 h3 h4 h5 ?_
      rw [xHs hI.iv, xSv hI.iv, inb_eq, inb_eq, inb_eq, ez, if_neg ((isHs hI.iv).mpr q.1), if_neg ((isSv hI.iv).mpr q.2.1), hc.1.1, if_neg (isI.mpr q.2.2.1), if_neg (isI.mpr q.2.2.2.1), if_neg (isI.mpr q.2.2.2.2.1), if_pos q.2.2.2.2.2]
      refine K_tm (fun i z => (H1 i z).1) (fun z => by have := H4 _ z; omega) h1 h2 h3 (by omega) ?_
      rw [ez, hc.1.1]
      refine rl_X11_write_93 a1 a2 a3 a4 a5 1 (D 70 51) h1 h2 h3 h4 h5 ⟨by decide, by decide⟩ ⟨by decide, by decide⟩ (by rw [tmD_912, if_pos rfl]) ?_
      refine ⟨⟨?_, ?_, ?_, ?_, ?_⟩, ?_⟩
      · simp (disch := decide) only [up_cf]
        rw [tmD_o (by decide), ez]; exact (Int.zero_add _).symm
      · simp (disch := decide) only [up_cf]
        rw [tmD_o (by decide), ez]; omega
      · simp (disch := decide) only [up_cf]
        rw [tmD_o (by decide), tmD_o (by decide)]; exact fun z => (H1 2 z).2
      · simp (disch := decide) only [up_cf]
        rw [tmD_h.1]; omega
      · simp (disch := decide) only [up_cf]
        rw [tmD_h.2]; omega
      · refine rl_X11_write_119 a1 a2 a3 a4 a5 1 (D 70 51) h1 h2 h3 h4 h5 ⟨by decide, by decide⟩ ⟨by decide, by decide⟩ ?_ ⟨rfl, ?_, rfl⟩
        · simp (disch := decide) only [addD_f, up_cf]
          rw [tmD_912, if_pos rfl]
        · rw [addD_z, if_pos rfl]
          simp (disch := decide) only [up_cf]
          rw [tmD_o (by decide), ez, wr_id (by omega) (by omega)]; omega
    generalize hA1 : addA (upA A 12 (D 70 51) (D 950 0).toNat) (up (up (tmD D (D 70 51) a1 a2 a3 (D 70 0) 0 0) 2204 (D 70 51) a4) 2205 (D 70 51) a5) 2 = A1 at E1
    generalize hD1 : addD (up (up (tmD D (D 70 51) a1 a2 a3 (D 70 0) 0 0) 2204 (D 70 51) a4) 2205 (D 70 51) a5) 2 = D1 at E1
    have f0 : (up (up (tmD D (D 70 51) a1 a2 a3 (D 70 0) 0 0) 2204 (D 70 51) a4) 2205 (D 70 51) a5) 1002 = D 1002 := funext fun j => by simp (disch := decide) only [up_cf]; exact tmD_o (by decide)
    have g : ∀ c', tmX c' → D1 c' = D c' := fun c' z => by
      rw [← hD1, addD_f (by omega)]; rw [up_cf (by omega), up_cf (by omega)]; funext j; exact tmD_o (by omega)
    have gz : ∀ j, D1 1002 j = if j = 2 then D 70 51 + 1 else D 1002 j := fun j => by rw [← hD1, addD_z, f0, ez]
    have gz0 : D1 1002 2 = D 70 51 + 1 := by rw [gz, if_pos rfl]
    have gzn : ∀ j, j ≠ 2 → D1 1002 j = D 1002 j := fun j z => by rw [gz, if_neg z]
    obtain ⟨k0, k1, k2, k3, k4, k5⟩ := tmD_f (D := D) (i := D 70 51) (x0 := a1) (x1 := a2) (x2 := a3) (x3 := D 70 0) (x4 := 0) (x5 := 0)
    have gi : D1 2200 (D 70 51) = a1 ∧ D1 2201 (D 70 51) = a2 ∧ D1 2202 (D 70 51) = a3 ∧ D1 2203 (D 70 51) = D 70 0 ∧ D1 2204 (D 70 51) = a4 ∧ D1 2205 (D 70 51) = a5 := by
      rw [← hD1]; simp (disch := decide) only [addD_f, up_cf, up_eq]; exact ⟨k0, k1, k2, k3, trivial, trivial⟩
    have tj : ∀ c' j, c' ≠ 950 ∧ c' ≠ 951 → j ≠ D 70 51 → (tmD D (D 70 51) a1 a2 a3 (D 70 0) 0 0) c' j = D c' j := fun c' j h hj => by
      unfold tmD
      rw [up_c h.2, up_c h.1, up_i hj, up_i hj, up_i hj, up_i hj, up_i hj, up_i hj, up_i hj]
    have gj : ∀ j, j ≠ D 70 51 → D1 2200 j = D 2200 j ∧ D1 2201 j = D 2201 j ∧ D1 2202 j = D 2202 j ∧ D1 2203 j = D 2203 j ∧ D1 2204 j = D 2204 j ∧ D1 2205 j = D 2205 j := fun j z => by
      rw [← hD1]; simp (disch := decide) only [addD_f, up_cf]
      simp only [up_i z]
      exact ⟨tj _ j (by decide) z, tj _ j (by decide) z, tj _ j (by decide) z, tj _ j (by decide) z, tj _ j (by decide) z, tj _ j (by decide) z⟩
    have g9 : D1 950 0 ≤ D 950 0 + 2 ∧ D1 951 0 ≤ D 951 0 + 136 := by
      have z := addD_h (D := up (up (tmD D (D 70 51) a1 a2 a3 (D 70 0) 0 0) 2204 (D 70 51) a4) 2205 (D 70 51) a5) (l := 2) (by rw [f0]; omega)
      rw [hD1, f0] at z; simp (disch := decide) only [up_cf] at z; rw [tmD_h.1, tmD_h.2] at z; omega
    have e3 : v_X12_write D1 a1 a2 a3 a4 a5 = D 70 51 := by
      unfold v_X12_write v_X12_isHouse v_X12_isServant
      simp (disch := decide) only [g]
      rw [if_neg (show ¬ v_X12_isIn D1 a1 0 (wr (D 70 2 - 1)) = 0 from (isHs hI.iv).mpr q.1), if_neg (show ¬ v_X12_isIn D1 a2 0 (wr (D 70 1 - 1)) = 0 from (isSv hI.iv).mpr q.2.1), if_neg (isI.mpr q.2.2.1), if_neg (isI.mpr ⟨by omega, q.2.2.2.2.1.2⟩), if_neg (isI.mpr ⟨q.2.2.2.1.1, q.2.2.2.2.1.1⟩), if_neg (show ¬ D 70 51 = 60 by omega), wr_id (z := D 70 51 + 1) (by omega) (by omega), wr_id (by omega) (by omega)]; omega
    have e2 : u_X12_write D1 a1 a2 a3 a4 a5 = up (up (up (up (up (up (up D1 108 (D 70 51) a1) 109 (D 70 51) a2) 110 (D 70 51) a3) 111 (D 70 51) a4) 112 (D 70 51) a5) 113 (D 70 51) (D 70 0)) 70 51 (D 70 51 + 1) := by
      unfold u_X12_write v_X12_isHouse v_X12_isServant
      simp (disch := decide) only [up_cf, g]
      rw [if_neg (show ¬ v_X12_isIn D1 a1 0 (wr (D 70 2 - 1)) = 0 from (isHs hI.iv).mpr q.1), if_neg (show ¬ v_X12_isIn D1 a2 0 (wr (D 70 1 - 1)) = 0 from (isSv hI.iv).mpr q.2.1), if_neg (isI.mpr q.2.2.1), if_neg (isI.mpr ⟨by omega, q.2.2.2.2.1.2⟩), if_neg (isI.mpr ⟨q.2.2.2.1.1, q.2.2.2.2.1.1⟩), if_neg (show ¬ D 70 51 = 60 by omega), wr_id (z := D 70 51 + 1) (by omega) (by omega)]
    have pM : p_X12_write D1 a1 a2 a3 a4 a5 := by
      unfold p_X12_write v_X12_isHouse v_X12_isServant; simp (disch := decide) only [up_cf, g]; repeat' split
      all_goals first | trivial | omega
    refine ⟨D 70 51, A1, D1, _, E1.le (by decide), (Ev_D (Ev_i (ev_X12_write (n := 0) a1 a2 a3 a4 a5 h1 h2 h3 h4 h5 pM) e3) e2).le (by decide), ⟨?_, ?_⟩, ?_⟩
    · obtain ⟨p1, p2, p3, p4, p5, p6, p7, p8, p9, p10, p11, p12, p13, p14, p15⟩ := hI.iv
      refine iv15 ?_ ?_ ?_ ?_ ?_ ?_ ?_ ?_ ?_ ?_ ?_ ?_ ?_ ?_ ?_
      · simp (disch := decide) only [I_ct, up_cf, up_i, up_eq, g]
        rw [gzn 0 (by decide), gzn 1 (by decide), gzn 5 (by decide)]
        exact hc
      · simp (disch := decide) only [I_cu, up_cf, up_i, up_eq, g]
        rw [gz0, gzn 3 (by decide)]
        exact ⟨⟨rfl, by omega, by omega⟩, hu.2⟩
      · simpa (disch := decide) only [I_tp, up_cf, up_i, up_eq, g] using p3
      · simpa (disch := decide) only [I_lg, up_cf, up_i, up_eq, g] using p4
      · simpa (disch := decide) only [I_hs, up_cf, up_i, up_eq, g] using p5
      · simpa (disch := decide) only [I_sv, up_cf, up_i, up_eq, g] using p6
      · simpa (disch := decide) only [I_pl, up_cf, up_i, up_eq, g] using p7
      · simpa (disch := decide) only [I_pg, up_cf, up_i, up_eq, g] using p8
      · simpa (disch := decide) only [I_bx, up_cf, up_i, up_eq, g] using p9
      · simp (disch := decide) only [I_tm, up_cf, up_i, up_eq, g]
        intro j j0 j1
        by_cases e : j = D 70 51
        · subst e
          simp only [up_eq, gi.1, gi.2.1, gi.2.2.1, gi.2.2.2.1, gi.2.2.2.2.1, gi.2.2.2.2.2]
          exact ⟨trivial, trivial, trivial, trivial, trivial, trivial, by omega, by omega, by omega, by omega, by omega, by omega, by omega, by omega, by omega, by omega, by omega⟩
        · have z := gj j e
          simp (disch := decide) only [up_i e, z.1, z.2.1, z.2.2.1, z.2.2.2.1, z.2.2.2.2.1, z.2.2.2.2.2, g]
          exact p10 j j0 (by omega)
      · simpa (disch := decide) only [I_ak, v_X12_ageOn, up_cf, up_i, up_eq, g] using p11
      · simpa (disch := decide) only [I_ws, up_cf, up_i, up_eq, g] using p12
      · simpa (disch := decide) only [I_wf, up_cf, up_i, up_eq, g] using p13
      · simpa (disch := decide) only [I_td, up_cf, up_i, up_eq, g] using p14
      · simpa (disch := decide) only [I_cn, up_cf, up_i, up_eq, g] using p15
    · refine Irb_k (fun c' z => ?_) ⟨by rw [up_i (by decide)]; simp (disch := decide) only [up_cf, g], by rw [up_i (by decide)]; simp (disch := decide) only [up_cf, g]⟩ (fun j z => ?_) hI.rb
      · rw [up_cf (nrb z rfl), up_cf (nrb z rfl), up_cf (nrb z rfl), up_cf (nrb z rfl), up_cf (nrb z rfl), up_cf (nrb z rfl), up_cf (nrb z rfl)]
        refine g c' ⟨nrb z rfl, nrb z rfl, nrb z rfl, nrb z rfl, nrb z rfl, nrb z rfl, nrb z rfl, ?_⟩
        have y2200 : c' ≠ 2200 := nrb z rfl
        have y2201 : c' ≠ 2201 := nrb z rfl
        have y2202 : c' ≠ 2202 := nrb z rfl
        have y2203 : c' ≠ 2203 := nrb z rfl
        have y2204 : c' ≠ 2204 := nrb z rfl
        have y2205 : c' ≠ 2205 := nrb z rfl
        omega
      · simp (disch := decide) only [up_cf]
        exact gzn j (by omega)
    · unfold Fr
      simp (disch := decide) only [up_cf, g]
      refine ⟨trivial, trivial, by omega, by omega, fun _ => ?_⟩
      have hx := addD_hp (E := up (up (tmD D (D 70 51) a1 a2 a3 (D 70 0) 0 0) 2204 (D 70 51) a4) 2205 (D 70 51) a5) (l := 2) (fun k => by simp (disch := decide) only [up_cf]; rw [tmD_o (by decide), tmD_o (by decide), tmD_o (by decide)]; exact H1 k) (by simp (disch := decide) only [up_cf]; exact (tmD_o (by decide)).trans F0)
      rw [hD1] at hx
      have w0 : ∀ j, D1 912 j = if j = D 70 51 then 1 else D 912 j := fun j => by rw [← hD1, addD_f (by decide)]; simp (disch := decide) only [up_cf]; exact tmD_912
      refine ⟨?_, ?_, ?_, ?_, ?_, ?_, ?_, ?_, ?_⟩
      · simp only [g 900 (by decide)] at hx; exact hx
      · rw [gzn 0 (by decide)]; exact H2
      · rw [gzn 1 (by decide)]; exact H3
      · intro j z
        rw [w0] at z
        rw [gz0]
        by_cases e : j = D 70 51
        · omega
        · rw [if_neg e] at z
          have := H4 j z; omega
      · rw [gzn 3 (by decide)]; exact H5
      · rw [gzn 5 (by decide)]; exact H6
      · rw [gzn 4 (by decide)]; exact H7
      · rw [gzn 4 (by decide)]; exact H8
      · rw [gzn 4 (by decide)]; exact H9
  · have qd : v_X12_write D a1 a2 a3 a4 a5 = -1 ∧ u_X12_write D a1 a2 a3 a4 a5 = D ∧ p_X12_write D a1 a2 a3 a4 a5 := by
      unfold v_X12_write u_X12_write p_X12_write
      by_cases c0 : v_X12_isHouse D a1 = 0
      · simp only [if_pos c0]; exact ⟨trivial, trivial, trivial⟩
      simp only [if_neg c0]
      have z0 := (isHs hI.iv).mp c0
      by_cases c1 : v_X12_isServant D a2 = 0
      · simp only [if_pos c1]; exact ⟨trivial, trivial, trivial⟩
      simp only [if_neg c1]
      have z1 := (isSv hI.iv).mp c1
      by_cases c2 : v_X12_isIn D a3 0 9 = 0
      · simp only [if_pos c2]; exact ⟨trivial, trivial, trivial⟩
      simp only [if_neg c2]
      have z2 := isI.mp c2
      by_cases c3 : v_X12_isIn D a5 0 (D 70 0) = 0
      · simp only [if_pos c3]; exact ⟨trivial, trivial, trivial⟩
      simp only [if_neg c3]
      have z3 := isI.mp c3
      by_cases c4 : v_X12_isIn D a4 0 a5 = 0
      · simp only [if_pos c4]; exact ⟨trivial, trivial, trivial⟩
      simp only [if_neg c4]
      have z4 := isI.mp c4
      have zz : D 70 51 = 60 := by omega
      simp only [if_pos zz]; exact ⟨trivial, trivial, trivial⟩
    have eX : Ev 0 9 89 [am_r (some 32), am_i (wz a1), am_i (wz a2), am_i (wz a3), am_i (wz a4), am_i (wz a5)] A D (ri (-1)) A D := by
      refine rl_X11_write a1 a2 a3 a4 a5 h1 h2 h3 h4 h5 ?_
      rw [xHs hI.iv, xSv hI.iv, inb_eq, inb_eq, inb_eq, hu.1.1, hc.1.1]
      by_cases c0 : v_X12_isHouse D a1 = 0
      · rw [if_pos c0]; exact ⟨rfl, rfl, rfl⟩
      rw [if_neg c0]
      by_cases c1 : v_X12_isServant D a2 = 0
      · rw [if_pos c1]; exact ⟨rfl, rfl, rfl⟩
      rw [if_neg c1]
      by_cases c2 : v_X12_isIn D a3 0 9 = 0
      · rw [if_pos c2]; exact ⟨rfl, rfl, rfl⟩
      rw [if_neg c2]
      by_cases c3 : v_X12_isIn D a4 0 (D 70 0) = 0
      · rw [if_pos c3]; exact ⟨rfl, rfl, rfl⟩
      rw [if_neg c3]
      by_cases c4 : v_X12_isIn D a5 a4 (D 70 0) = 0
      · rw [if_pos c4]; exact ⟨rfl, rfl, rfl⟩
      rw [if_neg c4]
      rw [if_neg (fun z => q ⟨(isHs hI.iv).mp c0, (isSv hI.iv).mp c1, isI.mp c2, isI.mp c3, isI.mp c4, z⟩)]; exact ⟨rfl, rfl, rfl⟩
    exact Rd.wr ⟨-1, eX.le (by decide), (Ev_i (Ev_D (ev_X12_write (n := 0) a1 a2 a3 a4 a5 h1 h2 h3 h4 h5 qd.2.2) qd.2.1) qd.1).le (by decide)⟩ hI
abbrev akX (c : Nat) : Prop := c ≠ 1000 ∧ c ≠ 1002 ∧ c ≠ 901 ∧ c ≠ 1100 ∧ c ≠ 950 ∧ c ≠ 951 ∧ c ≠ 913 ∧ (c < 2300 ∨ 2303 < c)
theorem c_ask (hR : Rp 0 A D s) (hI : Inv D) (hH : Hp D) (hh : D 950 0 ≤ 100000000 ∧ D 951 0 ≤ 100000000) (a1 a2 a3 : Int) (h1 : rg a1) (h2 : rg a2) (h3 : rg a3) (hb : 0 ≤ a3 ∧ a3 ≤ 1) : Wr 102 205 [am_i (wz a1), am_i (wz a2), am_i (wz a3)] A D := by
  have hc := hI.iv.ct; unfold I_ct at hc
  have hu := hI.iv.cu; unfold I_cu at hu
  by_cases q : (0 ≤ a1 ∧ a1 < D 70 1) ∧ (0 ≤ a2 ∧ a2 < D 70 3) ∧ D 70 78 < 60
  · obtain ⟨H1, H2, H3, H4, H5, H6, H7, H8, H9⟩ := hH
    have F0 : D 900 3 = 1 := (Rp_cl hR).2.2.2.2.2.2.2.2.2.2.2.2.2.2.1
    have ez : D 1002 3 = D 70 78 := hu.2.1.1
    have E1 : Ev 0 9 102 [am_r (some 32), am_i (wz a1), am_i (wz a2), am_i (wz a3)] A D (ri (D 70 78)) (addA (upA A 13 (D 70 78) (D 950 0).toNat) (akD D (D 70 78) a1 a2 (wr ((max 0 (wr (D 32 14 - D 2001 a1))).tdiv 365)) a3) 3) (addD (akD D (D 70 78) a1 a2 (wr ((max 0 (wr (D 32 14 - D 2001 a1))).tdiv 365)) a3) 3) := by
      refine rl_X11_ask a1 a2 a3 h1 h2 h3 hb ?_
      rw [xSv hI.iv, xPl hI.iv, ez, if_neg ((isSv hI.iv).mpr q.1), if_neg ((isPl hI.iv).mpr q.2.1), if_pos q.2.2]
      refine K_ak (fun i z => (H1 i z).1) (fun z => (H1 3 z).2) (by omega) (fun z => by have := H5 _ z; omega) (by omega) (by omega) hb hh ?_
      rw [ez]
      refine rl_X11_ask_72 a1 a2 a3 h1 h2 h3 hb ⟨rfl, ?_, rfl⟩
      rw [addD_z, if_pos rfl, akD_o (by decide), ez, wr_id (by omega) (by omega)]; omega
    generalize hA1 : addA (upA A 13 (D 70 78) (D 950 0).toNat) (akD D (D 70 78) a1 a2 (wr ((max 0 (wr (D 32 14 - D 2001 a1))).tdiv 365)) a3) 3 = A1 at E1
    generalize hD1 : addD (akD D (D 70 78) a1 a2 (wr ((max 0 (wr (D 32 14 - D 2001 a1))).tdiv 365)) a3) 3 = D1 at E1
    have f0 : (akD D (D 70 78) a1 a2 (wr ((max 0 (wr (D 32 14 - D 2001 a1))).tdiv 365)) a3) 1002 = D 1002 := funext fun j => akD_o (by decide)
    have g : ∀ c', akX c' → D1 c' = D c' := fun c' z => by
      rw [← hD1, addD_f (by omega)]; funext j; exact akD_o (by omega)
    have gz : ∀ j, D1 1002 j = if j = 3 then D 70 78 + 1 else D 1002 j := fun j => by rw [← hD1, addD_z, f0, ez]
    have gz0 : D1 1002 3 = D 70 78 + 1 := by rw [gz, if_pos rfl]
    have gzn : ∀ j, j ≠ 3 → D1 1002 j = D 1002 j := fun j z => by rw [gz, if_neg z]
    obtain ⟨k0, k1, k2, k3⟩ := akD_f (D := D) (i := D 70 78) (x0 := a1) (x1 := a2) (x2 := (wr ((max 0 (wr (D 32 14 - D 2001 a1))).tdiv 365))) (x3 := a3)
    have gi : D1 2300 (D 70 78) = a1 ∧ D1 2301 (D 70 78) = a2 ∧ D1 2302 (D 70 78) = (wr ((max 0 (wr (D 32 14 - D 2001 a1))).tdiv 365)) ∧ D1 2303 (D 70 78) = a3 := by
      rw [← hD1]; simp (disch := decide) only [addD_f]; exact ⟨k0, k1, k2, k3⟩
    have gj : ∀ j, j ≠ D 70 78 → D1 2300 j = D 2300 j ∧ D1 2301 j = D 2301 j ∧ D1 2302 j = D 2302 j ∧ D1 2303 j = D 2303 j := fun j z => by
      rw [← hD1]; simp (disch := decide) only [addD_f]
      exact ⟨akD_j (by decide) z, akD_j (by decide) z, akD_j (by decide) z, akD_j (by decide) z⟩
    have g9 : D1 950 0 ≤ D 950 0 + 2 ∧ D1 951 0 ≤ D 951 0 + 134 := by
      have z := addD_h (D := akD D (D 70 78) a1 a2 (wr ((max 0 (wr (D 32 14 - D 2001 a1))).tdiv 365)) a3) (l := 3) (by rw [f0]; omega)
      rw [hD1, f0, akD_h.1, akD_h.2] at z; omega
    have ea := (age_eq hI.iv q.1.1 q.1.2 hc.1.2.1 hc.1.2.2).1
    unfold v_X8_ageOn v_X12_ageOn at ea
    have e3 : v_X12_ask D1 a1 a2 a3 = D 70 78 := by
      unfold v_X12_ask v_X12_isServant v_X12_isPlace
      simp (disch := decide) only [g]
      rw [if_neg (show ¬ v_X12_isIn D1 a1 0 (wr (D 70 1 - 1)) = 0 from (isSv hI.iv).mpr q.1), if_neg (show ¬ v_X12_isIn D1 a2 0 (wr (D 70 3 - 1)) = 0 from (isPl hI.iv).mpr q.2.1), if_neg (show ¬ D 70 78 = 60 by omega), wr_id (z := D 70 78 + 1) (by omega) (by omega), wr_id (by omega) (by omega)]; omega
    have e2 : u_X12_ask D1 a1 a2 a3 = up (up (up (up (up D1 130 (D 70 78) a1) 131 (D 70 78) a2) 132 (D 70 78) (D 70 0)) 133 (D 70 78) a3) 70 78 (D 70 78 + 1) := by
      unfold u_X12_ask v_X12_isServant v_X12_isPlace
      simp (disch := decide) only [up_cf, g]
      rw [if_neg (show ¬ v_X12_isIn D1 a1 0 (wr (D 70 1 - 1)) = 0 from (isSv hI.iv).mpr q.1), if_neg (show ¬ v_X12_isIn D1 a2 0 (wr (D 70 3 - 1)) = 0 from (isPl hI.iv).mpr q.2.1), if_neg (show ¬ D 70 78 = 60 by omega), wr_id (z := D 70 78 + 1) (by omega) (by omega)]
    have pM : p_X12_ask D1 a1 a2 a3 := by
      unfold p_X12_ask v_X12_isServant v_X12_isPlace; simp (disch := decide) only [up_cf, g]; repeat' split
      all_goals first | trivial | omega
    refine ⟨D 70 78, A1, D1, _, E1.le (by decide), (Ev_D (Ev_i (ev_X12_ask (n := 0) a1 a2 a3 h1 h2 h3 hb pM) e3) e2).le (by decide), ⟨?_, ?_⟩, ?_⟩
    · obtain ⟨p1, p2, p3, p4, p5, p6, p7, p8, p9, p10, p11, p12, p13, p14, p15⟩ := hI.iv
      refine iv15 ?_ ?_ ?_ ?_ ?_ ?_ ?_ ?_ ?_ ?_ ?_ ?_ ?_ ?_ ?_
      · simp (disch := decide) only [I_ct, up_cf, up_i, up_eq, g]
        rw [gzn 0 (by decide), gzn 1 (by decide), gzn 5 (by decide)]
        exact hc
      · simp (disch := decide) only [I_cu, up_cf, up_i, up_eq, g]
        rw [gz0, gzn 2 (by decide)]
        exact ⟨hu.1, ⟨rfl, by omega, by omega⟩, hu.2.2⟩
      · simpa (disch := decide) only [I_tp, up_cf, up_i, up_eq, g] using p3
      · simpa (disch := decide) only [I_lg, up_cf, up_i, up_eq, g] using p4
      · simpa (disch := decide) only [I_hs, up_cf, up_i, up_eq, g] using p5
      · simpa (disch := decide) only [I_sv, up_cf, up_i, up_eq, g] using p6
      · simpa (disch := decide) only [I_pl, up_cf, up_i, up_eq, g] using p7
      · simpa (disch := decide) only [I_pg, up_cf, up_i, up_eq, g] using p8
      · simpa (disch := decide) only [I_bx, up_cf, up_i, up_eq, g] using p9
      · simpa (disch := decide) only [I_tm, up_cf, up_i, up_eq, g] using p10
      · simp (disch := decide) only [I_ak, v_X12_ageOn, up_cf, up_i, up_eq, g]
        intro j j0 j1
        by_cases e : j = D 70 78
        · subst e
          simp only [up_eq, gi.1, gi.2.1, gi.2.2.1, gi.2.2.2]
          rw [hc.1.1]
          exact ⟨trivial, trivial, ea, trivial, by omega, by omega, by omega, by omega, by omega, by omega, by omega, by omega⟩
        · have z := gj j e
          simp (disch := decide) only [up_i e, z.1, z.2.1, z.2.2.1, z.2.2.2, g]
          exact p11 j j0 (by omega)
      · simpa (disch := decide) only [I_ws, up_cf, up_i, up_eq, g] using p12
      · simpa (disch := decide) only [I_wf, up_cf, up_i, up_eq, g] using p13
      · simpa (disch := decide) only [I_td, up_cf, up_i, up_eq, g] using p14
      · simpa (disch := decide) only [I_cn, up_cf, up_i, up_eq, g] using p15
    · refine Irb_k (fun c' z => ?_) ⟨by rw [up_i (by decide)]; simp (disch := decide) only [up_cf, g], by rw [up_i (by decide)]; simp (disch := decide) only [up_cf, g]⟩ (fun j z => ?_) hI.rb
      · rw [up_cf (nrb z rfl), up_cf (nrb z rfl), up_cf (nrb z rfl), up_cf (nrb z rfl), up_cf (nrb z rfl)]
        refine g c' ⟨nrb z rfl, nrb z rfl, nrb z rfl, nrb z rfl, nrb z rfl, nrb z rfl, nrb z rfl, ?_⟩
        have y2300 : c' ≠ 2300 := nrb z rfl
        have y2301 : c' ≠ 2301 := nrb z rfl
        have y2302 : c' ≠ 2302 := nrb z rfl
        have y2303 : c' ≠ 2303 := nrb z rfl
        omega
      · simp (disch := decide) only [up_cf]
        exact gzn j (by omega)
    · unfold Fr
      simp (disch := decide) only [up_cf, g]
      refine ⟨trivial, trivial, by omega, by omega, fun _ => ?_⟩
      have hx := addD_hp (E := akD D (D 70 78) a1 a2 (wr ((max 0 (wr (D 32 14 - D 2001 a1))).tdiv 365)) a3) (l := 3) (fun k => by rw [akD_o (by decide), akD_o (by decide), akD_o (by decide)]; exact H1 k) ((akD_o (by decide)).trans F0)
      rw [hD1] at hx
      have w0 : ∀ j, D1 913 j = if j = D 70 78 then 1 else D 913 j := fun j => by rw [← hD1, addD_f (by decide)]; exact akD_913
      refine ⟨?_, ?_, ?_, ?_, ?_, ?_, ?_, ?_, ?_⟩
      · simp only [g 900 (by decide)] at hx; exact hx
      · rw [gzn 0 (by decide)]; exact H2
      · rw [gzn 1 (by decide)]; exact H3
      · rw [gzn 2 (by decide)]; exact H4
      · intro j z
        rw [w0] at z
        rw [gz0]
        by_cases e : j = D 70 78
        · omega
        · rw [if_neg e] at z
          have := H5 j z; omega
      · rw [gzn 5 (by decide)]; exact H6
      · rw [gzn 4 (by decide)]; exact H7
      · rw [gzn 4 (by decide)]; exact H8
      · rw [gzn 4 (by decide)]; exact H9
  · have qd : v_X12_ask D a1 a2 a3 = -1 ∧ u_X12_ask D a1 a2 a3 = D ∧ p_X12_ask D a1 a2 a3 := by
      unfold v_X12_ask u_X12_ask p_X12_ask
      by_cases c0 : v_X12_isServant D a1 = 0
      · simp only [if_pos c0]; exact ⟨trivial, trivial, trivial⟩
      simp only [if_neg c0]
      have z0 := (isSv hI.iv).mp c0
      by_cases c1 : v_X12_isPlace D a2 = 0
      · simp only [if_pos c1]; exact ⟨trivial, trivial, trivial⟩
      simp only [if_neg c1]
      have z1 := (isPl hI.iv).mp c1
      have zz : D 70 78 = 60 := by omega
      simp only [if_pos zz]; exact ⟨trivial, trivial, trivial⟩
    have eX : Ev 0 9 102 [am_r (some 32), am_i (wz a1), am_i (wz a2), am_i (wz a3)] A D (ri (-1)) A D := by
      refine rl_X11_ask a1 a2 a3 h1 h2 h3 hb ?_
      rw [xSv hI.iv, xPl hI.iv, hu.2.1.1]
      by_cases c0 : v_X12_isServant D a1 = 0
      · rw [if_pos c0]; exact ⟨rfl, rfl, rfl⟩
      rw [if_neg c0]
      by_cases c1 : v_X12_isPlace D a2 = 0
      · rw [if_pos c1]; exact ⟨rfl, rfl, rfl⟩
      rw [if_neg c1]
      rw [if_neg (fun z => q ⟨(isSv hI.iv).mp c0, (isPl hI.iv).mp c1, z⟩)]; exact ⟨rfl, rfl, rfl⟩
    exact Rd.wr ⟨-1, eX.le (by decide), (Ev_i (Ev_D (ev_X12_ask (n := 0) a1 a2 a3 h1 h2 h3 hb qd.2.2) qd.2.1) qd.1).le (by decide)⟩ hI
end Co
