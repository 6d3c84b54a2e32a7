/-! Calls that make things: place, placing, write, ask. -/
section Cn
variable {n : Nat} {A A' : aA} {D D' E : aD} {d : Nat} {s : am_S} {l : Int}
theorem pvD_j {i x0 x1 x2 x3 x4 x5 x6 x7 : Int} {c' : Nat} {j : Int} (h : c' ≠ 950 ∧ c' ≠ 951 ∧ c' ≠ 3101) (hj : j ≠ i) : pvD D i x0 x1 x2 x3 x4 x5 x6 x7 c' j = D c' j := by
  unfold pvD
  rw [up_c h.2.1, up_c h.1, up_i hj, up_i hj, up_i hj, up_i hj, up_i hj, up_i hj, up_i hj, up_i hj, up_i hj, up_i hj, up_i hj, zr_c h.2.2]
theorem pvD_z {i x0 x1 x2 x3 x4 x5 x6 x7 : Int} {j : Int} (h : ¬ (1024 * i ≤ j ∧ j < 1024 * i + 1024)) : pvD D i x0 x1 x2 x3 x4 x5 x6 x7 3101 j = D 3101 j := by
  unfold pvD
  rw [up_c (by decide), up_c (by decide), up_c (by decide), up_c (by decide), up_c (by decide), up_c (by decide), up_c (by decide), up_c (by decide), up_c (by decide), up_c (by decide), up_c (by decide), up_c (by decide), up_c (by decide), zr_n (fun z => h z.2)]
abbrev pvX (c : Nat) : Prop := c ≠ 1000 ∧ c ≠ 1002 ∧ c ≠ 901 ∧ c ≠ 1100 ∧ c ≠ 950 ∧ c ≠ 951 ∧ c ≠ 911 ∧ c ≠ 921 ∧ c ≠ 3100 ∧ c ≠ 3101 ∧ (c < 2100 ∨ 2107 < c)
theorem c_place (hR : Rp 0 A D s) (hI : Inv D) (hH : Hp D) (hh : D 950 0 ≤ 100000000 ∧ D 951 0 ≤ 100000000) (a1 a2 a3 a4 a5 a6 : Int) (h1 : rg a1) (h2 : rg a2) (h3 : rg a3) (h4 : rg a4) (h5 : rg a5) (h6 : rg a6) : Wr 75 134 [am_i (wz a1), am_i (wz a2), am_i (wz a3), am_i (wz a4), am_i (wz a5), am_i (wz a6)] A D := by
  have hc := hI.iv.ct; unfold I_ct at hc
  have hu := hI.iv.cu; unfold I_cu at hu
  by_cases q : (0 ≤ a1 ∧ a1 < D 70 2) ∧ (0 ≤ a2 ∧ a2 ≤ 5) ∧ (1 ≤ a3 ∧ a3 ≤ 999) ∧ (0 ≤ a4 ∧ a4 ≤ 255) ∧ (0 ≤ a5 ∧ a5 ≤ 99) ∧ (-1 ≤ a6 ∧ a6 ≤ 3) ∧ D 70 3 < 30
  · obtain ⟨H1, H2, H3, H4, H5, H6, H7, H8, H9⟩ := hH
    have F0 : D 900 1 = 1 := (Rp_cl hR).2.2.2.2.2.2.2.2.2.2.2.2.1
    have ez : D 1002 1 = D 70 3 := hc.2.2.2.1.1
    have E1 : Ev 0 9 75 [am_r (some 32), am_i (wz a1), am_i (wz a2), am_i (wz a3), am_i (wz a4), am_i (wz a5), am_i (wz a6)] A D (ri (D 70 3)) (addA (pvA A (D 70 3) (D 950 0).toNat) (up (up (up (pvD D (D 70 3) (D 70 3) a1 (D 34 a1) a2 a3 0 0 (-1)) 2105 (D 70 3) a4) 2106 (D 70 3) a5) 2107 (D 70 3) a6) 1) (addD (up (up (up (pvD D (D 70 3) (D 70 3) a1 (D 34 a1) a2 a3 0 0 (-1)) 2105 (D 70 3) a4) 2106 (D 70 3) a5) 2107 (D 70 3) a6) 1) := by
      refine rl_X11_place a1 a2 a3 a4 a5 a6 h1 h2 h3 h4 h5 h6 ?_
      rw [xHs hI.iv, inb_eq, inb_eq, inb_eq, inb_eq, inb_eq, ez, if_neg ((isHs hI.iv).mpr q.1), if_neg (isI.mpr q.2.1), if_neg (isI.mpr q.2.2.1), if_neg (isI.mpr q.2.2.2.1), if_neg (isI.mpr q.2.2.2.2.1), if_neg (isI.mpr q.2.2.2.2.2.1), if_pos q.2.2.2.2.2.2]
      refine K_pl (fun i z => (H1 i z).1) ⟨fun z => by have := H3 _ (Or.inl z); omega, fun z => by have := H3 _ (Or.inr z); omega⟩ h1 h2 h3 (by omega) (by omega) ?_
      rw [ez]
      refine rl_X11_place_110 a1 a2 a3 a4 a5 a6 1 (D 70 3) h1 h2 h3 h4 h5 h6 ⟨by decide, by decide⟩ ⟨by decide, by decide⟩ (by rw [pvD_911, if_pos rfl]) ⟨⟨?_, ?_, ?_, ?_, ?_⟩, ?_⟩
      · simp (disch := decide) only [up_cf]
        rw [pvD_o (by decide), ez]; exact (Int.zero_add _).symm
      · simp (disch := decide) only [up_cf]
        rw [pvD_o (by decide), ez]; omega
      · simp (disch := decide) only [up_cf]
        rw [pvD_o (by decide), pvD_o (by decide)]; exact fun z => (H1 1 z).2
      · simp (disch := decide) only [up_cf]
        rw [pvD_h.1]; omega
      · simp (disch := decide) only [up_cf]
        rw [pvD_h.2]; omega
      · refine rl_X11_place_143 a1 a2 a3 a4 a5 a6 1 (D 70 3) h1 h2 h3 h4 h5 h6 ⟨by decide, by decide⟩ ⟨by decide, by decide⟩ ?_ ⟨rfl, ?_, rfl⟩
        · simp (disch := decide) only [addD_f, up_cf]
          rw [pvD_911, if_pos rfl]
        · simp (disch := decide) only [addD_f, up_cf]
          exact pvD_f.1.symm
    generalize hA1 : addA (pvA A (D 70 3) (D 950 0).toNat) (up (up (up (pvD D (D 70 3) (D 70 3) a1 (D 34 a1) a2 a3 0 0 (-1)) 2105 (D 70 3) a4) 2106 (D 70 3) a5) 2107 (D 70 3) a6) 1 = A1 at E1
    generalize hD1 : addD (up (up (up (pvD D (D 70 3) (D 70 3) a1 (D 34 a1) a2 a3 0 0 (-1)) 2105 (D 70 3) a4) 2106 (D 70 3) a5) 2107 (D 70 3) a6) 1 = D1 at E1
    have f0 : (up (up (up (pvD D (D 70 3) (D 70 3) a1 (D 34 a1) a2 a3 0 0 (-1)) 2105 (D 70 3) a4) 2106 (D 70 3) a5) 2107 (D 70 3) a6) 1002 = D 1002 := funext fun j => by simp (disch := decide) only [up_cf]; exact pvD_o (by decide)
    have g : ∀ c', pvX c' → D1 c' = D c' := fun c' z => by
      rw [← hD1, addD_f (by omega)]; rw [up_cf (by omega), up_cf (by omega), up_cf (by omega)]; funext j; exact pvD_o (by omega)
    have gz : ∀ j, D1 1002 j = if j = 1 then D 70 3 + 1 else D 1002 j := fun j => by rw [← hD1, addD_z, f0, ez]
    have gz0 : D1 1002 1 = D 70 3 + 1 := by rw [gz, if_pos rfl]
    have gzn : ∀ j, j ≠ 1 → D1 1002 j = D 1002 j := fun j z => by rw [gz, if_neg z]
    obtain ⟨k0, k1, k2, k3, k4, k5, k6, k7⟩ := pvD_f (D := D) (i := D 70 3) (x0 := D 70 3) (x1 := a1) (x2 := D 34 a1) (x3 := a2) (x4 := a3) (x5 := 0) (x6 := 0) (x7 := -1)
    have gi : D1 2100 (D 70 3) = D 70 3 ∧ D1 2101 (D 70 3) = a1 ∧ D1 2102 (D 70 3) = D 34 a1 ∧ D1 2103 (D 70 3) = a2 ∧ D1 2104 (D 70 3) = a3 ∧ D1 2105 (D 70 3) = a4 ∧ D1 2106 (D 70 3) = a5 ∧ D1 2107 (D 70 3) = a6 := by
      rw [← hD1]; simp (disch := decide) only [addD_f, up_cf, up_eq]; exact ⟨k0, k1, k2, k3, k4, trivial, trivial, trivial⟩
    have gj : ∀ j, j ≠ D 70 3 → D1 2100 j = D 2100 j ∧ D1 2101 j = D 2101 j ∧ D1 2102 j = D 2102 j ∧ D1 2103 j = D 2103 j ∧ D1 2104 j = D 2104 j ∧ D1 2105 j = D 2105 j ∧ D1 2106 j = D 2106 j ∧ D1 2107 j = D 2107 j ∧ D1 3100 j = D 3100 j := fun j z => by
      rw [← hD1]; simp (disch := decide) only [addD_f, up_cf]
      simp only [up_i z]
      exact ⟨pvD_j (by decide) z, pvD_j (by decide) z, pvD_j (by decide) z, pvD_j (by decide) z, pvD_j (by decide) z, pvD_j (by decide) z, pvD_j (by decide) z, pvD_j (by decide) z, pvD_j (by decide) z⟩
    have gw : D1 3100 (D 70 3) = 0 := by rw [← hD1, addD_f (by decide)]; simp (disch := decide) only [up_cf]; rw [pvD_3100, if_pos rfl]
    have gr : ∀ j, ¬ (1024 * D 70 3 ≤ j ∧ j < 1024 * D 70 3 + 1024) → D1 3101 j = D 3101 j := fun j z => by rw [← hD1, addD_f (by decide)]; simp (disch := decide) only [up_cf]; rw [pvD_z z]
    have g9 : D1 950 0 ≤ D 950 0 + 3 ∧ D1 951 0 ≤ D 951 0 + 79 := by
      have z := addD_h (D := up (up (up (pvD D (D 70 3) (D 70 3) a1 (D 34 a1) a2 a3 0 0 (-1)) 2105 (D 70 3) a4) 2106 (D 70 3) a5) 2107 (D 70 3) a6) (l := 1) (by rw [f0]; omega)
      rw [hD1, f0] at z; simp (disch := decide) only [up_cf] at z; rw [pvD_h.1, pvD_h.2] at z; omega
    have qh := hI.iv.hs a1 q.1.1 q.1.2
    have e3 : v_X12_place D1 a1 a2 a3 a4 a5 a6 = D 70 3 := by
      unfold v_X12_place v_X12_isHouse
      simp (disch := decide) only [g]
      rw [if_neg (show ¬ v_X12_isIn D1 a1 0 (wr (D 70 2 - 1)) = 0 from (isHs hI.iv).mpr q.1), if_neg (isI.mpr q.2.1), if_neg (isI.mpr q.2.2.1), if_neg (isI.mpr q.2.2.2.1), if_neg (isI.mpr q.2.2.2.2.1), if_neg (isI.mpr q.2.2.2.2.2.1), if_neg (show ¬ D 70 3 = 30 by omega), wr_id (z := D 70 3 + 1) (by omega) (by omega), wr_id (by omega) (by omega)]; omega
    have e2 : u_X12_place D1 a1 a2 a3 a4 a5 a6 = up (up (up (up (up (up (up D1 77 (D 70 3) a1) 78 (D 70 3) a2) 79 (D 70 3) a3) 80 (D 70 3) a4) 81 (D 70 3) a5) 82 (D 70 3) a6) 70 3 (D 70 3 + 1) := by
      unfold u_X12_place v_X12_isHouse
      simp (disch := decide) only [g]
      rw [if_neg (show ¬ v_X12_isIn D1 a1 0 (wr (D 70 2 - 1)) = 0 from (isHs hI.iv).mpr q.1), if_neg (isI.mpr q.2.1), if_neg (isI.mpr q.2.2.1), if_neg (isI.mpr q.2.2.2.1), if_neg (isI.mpr q.2.2.2.2.1), if_neg (isI.mpr q.2.2.2.2.2.1), if_neg (show ¬ D 70 3 = 30 by omega), wr_id (by omega) (by omega)]
    have pM : p_X12_place D1 a1 a2 a3 a4 a5 a6 := by
      unfold p_X12_place v_X12_isHouse; simp (disch := decide) only [g]; repeat' split
      all_goals first | trivial | omega
    refine ⟨D 70 3, A1, D1, _, E1.le (by decide), (Ev_D (Ev_i (ev_X12_place (n := 0) a1 a2 a3 a4 a5 a6 h1 h2 h3 h4 h5 h6 pM) e3) e2).le (by decide), ⟨?_, ?_⟩, ?_⟩
    · obtain ⟨p1, p2, p3, p4, p5, p6, p7, p8, p9, p10, p11, p12, p13, p14, p15⟩ := hI.iv
      refine iv15 ?_ ?_ ?_ ?_ ?_ ?_ ?_ ?_ ?_ ?_ ?_ ?_ ?_ ?_ ?_
      · simp (disch := decide) only [I_ct, up_cf, up_i, up_eq, g]
        rw [gz0, gzn 0 (by decide), gzn 5 (by decide)]
        exact ⟨hc.1, hc.2.1, hc.2.2.1, ⟨rfl, by omega, by omega⟩, hc.2.2.2.2⟩
      · simp (disch := decide) only [I_cu, up_cf, up_i, up_eq, g]
        rw [gzn 2 (by decide), gzn 3 (by decide)]; exact p2
      · simpa (disch := decide) only [I_tp, up_cf, up_i, up_eq, g] using p3
      · simpa (disch := decide) only [I_lg, up_cf, up_i, up_eq, g] using p4
      · simpa (disch := decide) only [I_hs, up_cf, up_i, up_eq, g] using p5
      · simpa (disch := decide) only [I_sv, up_cf, up_i, up_eq, g] using p6
      · simp (disch := decide) only [I_pl, up_cf, up_i, up_eq, g]
        intro j j0 j1
        by_cases e : j = D 70 3
        · subst e
          simp only [up_eq, gi.1, gi.2.1, gi.2.2.1, gi.2.2.2.1, gi.2.2.2.2.1, gi.2.2.2.2.2.1, gi.2.2.2.2.2.2.1, gi.2.2.2.2.2.2.2]
          exact ⟨trivial, trivial, qh.1, trivial, trivial, trivial, trivial, trivial, by omega, by omega, by omega, by omega, by omega, by omega, by omega, by omega, by omega, by omega, by omega, by omega⟩
        · have z := gj j e
          simp (disch := decide) only [up_i e, z.1, z.2.1, z.2.2.1, z.2.2.2.1, z.2.2.2.2.1, z.2.2.2.2.2.1, z.2.2.2.2.2.2.1, z.2.2.2.2.2.2.2.1, g]
          exact p7 j j0 (by omega)
      · simp (disch := decide) only [I_pg, up_cf, up_i, up_eq, g]
        intro j j0 j1
        have z := p8 j j0 j1
        refine ⟨z.1, z.2.1, z.2.2.1, z.2.2.2.1, z.2.2.2.2.1, z.2.2.2.2.2.1, z.2.2.2.2.2.2.1, z.2.2.2.2.2.2.2.1, ?_⟩
        omega
      · simpa (disch := decide) only [I_bx, up_cf, up_i, up_eq, g] using p9
      · simpa (disch := decide) only [I_tm, up_cf, up_i, up_eq, g] using p10
      · simp (disch := decide) only [I_ak, v_X12_ageOn, up_cf, up_i, up_eq, g]
        intro j j0 j1
        have z := p11 j j0 j1
        unfold v_X12_ageOn at z
        refine ⟨z.1, z.2.1, z.2.2.1, z.2.2.2.1, z.2.2.2.2.1, z.2.2.2.2.2.1, z.2.2.2.2.2.2.1, by omega, z.2.2.2.2.2.2.2.2⟩
      · simp (disch := decide) only [I_ws, up_cf, up_i, up_eq, g]
        refine ⟨fun u u0 u1 => ?_, fun j j0 j1 => ?_⟩
        · obtain ⟨z1, z2, z3, z4⟩ := p12.1 u u0 u1
          exact ⟨z1, z2, fun k k0 k1 => by have := z3 k k0 k1; exact ⟨this.1, by omega, this.2.2⟩, z4⟩
        · by_cases e : j = D 70 3
          · subst e
            rw [gw]
            refine ⟨by omega, by omega, fun k k0 k1 => by omega, fun p p0 p1 => Or.inl (p13.2 _ (by omega) (by omega))⟩
          · rw [(gj j e).2.2.2.2.2.2.2.2]
            obtain ⟨z1, z2, z3, z4⟩ := p12.2 j j0 (by omega)
            refine ⟨z1, z2, fun k k0 k1 => ?_, fun p p0 p1 => ?_⟩
            · rw [gr _ (by omega)]; exact z3 k k0 k1
            · rcases z4 p p0 p1 with z | ⟨w1, w2, w3⟩
              · exact Or.inl z
              · refine Or.inr ⟨w1, w2, ?_⟩
                rw [gr _ (by omega)]; exact w3
      · simp (disch := decide) only [I_wf, up_cf, up_i, up_eq, g]
        exact ⟨p13.1, fun k k0 k1 => p13.2 k (by omega) k1⟩
      · simp (disch := decide) only [I_td, up_cf, up_i, up_eq, g]
        intro j j0 j1
        have z := p14 j j0 j1
        exact ⟨z.1, z.2.1, by omega, z.2.2.2⟩
      · simp (disch := decide) only [I_cn, up_cf, up_i, up_eq, g]
        exact ⟨p15.1, p15.2.1, fun k k0 k1 => by have z := p15.2.2.1 k k0 k1; exact ⟨z.1, z.2.1, z.2.2.1, by omega, z.2.2.2.2⟩, p15.2.2.2⟩
    · refine Irb_k (fun c' z => ?_) ⟨by rw [up_i (by decide)]; simp (disch := decide) only [up_cf, g], by rw [up_i (by decide)]; simp (disch := decide) only [up_cf, g]⟩ (fun j z => ?_) hI.rb
      · rw [up_cf (nrb z rfl), up_cf (nrb z rfl), up_cf (nrb z rfl), up_cf (nrb z rfl), up_cf (nrb z rfl), up_cf (nrb z rfl), up_cf (nrb z rfl)]
        refine g c' ⟨nrb z rfl, nrb z rfl, nrb z rfl, nrb z rfl, nrb z rfl, nrb z rfl, nrb z rfl, nrb z rfl, nrb z rfl, nrb z rfl, ?_⟩
        have y2100 : c' ≠ 2100 := nrb z rfl
        have y2101 : c' ≠ 2101 := nrb z rfl
        have y2102 : c' ≠ 2102 := nrb z rfl
        have y2103 : c' ≠ 2103 := nrb z rfl
        have y2104 : c' ≠ 2104 := nrb z rfl
        have y2105 : c' ≠ 2105 := nrb z rfl
        have y2106 : c' ≠ 2106 := nrb z rfl
        have y2107 : c' ≠ 2107 := nrb z rfl
        omega
      · simp (disch := decide) only [up_cf]
        exact gzn j (by omega)
    · unfold Fr
      simp (disch := decide) only [up_cf, g]
      refine ⟨trivial, trivial, by omega, by omega, fun _ => ?_⟩
      have hx := addD_hp (E := up (up (up (pvD D (D 70 3) (D 70 3) a1 (D 34 a1) a2 a3 0 0 (-1)) 2105 (D 70 3) a4) 2106 (D 70 3) a5) 2107 (D 70 3) a6) (l := 1) (fun k => by simp (disch := decide) only [up_cf]; rw [pvD_o (by decide), pvD_o (by decide), pvD_o (by decide)]; exact H1 k) (by simp (disch := decide) only [up_cf]; exact (pvD_o (by decide)).trans F0)
      rw [hD1] at hx
      have w0 : ∀ j, D1 911 j = if j = D 70 3 then 1 else D 911 j := fun j => by rw [← hD1, addD_f (by decide)]; simp (disch := decide) only [up_cf]; exact pvD_911
      have w1 : ∀ j, D1 921 j = if j = D 70 3 then 1 else D 921 j := fun j => by rw [← hD1, addD_f (by decide)]; simp (disch := decide) only [up_cf]; exact pvD_921
      refine ⟨?_, ?_, ?_, ?_, ?_, ?_, ?_, ?_, ?_⟩
      · simp only [g 900 (by decide)] at hx; exact hx
      · rw [gzn 0 (by decide)]; exact H2
      · intro j z
        rw [w0, w1] at z
        rw [gz0]
        by_cases e : j = D 70 3
        · omega
        · rw [if_neg e, if_neg e] at z
          have := H3 j z; omega
      · rw [gzn 2 (by decide)]; exact H4
      · rw [gzn 3 (by decide)]; exact H5
      · rw [gzn 5 (by decide)]; exact H6
      · rw [gzn 4 (by decide)]; exact H7
      · rw [gzn 4 (by decide)]; exact H8
      · rw [gzn 4 (by decide)]; exact H9
  · have qd : v_X12_place D a1 a2 a3 a4 a5 a6 = -1 ∧ u_X12_place D a1 a2 a3 a4 a5 a6 = D ∧ p_X12_place D a1 a2 a3 a4 a5 a6 := by
      unfold v_X12_place u_X12_place p_X12_place
      by_cases c0 : v_X12_isHouse D a1 = 0
      · simp only [if_pos c0]; exact ⟨trivial, trivial, trivial⟩
      simp only [if_neg c0]
      have z0 := (isHs hI.iv).mp c0
      by_cases c1 : v_X12_isIn D a2 0 5 = 0
      · simp only [if_pos c1]; exact ⟨trivial, trivial, trivial⟩
      simp only [if_neg c1]
      have z1 := isI.mp c1
      by_cases c2 : v_X12_isIn D a3 1 999 = 0
      · simp only [if_pos c2]; exact ⟨trivial, trivial, trivial⟩
      simp only [if_neg c2]
      have z2 := isI.mp c2
      by_cases c3 : v_X12_isIn D a4 0 255 = 0
      · simp only [if_pos c3]; exact ⟨trivial, trivial, trivial⟩
      simp only [if_neg c3]
      have z3 := isI.mp c3
      by_cases c4 : v_X12_isIn D a5 0 99 = 0
      · simp only [if_pos c4]; exact ⟨trivial, trivial, trivial⟩
      simp only [if_neg c4]
      have z4 := isI.mp c4
      by_cases c5 : v_X12_isIn D a6 (-1) 3 = 0
      · simp only [if_pos c5]; exact ⟨trivial, trivial, trivial⟩
      simp only [if_neg c5]
      have z5 := isI.mp c5
      have zz : D 70 3 = 30 := by omega
      simp only [if_pos zz]; exact ⟨trivial, trivial, trivial⟩
    have eX : Ev 0 9 75 [am_r (some 32), am_i (wz a1), am_i (wz a2), am_i (wz a3), am_i (wz a4), am_i (wz a5), am_i (wz a6)] A D (ri (-1)) A D := by
      refine rl_X11_place a1 a2 a3 a4 a5 a6 h1 h2 h3 h4 h5 h6 ?_
      rw [xHs hI.iv, inb_eq, inb_eq, inb_eq, inb_eq, inb_eq, hc.2.2.2.1.1]
      by_cases c0 : v_X12_isHouse D a1 = 0
      · rw [if_pos c0]; exact ⟨rfl, rfl, rfl⟩
      rw [if_neg c0]
      by_cases c1 : v_X12_isIn D a2 0 5 = 0
      · rw [if_pos c1]; exact ⟨rfl, rfl, rfl⟩
      rw [if_neg c1]
      by_cases c2 : v_X12_isIn D a3 1 999 = 0
      · rw [if_pos c2]; exact ⟨rfl, rfl, rfl⟩
      rw [if_neg c2]
      by_cases c3 : v_X12_isIn D a4 0 255 = 0
      · rw [if_pos c3]; exact ⟨rfl, rfl, rfl⟩
      rw [if_neg c3]
      by_cases c4 : v_X12_isIn D a5 0 99 = 0
      · rw [if_pos c4]; exact ⟨rfl, rfl, rfl⟩
      rw [if_neg c4]
      by_cases c5 : v_X12_isIn D a6 (-1) 3 = 0
      · rw [if_pos c5]; exact ⟨rfl, rfl, rfl⟩
      rw [if_neg c5, if_neg (fun z => q ⟨(isHs hI.iv).mp c0, isI.mp c1, isI.mp c2, isI.mp c3, isI.mp c4, isI.mp c5, z⟩)]; exact ⟨rfl, rfl, rfl⟩
    exact Rd.wr ⟨-1, eX.le (by decide), (Ev_i (Ev_D (ev_X12_place (n := 0) a1 a2 a3 a4 a5 a6 h1 h2 h3 h4 h5 h6 qd.2.2) qd.2.1) qd.1).le (by decide)⟩ hI
end Cn
