/-! Calls that make things: servant. -/
section Cm
variable {n : Nat} {A A' : aA} {D D' E : aD} {d : Nat} {s : am_S} {l : Int}
theorem addD_f {c : Nat} (h : c ≠ 1000 ∧ c ≠ 1002 ∧ c ≠ 901 ∧ c ≠ 1100 ∧ c ≠ 950 ∧ c ≠ 951) : addD D l c = D c := by
  funext i
  unfold addD; split
  · exact addX_o c i (by omega) h.2.2.2.2.1 h.2.2.2.2.2
  · exact addM_o c i (by omega)
theorem addD_z {j : Int} : addD D l 1002 j = if j = l then D 1002 l + 1 else D 1002 j := by
  by_cases e : j = l
  · subst e; rw [if_pos rfl, addD_2]
  · rw [if_neg e]
    unfold addD; split
    · exact addX_o 1002 j (fun z => e z.1) (by decide) (by decide)
    · exact addM_o 1002 j (fun z => e z.1)
theorem addD_h (h : 0 ≤ D 1002 l) : addD D l 950 0 ≤ D 950 0 + 1 ∧ addD D l 951 0 ≤ D 951 0 + 2 * D 1002 l + 10 := by
  unfold addD; split
  · rename_i g
    rw [addX_h.1, addX_h.2]
    refine ⟨Int.le_refl _, ?_⟩
    unfold addC; split
    · rename_i e
      rcases g with g | g
      · exact absurd e g
      · omega
    · omega
  · rw [addM_o 950 0 (by omega), addM_o 951 0 (by omega)]; omega
theorem addD_hp (h : ∀ k, E 901 k = 1 → E 900 k = 1 ∧ 0 < E 1100 k) (hf : E 900 l = 1) : ∀ k, addD E l 901 k = 1 → addD E l 900 k = 1 ∧ 0 < addD E l 1100 k := by
  intro k q
  rw [addD_900]
  by_cases e : k = l
  · subst e
    refine ⟨hf, ?_⟩
    unfold addD at q ⊢; split
    · rw [addX_c]; unfold addC; split
      · rename_i z; have := (h k z).2; omega
      · decide
    · rename_i g
      rw [if_neg g, addM_f 901 k (by decide) (by decide)] at q
      rw [addM_f 1100 k (by decide) (by decide)]; exact (h k q).2
  · have o : ∀ c, c ≠ 950 → c ≠ 951 → addD E l c k = E c k := fun c a b => by
      unfold addD; split
      · exact addX_o c k (fun z => e z.1) a b
      · exact addM_o c k (fun z => e z.1)
    rw [o 901 (by decide) (by decide)] at q
    rw [o 1100 (by decide) (by decide)]
    exact h k q
theorem svD_j {i a b c e : Int} {c' : Nat} {j : Int} (h : c' ≠ 950 ∧ c' ≠ 951 ∧ c' ≠ 3001) (hj : j ≠ i) : svD D i a b c e c' j = D c' j := by
  unfold svD
  rw [up_c h.2.1, up_c h.1, up_i hj, up_i hj, up_i hj, up_i hj, up_i hj, up_i hj, up_i hj, zr_c h.2.2]
theorem svD_z {i a b c e : Int} {j : Int} (h : ¬ (1024 * i ≤ j ∧ j < 1024 * i + 1024)) : svD D i a b c e 3001 j = D 3001 j := by
  unfold svD
  rw [up_c (by decide), up_c (by decide), up_c (by decide), up_c (by decide), up_c (by decide), up_c (by decide), up_c (by decide), up_c (by decide), up_c (by decide), zr_n (fun z => h z.2)]
abbrev svX (c : Nat) : Prop := c ≠ 1000 ∧ c ≠ 1002 ∧ c ≠ 901 ∧ c ≠ 1100 ∧ c ≠ 950 ∧ c ≠ 951 ∧ c ≠ 910 ∧ c ≠ 920 ∧ c ≠ 3000 ∧ c ≠ 3001 ∧ (c < 2000 ∨ 2003 < c)
theorem c_servant (hR : Rp 0 A D s) (hI : Inv D) (hH : Hp D) (hh : D 950 0 ≤ 100000000 ∧ D 951 0 ≤ 100000000) (a b c t : Int) (h1 : rg a) (h2 : rg b) (h3 : rg c) (h4 : rg t) : Wr 72 131 [am_i (wz a), am_i (wz b), am_i (wz c), am_i (wz t)] A D := by
  have hc := hI.iv.ct; unfold I_ct at hc
  by_cases q : (-20000 ≤ a ∧ a ≤ D 32 14) ∧ (0 ≤ b ∧ b ≤ 255) ∧ (0 ≤ c ∧ c ≤ 3) ∧ (0 ≤ t ∧ t ≤ 4) ∧ D 1002 0 < 24
  · obtain ⟨H1, H2, H3, H4, H5, H6, H7, H8, H9⟩ := hH
    have E1 := ev_sv_yes (n := 0) (A := A) h1 h2 h3 h4 q (fun i z => (H1 i z).1) ⟨fun z => by have := H2 _ (Or.inl z); omega, fun z => by have := H2 _ (Or.inr z); omega⟩ (fun z => (H1 0 z).2) hh
    rw [hc.2.1.1] at E1
    generalize hA1 : addA (svA A (D 70 1) (D 950 0).toNat) (svD D (D 70 1) (D 70 1) a b c) 0 = A1 at E1
    generalize hD1 : addD (svD D (D 70 1) (D 70 1) a b c) 0 = D1 at E1
    have F0 : D 900 0 = 1 := (Rp_cl hR).2.2.2.2.2.2.2.2.2.2.2.1
    have f0 : svD D (D 70 1) (D 70 1) a b c 1002 = D 1002 := funext fun j => svD_o (by decide)
    have g : ∀ c', svX c' → D1 c' = D c' := fun c' z => by
      rw [← hD1, addD_f (by omega)]; funext j; exact svD_o (by omega)
    have gz : ∀ j, D1 1002 j = if j = 0 then D 70 1 + 1 else D 1002 j := fun j => by rw [← hD1, addD_z, f0, hc.2.1.1]
    have gz0 : D1 1002 0 = D 70 1 + 1 := by rw [gz, if_pos rfl]
    have gzn : ∀ j, j ≠ 0 → D1 1002 j = D 1002 j := fun j z => by rw [gz, if_neg z]
    obtain ⟨k1, k2, k3, k4⟩ := svD_f (D := D) (i := D 70 1) (a := D 70 1) (b := a) (c := b) (e := c)
    have gi : D1 2000 (D 70 1) = D 70 1 ∧ D1 2001 (D 70 1) = a ∧ D1 2002 (D 70 1) = b ∧ D1 2003 (D 70 1) = c := by
      rw [← hD1]; simp (disch := decide) only [addD_f]; exact ⟨k1, k2, k3, k4⟩
    have gj : ∀ j, j ≠ D 70 1 → D1 2000 j = D 2000 j ∧ D1 2001 j = D 2001 j ∧ D1 2002 j = D 2002 j ∧ D1 2003 j = D 2003 j ∧ D1 3000 j = D 3000 j := fun j z => by
      rw [← hD1]; simp (disch := decide) only [addD_f]
      exact ⟨svD_j (by decide) z, svD_j (by decide) z, svD_j (by decide) z, svD_j (by decide) z, svD_j (by decide) z⟩
    have gw : D1 3000 (D 70 1) = 0 := by rw [← hD1, addD_f (by decide), svD_3000, if_pos rfl]
    have gr : ∀ j, ¬ (1024 * D 70 1 ≤ j ∧ j < 1024 * D 70 1 + 1024) → D1 3001 j = D 3001 j := fun j z => by rw [← hD1, addD_f (by decide), svD_z z]
    have g9 : D1 950 0 ≤ D 950 0 + 3 ∧ D1 951 0 ≤ D 951 0 + 63 := by
      have z := addD_h (D := svD D (D 70 1) (D 70 1) a b c) (l := 0) (by rw [f0]; omega)
      rw [hD1, f0, svD_h.1, svD_h.2] at z; omega
    have e3 : v_X12_servant D1 a b c t = D 70 1 := by
      unfold v_X12_servant
      simp (disch := decide) only [g]
      rw [if_neg (isI.mpr ⟨q.1.1, by omega⟩), if_neg (isI.mpr q.2.1), if_neg (isI.mpr q.2.2.1), if_neg (isI.mpr q.2.2.2.1), if_neg (by omega), wr_id (z := D 70 1 + 1) (by omega) (by omega), wr_id (by omega) (by omega)]; omega
    have e2 : u_X12_servant D1 a b c t = up (up (up (up (up D1 71 (D 70 1) a) 72 (D 70 1) b) 73 (D 70 1) c) 74 (D 70 1) t) 70 1 (D 70 1 + 1) := by
      unfold u_X12_servant
      simp (disch := decide) only [g]
      rw [if_neg (isI.mpr ⟨q.1.1, by omega⟩), if_neg (isI.mpr q.2.1), if_neg (isI.mpr q.2.2.1), if_neg (isI.mpr q.2.2.2.1), if_neg (by omega), wr_id (by omega) (by omega)]
    have pM : p_X12_servant D1 a b c t := by
      unfold p_X12_servant; simp (disch := decide) only [g]; repeat' split
      all_goals first | trivial | omega
    refine ⟨D 70 1, A1, D1, _, E1.le (by decide), (Ev_D (Ev_i (ev_X12_servant (n := 0) a b c t h1 h2 h3 h4 pM) e3) e2).le (by decide), ⟨?_, ?_⟩, ?_⟩
    · obtain ⟨p1, p2, p3, p4, p5, p6, p7, p8, p9, p10, p11, p12, p13, p14, p15⟩ := hI.iv
      refine iv15 ?_ ?_ ?_ ?_ ?_ ?_ ?_ ?_ ?_ ?_ ?_ ?_ ?_ ?_ ?_
      · simp (disch := decide) only [I_ct, up_cf, up_i, up_eq, g]
        rw [gz0, gzn 1 (by decide), gzn 5 (by decide)]
        exact ⟨hc.1, ⟨rfl, by omega, by omega⟩, hc.2.2⟩
      · simp (disch := decide) only [I_cu, up_cf, up_i, up_eq, g]
        rw [gzn 2 (by decide), gzn 3 (by decide)]; exact p2
      · simpa (disch := decide) only [I_tp, up_cf, up_i, up_eq, g] using p3
      · simpa (disch := decide) only [I_lg, up_cf, up_i, up_eq, g] using p4
      · simpa (disch := decide) only [I_hs, up_cf, up_i, up_eq, g] using p5
      · simp (disch := decide) only [I_sv, up_cf, up_i, up_eq, g]
        intro j j0 j1
        by_cases e : j = D 70 1
        · subst e
          simp only [up_eq, gi.1, gi.2.1, gi.2.2.1, gi.2.2.2]
          exact ⟨trivial, trivial, trivial, trivial, by omega, by omega, by omega, by omega, by omega, by omega⟩
        · have z := gj j e
          simp (disch := decide) only [up_i e, z.1, z.2.1, z.2.2.1, z.2.2.2.1, g]
          exact p6 j j0 (by omega)
      · simpa (disch := decide) only [I_pl, up_cf, up_i, up_eq, g] using p7
      · simp (disch := decide) only [I_pg, up_cf, up_i, up_eq, g]
        intro j j0 j1
        have z := p8 j j0 j1
        refine ⟨z.1, z.2.1, z.2.2.1, z.2.2.2.1, z.2.2.2.2.1, z.2.2.2.2.2.1, z.2.2.2.2.2.2.1, z.2.2.2.2.2.2.2.1, ?_⟩
        omega
      · simpa (disch := decide) only [I_bx, up_cf, up_i, up_eq, g] using p9
      · simp (disch := decide) only [I_tm, up_cf, up_i, up_eq, g]
        intro j j0 j1
        have z := p10 j j0 j1
        omega
      · simp (disch := decide) only [I_ak, v_X12_ageOn, up_cf, up_i, up_eq, g]
        intro j j0 j1
        have z := p11 j j0 j1
        rw [up_i (show D 130 j ≠ D 70 1 by omega), g 71 (by decide)]
        unfold v_X12_ageOn at z
        refine ⟨z.1, z.2.1, z.2.2.1, z.2.2.2.1, z.2.2.2.2.1, by omega, z.2.2.2.2.2.2⟩
      · simp (disch := decide) only [I_ws, up_cf, up_i, up_eq, g]
        refine ⟨fun j j0 j1 => ?_, fun u u0 u1 => ?_⟩
        · by_cases e : j = D 70 1
          · subst e
            rw [gw]
            refine ⟨by omega, by omega, fun k k0 k1 => by omega, fun p p0 p1 => Or.inl (p13.1 _ (by omega) (by omega))⟩
          · rw [(gj j e).2.2.2.2]
            obtain ⟨z1, z2, z3, z4⟩ := p12.1 j j0 (by omega)
            refine ⟨z1, z2, fun k k0 k1 => ?_, fun p p0 p1 => ?_⟩
            · rw [gr _ (by omega)]; exact z3 k k0 k1
            · rcases z4 p p0 p1 with z | ⟨w1, w2, w3⟩
              · exact Or.inl z
              · refine Or.inr ⟨w1, w2, ?_⟩
                rw [gr _ (by omega)]; exact w3
        · obtain ⟨z1, z2, z3, z4⟩ := p12.2 u u0 u1
          exact ⟨z1, z2, fun k k0 k1 => by have := z3 k k0 k1; exact ⟨this.1, by omega, this.2.2⟩, z4⟩
      · simp (disch := decide) only [I_wf, up_cf, up_i, up_eq, g]
        exact ⟨fun k k0 k1 => p13.1 k (by omega) k1, p13.2⟩
      · simp (disch := decide) only [I_td, up_cf, up_i, up_eq, g]
        intro j j0 j1
        have z := p14 j j0 j1
        exact ⟨z.1, z.2.1, z.2.2.1, fun w => z.2.2.2 (by omega)⟩
      · simp (disch := decide) only [I_cn, up_cf, up_i, up_eq, g]
        exact ⟨p15.1, p15.2.1, p15.2.2.1, fun k k0 k1 => by have z := p15.2.2.2.1 k k0 k1; exact ⟨z.1, by omega, z.2.2⟩, p15.2.2.2.2⟩
    · refine Irb_k (fun c' z => ?_) ⟨by rw [up_i (by decide)]; simp (disch := decide) only [up_cf, g], by rw [up_i (by decide)]; simp (disch := decide) only [up_cf, g]⟩ (fun j z => ?_) hI.rb
      · rw [up_cf (nrb z rfl), up_cf (nrb z rfl), up_cf (nrb z rfl), up_cf (nrb z rfl), up_cf (nrb z rfl)]
        refine g c' ⟨nrb z rfl, nrb z rfl, nrb z rfl, nrb z rfl, nrb z rfl, nrb z rfl, nrb z rfl, nrb z rfl, nrb z rfl, nrb z rfl, ?_⟩
        have y0 : c' ≠ 2000 := nrb z rfl
        have y1 : c' ≠ 2001 := nrb z rfl
        have y2 : c' ≠ 2002 := nrb z rfl
        have y3 : c' ≠ 2003 := nrb z rfl
        omega
      · simp (disch := decide) only [up_cf]
        exact gzn j (by omega)
    · unfold Fr
      simp (disch := decide) only [up_cf, g]
      refine ⟨trivial, trivial, by omega, by omega, fun _ => ?_⟩
      have hx := addD_hp (E := svD D (D 70 1) (D 70 1) a b c) (l := 0) (fun k => by rw [svD_o (by decide), svD_o (by decide), svD_o (by decide)]; exact H1 k) ((svD_o (by decide)).trans F0)
      rw [hD1] at hx
      have w0 : ∀ j, D1 910 j = if j = D 70 1 then 1 else D 910 j := fun j => by rw [← hD1, addD_f (by decide), svD_910]
      have w1 : ∀ j, D1 920 j = if j = D 70 1 then 1 else D 920 j := fun j => by rw [← hD1, addD_f (by decide), svD_920]
      refine ⟨?_, ?_, ?_, ?_, ?_, ?_, ?_, ?_, ?_⟩
      · simp only [g 900 (by decide)] at hx; exact hx
      · intro j z
        rw [w0, w1] at z
        rw [gz0]
        by_cases e : j = D 70 1
        · omega
        · rw [if_neg e, if_neg e] at z
          have := H2 j z; omega
      · rw [gzn 1 (by decide)]; exact H3
      · rw [gzn 2 (by decide)]; exact H4
      · rw [gzn 3 (by decide)]; exact H5
      · rw [gzn 5 (by decide)]; exact H6
      · rw [gzn 4 (by decide)]; exact H7
      · rw [gzn 4 (by decide)]; exact H8
      · rw [gzn 4 (by decide)]; exact H9
  · have qd : v_X12_servant D a b c t = -1 ∧ u_X12_servant D a b c t = D ∧ p_X12_servant D a b c t := by
      unfold v_X12_servant u_X12_servant p_X12_servant
      by_cases c1 : v_X12_isIn D a (-20000) (D 70 0) = 0
      · simp only [if_pos c1]; exact ⟨trivial, trivial, trivial⟩
      simp only [if_neg c1]
      by_cases c2 : v_X12_isIn D b 0 255 = 0
      · simp only [if_pos c2]; exact ⟨trivial, trivial, trivial⟩
      simp only [if_neg c2]
      by_cases c3 : v_X12_isIn D c 0 3 = 0
      · simp only [if_pos c3]; exact ⟨trivial, trivial, trivial⟩
      simp only [if_neg c3]
      by_cases c4 : v_X12_isIn D t 0 4 = 0
      · simp only [if_pos c4]; exact ⟨trivial, trivial, trivial⟩
      simp only [if_neg c4]
      have z1 := isI.mp c1
      have z2 := isI.mp c2
      have z3 := isI.mp c3
      have z4 := isI.mp c4
      have z5 : D 70 1 = 24 := by omega
      simp only [if_pos z5]; exact ⟨trivial, trivial, trivial⟩
    exact Rd.wr ⟨-1, (ev_sv_no (n := 0) h1 h2 h3 h4 q).le (by decide), (Ev_i (Ev_D (ev_X12_servant (n := 0) a b c t h1 h2 h3 h4 qd.2.2) qd.2.1) qd.1).le (by decide)⟩ hI
end Cm
