/-! Calls that change rows: what stays the same. -/
section W1
variable {A : aA} {D : aD}
/-- what is there stands in its list -/
def Hq (a0 a1 b0 b1 b2 b3 b4 b5 b6 c0 c1 c2 c3 c4 c5 z w : Int → Int) : Prop :=
  (∀ l, a1 l = 1 → a0 l = 1 ∧ 0 < w l) ∧ (∀ i, b0 i = 1 ∨ c0 i = 1 → 0 ≤ i ∧ i < z 0) ∧ (∀ i, b1 i = 1 ∨ c1 i = 1 → 0 ≤ i ∧ i < z 1) ∧
  (∀ i, b2 i = 1 → 0 ≤ i ∧ i < z 2) ∧ (∀ i, b3 i = 1 → 0 ≤ i ∧ i < z 3) ∧ (∀ i, b5 i = 1 → 0 ≤ i ∧ i < z 5) ∧
  (∀ i, b4 i = 1 ∨ c3 i = 1 ∨ c4 i = 1 ∨ c5 i = 1 → i = 8 ∨ (0 ≤ i ∧ i < z 4)) ∧
  (∀ l, a0 l = 1 → (0 ≤ l ∧ l ≤ 5) ∨ l = 16 ∨ (8 ≤ l ∧ l < 8 + z 4)) ∧ (∀ i, b6 i = 1 ∨ c2 i = 1 → 0 ≤ i ∧ i < 64 * z 4)
abbrev Hp (D : aD) : Prop := Hq (D 900) (D 901) (D 910) (D 911) (D 912) (D 913) (D 914) (D 915) (D 916) (D 920) (D 921) (D 922) (D 923) (D 924) (D 925) (D 1002) (D 1100)
def Fr (D D2 : aD) : Prop := D2 0 = D 0 ∧ D2 1 = D 1 ∧ D2 950 0 ≤ D 950 0 + 100 ∧ D2 951 0 ≤ D 951 0 + 3000 ∧ (Hq (D 900) (D 901) (D 910) (D 911) (D 912) (D 913) (D 914) (D 915) (D 916) (D 920) (D 921) (D 922) (D 923) (D 924) (D 925) (D 1002) (D 1100) → Hq (D2 900) (D2 901) (D2 910) (D2 911) (D2 912) (D2 913) (D2 914) (D2 915) (D2 916) (D2 920) (D2 921) (D2 922) (D2 923) (D2 924) (D2 925) (D2 1002) (D2 1100))
def Wr (mX mM : Nat) (as : List am_V) (A : aA) (D : aD) : Prop := ∃ v A1 D1 D2, Ev 0 200 mX (am_r (some 32) :: as) A D (ri v) A1 D1 ∧ Ev 0 200 mM (am_r (some 70) :: as) A1 D1 (ri v) A1 D2 ∧ Inv D2 ∧ Fr D D2
theorem Rd.wr {mX mM : Nat} {as : List am_V} (h : Rd mX mM as A D) (hI : Inv D) : Wr mX mM as A D := by
  obtain ⟨v, h1, h2⟩ := h
  exact ⟨v, A, D, D, h1, h2, hI, rfl, rfl, by omega, by omega, id⟩
def rbc (c : Nat) : Bool := [2400, 2401, 93, 92, 2406, 2407, 2408, 2409, 2410, 2411, 97, 3301, 3300, 3400, 3500, 2600, 2601, 2602, 2603, 2604, 2605, 94, 95, 96, 98, 99, 100, 101, 102, 103, 104, 3200, 3201].contains c
theorem Irb_k {F : aD} (h : ∀ c, rbc c = true → F c = D c) (h70 : F 70 26 = D 70 26 ∧ F 70 27 = D 70 27) (hl : ∀ l, l = 4 ∨ 8 ≤ l → F 1002 l = D 1002 l) (H : I_rb D) : I_rb F := by
  have el : ∀ r a b, w_last F r a b = w_last D r a b := by intro r a b; unfold w_last lk; rw [h 94 rfl, h 95 rfl, h 92 rfl]
  have et : ∀ r a b z, tl F r a b z = tl D r a b z := by intro r a b z; unfold tl; rw [el, h 96 rfl]
  unfold I_rb Bok Hdr Stm Cnd at *
  simp only [et, el, h70.1, h70.2, hl 4 (Or.inl rfl), hl 16 (Or.inr (by decide)), h 2400 rfl, h 2401 rfl, h 93 rfl, h 92 rfl, h 2406 rfl, h 2407 rfl, h 2408 rfl, h 2409 rfl, h 2410 rfl, h 2411 rfl, h 97 rfl, h 3301 rfl, h 3300 rfl, h 3400 rfl, h 3500 rfl, h 2600 rfl, h 2601 rfl, h 2602 rfl, h 2603 rfl, h 2604 rfl, h 2605 rfl, h 94 rfl, h 95 rfl, h 96 rfl, h 98 rfl]
  obtain ⟨a, b, c, d⟩ := H
  refine ⟨a, b, fun r r0 r1 => ?_, d⟩
  obtain ⟨c1, c2, c3, c4, c5⟩ := c r r0 r1
  refine ⟨c1, c2, by rw [hl _ (Or.inr (by omega))]; exact c3, c4, fun j j0 j1 => ?_⟩
  obtain ⟨s1, s2, s3, s4, s5, s6, s7, s8, s9, s10⟩ := c5 j j0 j1
  refine ⟨s1, s2, s3, s4, s5, s6, s7, s8, s9, fun q => ?_⟩
  rcases s10 q with q1 | ⟨q1, φ, q2, q3⟩
  · exact Or.inl q1
  · refine Or.inr ⟨q1, φ, XC_cg (by rw [h 3200 rfl]) (fun i _ _ => by rw [h 3201 rfl]) q2, ?_⟩
    exact HM_cg (Int.le_refl _) (fun i _ _ => ⟨by rw [h 99 rfl], by rw [h 100 rfl], by rw [h 101 rfl], by rw [h 102 rfl], by rw [h 103 rfl], by rw [h 104 rfl]⟩) _ _ _ q3
theorem nrb {c c' : Nat} (h : rbc c = true) (h' : rbc c' = false) : c ≠ c' := fun e => by rw [e, h'] at h; cases h
/-- TODAY -/
theorem c_day (hI : Inv D) (a : Int) (h1 : rg a) : Wr 71 130 [am_i (wz a)] A D := by
  have hc := hI.iv.ct; unfold I_ct at hc
  by_cases q : a ≤ D 70 0 ∨ 999 < a
  · have e1 : u_X11_day D a = D := by unfold u_X11_day; rw [hc.1.1]; split; rfl; rw [if_neg (by omega)]
    have e2 : u_X12_day D a = D := by unfold u_X12_day; split; rfl; rw [if_neg (by omega)]
    have e3 : v_X11_day D a = v_X12_day D a := by unfold v_X11_day v_X12_day; rw [hc.1.1]
    exact Rd.wr ⟨_, (Ev_i (Ev_D (ev_X11_day (n := 0) a h1) e1) e3).le (by decide), (Ev_D (ev_X12_day (n := 0) a h1) e2).le (by decide)⟩ hI
  have e1 : u_X11_day D a = up D 32 14 a := by unfold u_X11_day; rw [if_neg (by omega), if_pos (by omega)]
  have e2 : u_X12_day (up D 32 14 a) a = up (up D 32 14 a) 70 0 a := by
    unfold u_X12_day
    rw [if_neg (by rw [up_c (by decide)]; omega), if_pos (by omega)]
  have e3 : v_X11_day D a = v_X12_day (up D 32 14 a) a := by
    unfold v_X11_day v_X12_day
    rw [up_c (by decide), hc.1.1]
  refine ⟨_, A, _, _, (Ev_i (Ev_D (ev_X11_day (n := 0) a h1) e1) e3).le (by decide), (Ev_D (ev_X12_day (n := 0) a h1) e2).le (by decide), ⟨?_, ?_⟩, ?_⟩
  · obtain ⟨p1, p2, p3, p4, p5, p6, p7, p8, p9, p10, p11, p12, p13, p14, p15⟩ := hI.iv
    refine ⟨?_, ?_, ?_, ?_, ?_, ?_, ?_, ?_, ?_, ?_, ?_, ?_, ?_, ?_, ?_⟩
    · simp (disch := decide) only [I_ct, up_cf, up_i, up_eq]
      exact ⟨⟨trivial, by omega, by omega⟩, hc.2⟩
    · simpa (disch := decide) only [I_cu, up_cf, up_i, up_eq] using p2
    · simpa (disch := decide) only [I_tp, up_cf, up_i, up_eq] using p3
    · simpa (disch := decide) only [I_lg, up_cf, up_i, up_eq] using p4
    · simpa (disch := decide) only [I_hs, up_cf, up_i, up_eq] using p5
    · simpa (disch := decide) only [I_sv, up_cf, up_i, up_eq] using p6
    · simpa (disch := decide) only [I_pl, up_cf, up_i, up_eq] using p7
    · simp (disch := decide) only [I_pg, up_cf, up_i, up_eq]
      intro i i0 i1
      have := p8 i i0 i1
      refine ⟨this.1, this.2.1, this.2.2.1, this.2.2.2.1, this.2.2.2.2.1, this.2.2.2.2.2.1, this.2.2.2.2.2.2.1, this.2.2.2.2.2.2.2.1, ?_⟩
      omega
    · simpa (disch := decide) only [I_bx, up_cf, up_i, up_eq] using p9
    · simp (disch := decide) only [I_tm, up_cf, up_i, up_eq]
      intro i i0 i1
      have := p10 i i0 i1
      omega
    · simpa (disch := decide) only [I_ak, v_X12_ageOn, up_cf, up_i, up_eq] using p11
    · simpa (disch := decide) only [I_ws, up_cf, up_i, up_eq] using p12
    · simpa (disch := decide) only [I_wf, up_cf, up_i, up_eq] using p13
    · simpa (disch := decide) only [I_td, up_cf, up_i, up_eq] using p14
    · simpa (disch := decide) only [I_cn, up_cf, up_i, up_eq] using p15
  · exact Irb_k (fun c q => by rw [up_cf (nrb q rfl), up_cf (nrb q rfl)]) ⟨by rw [up_i (by decide), up_c (by decide)], by rw [up_i (by decide), up_c (by decide)]⟩ (fun l _ => by rw [up_c (by decide), up_c (by decide)]) hI.rb
  · unfold Fr; simp (disch := decide) only [up_cf]; exact ⟨trivial, trivial, by omega, by omega, by first | exact id | trivial⟩
end W1
