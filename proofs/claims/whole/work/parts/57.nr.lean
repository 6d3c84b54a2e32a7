/-! Things without rows: the form with levels. -/
section Rp_tm_
variable {n : Nat} {A A' : aA} {D D' : aD} {d : Nat} {s : am_S} {i x0 x1 x2 x3 x4 x5 : Int}
theorem mxx_tmD {F : aD} : mxx n (tmD D i x0 x1 x2 x3 x4 x5) F = tmD (mxx n D F) i x0 x1 x2 x3 x4 x5 := by
  unfold tmD
  rw [mxx_up rfl, mxx_up rfl, mxx_up rfl, mxx_up rfl, mxx_up rfl, mxx_up rfl, mxx_up rfl, mxx_up rfl, mxx_up rfl, mxx_v rfl, mxx_v rfl]
theorem Rp_tm (hr : Rp n A D s) (h9 : ∀ i, D 901 i = 1 → D 900 i = 1) (hn : D 912 i ≠ 1) (e0 : rg x0) (e1 : rg x1) (e2 : rg x2) (e3 : rg x3) (e4 : rg x4) (e5 : rg x5) (hh : D 950 0 ≤ 1000000000 ∧ D 951 0 ≤ 1000000000) : Rp n (upA A 12 i s.1.length) (tmD D i x0 x1 x2 x3 x4 x5) (s.1 ++ [.inl (11, [am_i (wz (x0)), am_i (wz (x1)), am_i (wz (x2)), am_i (wz (x3)), am_i (wz (x4)), am_i (wz (x5))])], s.2 + 6) := by
  obtain ⟨hg, F, H⟩ := hr
  refine ⟨?_, F, ?_⟩
  · have r0 := hg 950 0
    have r1 := hg 951 0
    unfold rg at r0 r1
    unfold tmD
    exact rg_up (rg_up (rg_up (rg_up (rg_up (rg_up (rg_up (rg_up (rg_up hg e0) e1) e2) e3) e4) e5) ⟨by decide, by decide⟩) ⟨by omega, by omega⟩) ⟨by omega, by omega⟩
  · rw [mxx_tmD]
    exact Rp0_tm H (fun i q => (mxx_v rfl).trans (h9 i ((mxx_v rfl).symm.trans q))) (by rw [mxx_v rfl]; exact hn)
end Rp_tm_
section Rp_pg_
variable {n : Nat} {A A' : aA} {D D' : aD} {d : Nat} {s : am_S} {i x0 x1 x2 x3 x4 x5 x6 x7 x8 x9 x10 : Int}
theorem mxx_pgD {F : aD} : mxx n (pgD D i x0 x1 x2 x3 x4 x5 x6 x7 x8 x9 x10) F = pgD (mxx n D F) i x0 x1 x2 x3 x4 x5 x6 x7 x8 x9 x10 := by
  unfold pgD
  rw [mxx_up rfl, mxx_up rfl, mxx_up rfl, mxx_up rfl, mxx_up rfl, mxx_up rfl, mxx_up rfl, mxx_up rfl, mxx_up rfl, mxx_up rfl, mxx_up rfl, mxx_up rfl, mxx_up rfl, mxx_up rfl, mxx_v rfl, mxx_v rfl]
theorem Rp_pg (hr : Rp n A D s) (h9 : ∀ i, D 901 i = 1 → D 900 i = 1) (hn : D 915 i ≠ 1) (hx : D 910 x1 = 1 ∧ D 911 x2 = 1) (e0 : rg x0) (e1 : rg x1) (e2 : rg x2) (e3 : rg x3) (e4 : rg x4) (e5 : rg x5) (e6 : rg x6) (e7 : rg x7) (e8 : rg x8) (e9 : rg x9) (e10 : rg x10) (hh : D 950 0 ≤ 1000000000 ∧ D 951 0 ≤ 1000000000) : Rp n (upA A 15 i s.1.length) (pgD D i x0 x1 x2 x3 x4 x5 x6 x7 x8 x9 x10) (s.1 ++ [.inl (6, [am_i (wz (x0)), am_r (some (A 10 (x1))), am_r (some (A 11 (x2))), am_i (wz (x3)), am_i (wz (x4)), am_i (wz (x5)), am_i (wz (x6)), am_i (wz (x7)), am_i (wz (x8)), am_i (wz (x9)), am_i (wz (x10))])], s.2 + 11) := by
  obtain ⟨hg, F, H⟩ := hr
  refine ⟨?_, F, ?_⟩
  · have r0 := hg 950 0
    have r1 := hg 951 0
    unfold rg at r0 r1
    unfold pgD
    exact rg_up (rg_up (rg_up (rg_up (rg_up (rg_up (rg_up (rg_up (rg_up (rg_up (rg_up (rg_up (rg_up (rg_up hg e0) e1) e2) e3) e4) e5) e6) e7) e8) e9) e10) ⟨by decide, by decide⟩) ⟨by omega, by omega⟩) ⟨by omega, by omega⟩
  · rw [mxx_pgD]
    exact Rp0_pg H (fun i q => (mxx_v rfl).trans (h9 i ((mxx_v rfl).symm.trans q))) (by rw [mxx_v rfl]; exact hn) ⟨by rw [mxx_v rfl]; exact hx.1, by rw [mxx_v rfl]; exact hx.2⟩
end Rp_pg_
/-! A new ask. -/
section Ak_
variable {n : Nat} {A A' : aA} {D D' : aD} {d : Nat} {s : am_S}
def akD (D : aD) (i x0 x1 x2 x3 : Int) : aD := up (up (up (up (up (up (up D 2300 i x0) 2301 i x1) 2302 i x2) 2303 i x3) 913 i 1) 950 0 (D 950 0 + 1)) 951 0 (D 951 0 + 4)
variable {i x0 x1 x2 x3 : Int}
theorem akD_o {c' : Nat} {j : Int} (h : c' ≠ 950 ∧ c' ≠ 951 ∧ c' ≠ 913 ∧ (c' < 2300 ∨ 2303 < c')) : akD D i x0 x1 x2 x3 c' j = D c' j := by
  unfold akD
  rw [up_c h.2.1, up_c h.1, up_c h.2.2.1, up_c (by omega), up_c (by omega), up_c (by omega), up_c (by omega)]
theorem akD_j {c' : Nat} {j : Int} (h : c' ≠ 950 ∧ c' ≠ 951) (hj : j ≠ i) : akD D i x0 x1 x2 x3 c' j = D c' j := by
  unfold akD
  rw [up_c h.2, up_c h.1, up_i hj, up_i hj, up_i hj, up_i hj, up_i hj]
theorem akD_d (c' : Nat) (j : Int) (h : akD D i x0 x1 x2 x3 c' j ≠ D c' j) : c' = 950 ∨ c' = 951 ∨ ∃ p ∈ [((13 : Nat), i)], blg p c' j := by
  by_cases q : c' = 950 ∨ c' = 951 ∨ ∃ p ∈ [((13 : Nat), i)], blg p c' j
  · exact q
  · exfalso
    have q0 : c' ≠ 950 := fun e => q (Or.inl e)
    have q1 : c' ≠ 951 := fun e => q (Or.inr (Or.inl e))
    have q2 : ¬ blg (13, i) c' j := fun e => q (Or.inr (Or.inr ⟨_, by simp, e⟩))
    unfold blg at q2
    simp only at q2
    apply h
    unfold akD
    rw [up_c q1, up_c q0, up_n (by omega), up_n (by omega), up_n (by omega), up_n (by omega), up_n (by omega)]
theorem akD_913 {j : Int} : akD D i x0 x1 x2 x3 913 j = if j = i then 1 else D 913 j := by
  unfold akD
  rw [up_c (by decide), up_c (by decide)]
  by_cases q : j = i
  · subst q; rw [up_eq, if_pos rfl]
  · rw [up_i q, if_neg q, up_c (by decide), up_c (by decide), up_c (by decide), up_c (by decide)]
theorem akD_fl {t : Nat} {j : Int} (ht : t < 50) (h : D (900 + t) j = 1) : akD D i x0 x1 x2 x3 (900 + t) j = 1 := by
  by_cases q : t = 13
  · subst q; show akD D i x0 x1 x2 x3 913 j = 1; rw [akD_913]; split
    · rfl
    · exact h
  rw [akD_o (by omega)]; exact h
theorem akD_f : akD D i x0 x1 x2 x3 2300 i = x0 ∧ akD D i x0 x1 x2 x3 2301 i = x1 ∧ akD D i x0 x1 x2 x3 2302 i = x2 ∧ akD D i x0 x1 x2 x3 2303 i = x3 := by
  unfold akD
  refine ⟨?_, ?_, ?_, ?_⟩ <;> simp (disch := decide) only [up_c, up_eq]
theorem Cl_ak {L : Nat} (H : Cl A D) (hx : D 910 x0 = 1 ∧ D 911 x1 = 1) : Cl (upA A 13 i L) (akD D i x0 x1 x2 x3) := by
  obtain ⟨c1, c2, c3, c4, c5, c6, c7, c8, c9, c10, c11, c12⟩ := H
  have o : ∀ c' j, c' ≠ 950 ∧ c' ≠ 951 ∧ c' ≠ 913 ∧ (c' < 2300 ∨ 2303 < c') → akD D i x0 x1 x2 x3 c' j = D c' j := fun c' j h => akD_o h
  refine ⟨?_, ?_, ?_, ?_, ?_, ?_, ?_, ?_, ?_, ?_, ?_, ?_⟩
  · intro l q
    rw [o 900 l (by decide)] at q
    rw [o 1002 l (by decide), o 901 l (by decide), o 1100 l (by decide), upA_t (by decide)]
    exact c1 l q
  · intro l j q r1 r2
    rw [o 900 l (by decide)] at q
    rw [o 1002 l (by decide)] at r2
    have := ety_r l
    exact akD_fl (by omega) (c2 l j q r1 r2)
  · intro j q
    simp (disch := decide) only [o] at q ⊢
    exact c3 j q
  · intro j q
    simp (disch := decide) only [o] at q ⊢
    exact c4 j q
  · intro j q
    rw [o 910 _ (by decide), o 911 _ (by decide)]
    by_cases e : j = i
    · subst e
      obtain ⟨e0, e1, e2, e3⟩ := akD_f (D := D) (i := j) (x0 := x0) (x1 := x1) (x2 := x2) (x3 := x3)
      rw [e0, e1]; exact hx
    · rw [akD_j ⟨by decide, by decide⟩ e] at q
      rw [akD_j ⟨by decide, by decide⟩ e, akD_j ⟨by decide, by decide⟩ e]
      exact c5 j q
  · intro j q
    simp (disch := decide) only [o] at q ⊢
    exact c6 j q
  · intro j q
    simp (disch := decide) only [o] at q ⊢
    exact c7 j q
  · intro j q
    simp (disch := decide) only [o] at q ⊢
    exact c8 j q
  · intro k
    simp (disch := decide) only [o]
    exact c9 k
  · intro k
    simp (disch := decide) only [o]
    exact c10 k
  · intro t j t1 t2 q
    rw [o (900 + t) j (by omega)] at q
    rw [o (1000 + 100 * t) j (by omega)]
    exact c11 t j t1 t2 q
  · simp (disch := decide) only [o]
    exact c12
theorem akD_h : akD D i x0 x1 x2 x3 950 0 = D 950 0 + 1 ∧ akD D i x0 x1 x2 x3 951 0 = D 951 0 + 4 := by
  unfold akD
  rw [up_c (by decide), up_eq, up_eq]; exact ⟨rfl, rfl⟩
theorem Rp0_ak (H : Rp0 A D s) (h9 : ∀ i, D 901 i = 1 → D 900 i = 1) (hn : D 913 i ≠ 1) (hx : D 910 x0 = 1 ∧ D 911 x1 = 1) : Rp0 (upA A 13 i s.1.length) (akD D i x0 x1 x2 x3) (s.1 ++ [.inl (1, [am_r (some (A 10 (x0))), am_r (some (A 11 (x1))), am_i (wz (x2)), am_i (wz (x3))])], s.2 + 4) := by
  have hlen := H.2.2.2.2.1
  refine Rp0_adopt (NS := [(13, i)]) H h9 ?_ akD_d ?_ ?_ ?_ ⟨?_, ?_⟩ (Cl_ak H.2.2.2.2.2 hx)
  · intro p hp
    simp only [List.mem_cons, List.not_mem_nil, or_false] at hp
    subst hp
    exact ⟨show (13 : Nat) < 50 by decide, fun _ => by simp [tfs], hn⟩
  · intro t j q
    refine if_neg ?_
    rintro ⟨rfl, rfl⟩; exact hn q
  · intro j _
    exact upA_t (by decide)
  · intro p hp
    simp only [List.mem_cons, List.not_mem_nil, or_false] at hp
    subst hp
    refine ⟨0, upA_eq, rfl, ?_⟩
    show _ = some ((Sum.inl (1, [am_r (some (upA A 13 i s.1.length 10 (akD D i x0 x1 x2 x3 2300 i))), am_r (some (upA A 13 i s.1.length 11 (akD D i x0 x1 x2 x3 2301 i))), am_i (wz (akD D i x0 x1 x2 x3 2302 i)), am_i (wz (akD D i x0 x1 x2 x3 2303 i))])) : am_Ce)
    obtain ⟨e0, e1, e2, e3⟩ := akD_f (D := D) (i := i) (x0 := x0) (x1 := x1) (x2 := x2) (x3 := x3)
    rw [e0, e1, e2, e3, upA_t (by decide), upA_t (by decide)]; rfl
  · rw [akD_h.1, hlen.1]; rfl
  · rw [akD_h.2, hlen.2]; rfl
theorem mxx_akD {F : aD} : mxx n (akD D i x0 x1 x2 x3) F = akD (mxx n D F) i x0 x1 x2 x3 := by
  unfold akD
  rw [mxx_up rfl, mxx_up rfl, mxx_up rfl, mxx_up rfl, mxx_up rfl, mxx_up rfl, mxx_up rfl, mxx_v rfl, mxx_v rfl]
theorem Rp_ak (hr : Rp n A D s) (h9 : ∀ i, D 901 i = 1 → D 900 i = 1) (hn : D 913 i ≠ 1) (hx : D 910 x0 = 1 ∧ D 911 x1 = 1) (e0 : rg x0) (e1 : rg x1) (e2 : rg x2) (e3 : rg x3) (hh : D 950 0 ≤ 1000000000 ∧ D 951 0 ≤ 1000000000) : Rp n (upA A 13 i s.1.length) (akD D i x0 x1 x2 x3) (s.1 ++ [.inl (1, [am_r (some (A 10 (x0))), am_r (some (A 11 (x1))), am_i (wz (x2)), am_i (wz (x3))])], s.2 + 4) := by
  obtain ⟨hg, F, H⟩ := hr
  refine ⟨?_, F, ?_⟩
  · have r0 := hg 950 0
    have r1 := hg 951 0
    unfold rg at r0 r1
    unfold akD
    exact rg_up (rg_up (rg_up (rg_up (rg_up (rg_up (rg_up hg e0) e1) e2) e3) ⟨by decide, by decide⟩) ⟨by omega, by omega⟩) ⟨by omega, by omega⟩
  · rw [mxx_akD]
    exact Rp0_ak H (fun i q => (mxx_v rfl).trans (h9 i ((mxx_v rfl).symm.trans q))) (by rw [mxx_v rfl]; exact hn) ⟨by rw [mxx_v rfl]; exact hx.1, by rw [mxx_v rfl]; exact hx.2⟩
end Ak_
/-! A new statement. -/
section Sm_n
variable {n : Nat} {A A' : aA} {D D' : aD} {d : Nat} {s : am_S}
def smD (D : aD) (i x0 x1 x2 x3 x4 x5 : Int) : aD := up (up (up (up (up (up (up (up (up D 2600 i x0) 2601 i x1) 2602 i x2) 2603 i x3) 2604 i x4) 2605 i x5) 916 i 1) 950 0 (D 950 0 + 1)) 951 0 (D 951 0 + 6)
variable {i x0 x1 x2 x3 x4 x5 : Int}
theorem smD_o {c' : Nat} {j : Int} (h : c' ≠ 950 ∧ c' ≠ 951 ∧ c' ≠ 916 ∧ (c' < 2600 ∨ 2605 < c')) : smD D i x0 x1 x2 x3 x4 x5 c' j = D c' j := by
  unfold smD
  rw [up_c h.2.1, up_c h.1, up_c h.2.2.1, up_c (by omega), up_c (by omega), up_c (by omega), up_c (by omega), up_c (by omega), up_c (by omega)]
theorem smD_j {c' : Nat} {j : Int} (h : c' ≠ 950 ∧ c' ≠ 951) (hj : j ≠ i) : smD D i x0 x1 x2 x3 x4 x5 c' j = D c' j := by
  unfold smD
  rw [up_c h.2, up_c h.1, up_i hj, up_i hj, up_i hj, up_i hj, up_i hj, up_i hj, up_i hj]
theorem smD_d (c' : Nat) (j : Int) (h : smD D i x0 x1 x2 x3 x4 x5 c' j ≠ D c' j) : c' = 950 ∨ c' = 951 ∨ ∃ p ∈ [((16 : Nat), i)], blg p c' j := by
  by_cases q : c' = 950 ∨ c' = 951 ∨ ∃ p ∈ [((16 : Nat), i)], blg p c' j
  · exact q
  · exfalso
    have q0 : c' ≠ 950 := fun e => q (Or.inl e)
    have q1 : c' ≠ 951 := fun e => q (Or.inr (Or.inl e))
    have q2 : ¬ blg (16, i) c' j := fun e => q (Or.inr (Or.inr ⟨_, by simp, e⟩))
    unfold blg at q2
    simp only at q2
    apply h
    unfold smD
    rw [up_c q1, up_c q0, up_n (by omega), up_n (by omega), up_n (by omega), up_n (by omega), up_n (by omega), up_n (by omega), up_n (by omega)]
theorem smD_916 {j : Int} : smD D i x0 x1 x2 x3 x4 x5 916 j = if j = i then 1 else D 916 j := by
  unfold smD
  rw [up_c (by decide), up_c (by decide)]
  by_cases q : j = i
  · subst q; rw [up_eq, if_pos rfl]
  · rw [up_i q, if_neg q, up_c (by decide), up_c (by decide), up_c (by decide), up_c (by decide), up_c (by decide), up_c (by decide)]
theorem smD_fl {t : Nat} {j : Int} (ht : t < 50) (h : D (900 + t) j = 1) : smD D i x0 x1 x2 x3 x4 x5 (900 + t) j = 1 := by
  by_cases q : t = 16
  · subst q; show smD D i x0 x1 x2 x3 x4 x5 916 j = 1; rw [smD_916]; split
    · rfl
    · exact h
  rw [smD_o (by omega)]; exact h
theorem smD_f : smD D i x0 x1 x2 x3 x4 x5 2600 i = x0 ∧ smD D i x0 x1 x2 x3 x4 x5 2601 i = x1 ∧ smD D i x0 x1 x2 x3 x4 x5 2602 i = x2 ∧ smD D i x0 x1 x2 x3 x4 x5 2603 i = x3 ∧ smD D i x0 x1 x2 x3 x4 x5 2604 i = x4 ∧ smD D i x0 x1 x2 x3 x4 x5 2605 i = x5 := by
  unfold smD
  refine ⟨?_, ?_, ?_, ?_, ?_, ?_⟩ <;> simp (disch := decide) only [up_c, up_eq]
theorem Cl_sm {L : Nat} (H : Cl A D) (hx : x5 = 0) : Cl (upA A 16 i L) (smD D i x0 x1 x2 x3 x4 x5) := by
  obtain ⟨c1, c2, c3, c4, c5, c6, c7, c8, c9, c10, c11, c12⟩ := H
  have o : ∀ c' j, c' ≠ 950 ∧ c' ≠ 951 ∧ c' ≠ 916 ∧ (c' < 2600 ∨ 2605 < c') → smD D i x0 x1 x2 x3 x4 x5 c' j = D c' j := fun c' j h => smD_o h
  refine ⟨?_, ?_, ?_, ?_, ?_, ?_, ?_, ?_, ?_, ?_, ?_, ?_⟩
  · intro l q
    rw [o 900 l (by decide)] at q
    rw [o 1002 l (by decide), o 901 l (by decide), o 1100 l (by decide), upA_t (by decide)]
    exact c1 l q
  · intro l j q r1 r2
    rw [o 900 l (by decide)] at q
    rw [o 1002 l (by decide)] at r2
    have := ety_r l
    exact smD_fl (by omega) (c2 l j q r1 r2)
  · intro j q
    simp (disch := decide) only [o] at q ⊢
    exact c3 j q
  · intro j q
    simp (disch := decide) only [o] at q ⊢
    exact c4 j q
  · intro j q
    simp (disch := decide) only [o] at q ⊢
    exact c5 j q
  · intro j q
    simp (disch := decide) only [o] at q ⊢
    exact c6 j q
  · intro j q
    simp (disch := decide) only [o] at q ⊢
    exact c7 j q
  · intro j q
    rw [o 922 _ (by decide)]
    by_cases e : j = i
    · subst e
      obtain ⟨e0, e1, e2, e3, e4, e5⟩ := smD_f (D := D) (i := j) (x0 := x0) (x1 := x1) (x2 := x2) (x3 := x3) (x4 := x4) (x5 := x5)
      exact Or.inl (e5.trans hx)
    · rw [smD_j ⟨by decide, by decide⟩ e] at q ⊢
      exact c8 j q
  · intro k
    simp (disch := decide) only [o]
    exact c9 k
  · intro k
    simp (disch := decide) only [o]
    exact c10 k
  · intro t j t1 t2 q
    rw [o (900 + t) j (by omega)] at q
    rw [o (1000 + 100 * t) j (by omega)]
    exact c11 t j t1 t2 q
  · simp (disch := decide) only [o]
    exact c12
theorem smD_h : smD D i x0 x1 x2 x3 x4 x5 950 0 = D 950 0 + 1 ∧ smD D i x0 x1 x2 x3 x4 x5 951 0 = D 951 0 + 6 := by
  unfold smD
  rw [up_c (by decide), up_eq, up_eq]; exact ⟨rfl, rfl⟩
theorem Rp0_sm (H : Rp0 A D s) (h9 : ∀ i, D 901 i = 1 → D 900 i = 1) (hn : D 916 i ≠ 1) (hx : x5 = 0) : Rp0 (upA A 16 i s.1.length) (smD D i x0 x1 x2 x3 x4 x5) (s.1 ++ [.inl (10, [am_i (wz (x0)), am_i (wz (x1)), am_i (wz (x2)), am_i (wz (x3)), am_i (wz (x4)), am_r none])], s.2 + 6) := by
  have hlen := H.2.2.2.2.1
  refine Rp0_adopt (NS := [(16, i)]) H h9 ?_ smD_d ?_ ?_ ?_ ⟨?_, ?_⟩ (Cl_sm H.2.2.2.2.2 hx)
  · intro p hp
    simp only [List.mem_cons, List.not_mem_nil, or_false] at hp
    subst hp
    exact ⟨show (16 : Nat) < 50 by decide, fun _ => by simp [tfs], hn⟩
  · intro t j q
    refine if_neg ?_
    rintro ⟨rfl, rfl⟩; exact hn q
  · intro j _
    exact upA_t (by decide)
  · intro p hp
    simp only [List.mem_cons, List.not_mem_nil, or_false] at hp
    subst hp
    refine ⟨0, upA_eq, rfl, ?_⟩
    show _ = some ((Sum.inl (10, [am_i (wz (smD D i x0 x1 x2 x3 x4 x5 2600 i)), am_i (wz (smD D i x0 x1 x2 x3 x4 x5 2601 i)), am_i (wz (smD D i x0 x1 x2 x3 x4 x5 2602 i)), am_i (wz (smD D i x0 x1 x2 x3 x4 x5 2603 i)), am_i (wz (smD D i x0 x1 x2 x3 x4 x5 2604 i)), am_r (if smD D i x0 x1 x2 x3 x4 x5 2605 i = 0 then none else some (upA A 16 i s.1.length 22 i))])) : am_Ce)
    obtain ⟨e0, e1, e2, e3, e4, e5⟩ := smD_f (D := D) (i := i) (x0 := x0) (x1 := x1) (x2 := x2) (x3 := x3) (x4 := x4) (x5 := x5)
    rw [e0, e1, e2, e3, e4, e5, if_pos hx]; rfl
  · rw [smD_h.1, hlen.1]; rfl
  · rw [smD_h.2, hlen.2]; rfl
theorem mxx_smD {F : aD} : mxx n (smD D i x0 x1 x2 x3 x4 x5) F = smD (mxx n D F) i x0 x1 x2 x3 x4 x5 := by
  unfold smD
  rw [mxx_up rfl, mxx_up rfl, mxx_up rfl, mxx_up rfl, mxx_up rfl, mxx_up rfl, mxx_up rfl, mxx_up rfl, mxx_up rfl, mxx_v rfl, mxx_v rfl]
theorem Rp_sm (hr : Rp n A D s) (h9 : ∀ i, D 901 i = 1 → D 900 i = 1) (hn : D 916 i ≠ 1) (hx : x5 = 0) (e0 : rg x0) (e1 : rg x1) (e2 : rg x2) (e3 : rg x3) (e4 : rg x4) (e5 : rg x5) (hh : D 950 0 ≤ 1000000000 ∧ D 951 0 ≤ 1000000000) : Rp n (upA A 16 i s.1.length) (smD D i x0 x1 x2 x3 x4 x5) (s.1 ++ [.inl (10, [am_i (wz (x0)), am_i (wz (x1)), am_i (wz (x2)), am_i (wz (x3)), am_i (wz (x4)), am_r none])], s.2 + 6) := by
  obtain ⟨hg, F, H⟩ := hr
  refine ⟨?_, F, ?_⟩
  · have r0 := hg 950 0
    have r1 := hg 951 0
    unfold rg at r0 r1
    unfold smD
    exact rg_up (rg_up (rg_up (rg_up (rg_up (rg_up (rg_up (rg_up (rg_up hg e0) e1) e2) e3) e4) e5) ⟨by decide, by decide⟩) ⟨by omega, by omega⟩) ⟨by omega, by omega⟩
  · rw [mxx_smD]
    exact Rp0_sm H (fun i q => (mxx_v rfl).trans (h9 i ((mxx_v rfl).symm.trans q))) (by rw [mxx_v rfl]; exact hn) hx
end Sm_n
