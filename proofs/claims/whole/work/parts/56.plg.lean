/-! A new placing. -/
section Pg
variable {n : Nat} {A A' : aA} {D D' : aD} {d : Nat} {s : am_S}
def pgD (D : aD) (i x0 x1 x2 x3 x4 x5 x6 x7 x8 x9 x10 : Int) : aD := up (up (up (up (up (up (up (up (up (up (up (up (up (up D 2500 i x0) 2501 i x1) 2502 i x2) 2503 i x3) 2504 i x4) 2505 i x5) 2506 i x6) 2507 i x7) 2508 i x8) 2509 i x9) 2510 i x10) 915 i 1) 950 0 (D 950 0 + 1)) 951 0 (D 951 0 + 11)
variable {i x0 x1 x2 x3 x4 x5 x6 x7 x8 x9 x10 : Int}
theorem pgD_o {c' : Nat} {j : Int} (h : c' ≠ 950 ∧ c' ≠ 951 ∧ c' ≠ 915 ∧ (c' < 2500 ∨ 2510 < c')) : pgD D i x0 x1 x2 x3 x4 x5 x6 x7 x8 x9 x10 c' j = D c' j := by
  unfold pgD
  rw [up_c h.2.1, up_c h.1, up_c h.2.2.1, up_c (by omega), up_c (by omega), up_c (by omega), up_c (by omega), up_c (by omega), up_c (by omega), up_c (by omega), up_c (by omega), up_c (by omega), up_c (by omega), up_c (by omega)]
theorem pgD_j {c' : Nat} {j : Int} (h : c' ≠ 950 ∧ c' ≠ 951) (hj : j ≠ i) : pgD D i x0 x1 x2 x3 x4 x5 x6 x7 x8 x9 x10 c' j = D c' j := by
  unfold pgD
  rw [up_c h.2, up_c h.1, up_i hj, up_i hj, up_i hj, up_i hj, up_i hj, up_i hj, up_i hj, up_i hj, up_i hj, up_i hj, up_i hj, up_i hj]
theorem pgD_d (c' : Nat) (j : Int) (h : pgD D i x0 x1 x2 x3 x4 x5 x6 x7 x8 x9 x10 c' j ≠ D c' j) : c' = 950 ∨ c' = 951 ∨ ∃ p ∈ [((15 : Nat), i)], blg p c' j := by
  by_cases q : c' = 950 ∨ c' = 951 ∨ ∃ p ∈ [((15 : Nat), i)], blg p c' j
  · exact q
  · exfalso
    have q0 : c' ≠ 950 := fun e => q (Or.inl e)
    have q1 : c' ≠ 951 := fun e => q (Or.inr (Or.inl e))
    have q2 : ¬ blg (15, i) c' j := fun e => q (Or.inr (Or.inr ⟨_, by simp, e⟩))
    unfold blg at q2
    simp only at q2
    apply h
    unfold pgD
    rw [up_c q1, up_c q0, up_n (by omega), up_n (by omega), up_n (by omega), up_n (by omega), up_n (by omega), up_n (by omega), up_n (by omega), up_n (by omega), up_n (by omega), up_n (by omega), up_n (by omega), up_n (by omega)]
theorem pgD_915 {j : Int} : pgD D i x0 x1 x2 x3 x4 x5 x6 x7 x8 x9 x10 915 j = if j = i then 1 else D 915 j := by
  unfold pgD
  rw [up_c (by decide), up_c (by decide)]
  by_cases q : j = i
  · subst q; rw [up_eq, if_pos rfl]
  · rw [up_i q, if_neg q, up_c (by decide), up_c (by decide), up_c (by decide), up_c (by decide), up_c (by decide), up_c (by decide), up_c (by decide), up_c (by decide), up_c (by decide), up_c (by decide), up_c (by decide)]
theorem pgD_fl {t : Nat} {j : Int} (ht : t < 50) (h : D (900 + t) j = 1) : pgD D i x0 x1 x2 x3 x4 x5 x6 x7 x8 x9 x10 (900 + t) j = 1 := by
  by_cases q : t = 15
  · subst q; show pgD D i x0 x1 x2 x3 x4 x5 x6 x7 x8 x9 x10 915 j = 1; rw [pgD_915]; split
    · rfl
    · exact h
  rw [pgD_o (by omega)]; exact h
theorem pgD_f : pgD D i x0 x1 x2 x3 x4 x5 x6 x7 x8 x9 x10 2500 i = x0 ∧ pgD D i x0 x1 x2 x3 x4 x5 x6 x7 x8 x9 x10 2501 i = x1 ∧ pgD D i x0 x1 x2 x3 x4 x5 x6 x7 x8 x9 x10 2502 i = x2 ∧ pgD D i x0 x1 x2 x3 x4 x5 x6 x7 x8 x9 x10 2503 i = x3 ∧ pgD D i x0 x1 x2 x3 x4 x5 x6 x7 x8 x9 x10 2504 i = x4 ∧ pgD D i x0 x1 x2 x3 x4 x5 x6 x7 x8 x9 x10 2505 i = x5 ∧ pgD D i x0 x1 x2 x3 x4 x5 x6 x7 x8 x9 x10 2506 i = x6 ∧ pgD D i x0 x1 x2 x3 x4 x5 x6 x7 x8 x9 x10 2507 i = x7 ∧ pgD D i x0 x1 x2 x3 x4 x5 x6 x7 x8 x9 x10 2508 i = x8 ∧ pgD D i x0 x1 x2 x3 x4 x5 x6 x7 x8 x9 x10 2509 i = x9 ∧ pgD D i x0 x1 x2 x3 x4 x5 x6 x7 x8 x9 x10 2510 i = x10 := by
  unfold pgD
  refine ⟨?_, ?_, ?_, ?_, ?_, ?_, ?_, ?_, ?_, ?_, ?_⟩ <;> simp (disch := decide) only [up_c, up_eq]
theorem Cl_pg {L : Nat} (H : Cl A D) (hx : D 910 x1 = 1 ∧ D 911 x2 = 1) : Cl (upA A 15 i L) (pgD D i x0 x1 x2 x3 x4 x5 x6 x7 x8 x9 x10) := by
  obtain ⟨c1, c2, c3, c4, c5, c6, c7, c8, c9, c10, c11, c12⟩ := H
  have o : ∀ c' j, c' ≠ 950 ∧ c' ≠ 951 ∧ c' ≠ 915 ∧ (c' < 2500 ∨ 2510 < c') → pgD D i x0 x1 x2 x3 x4 x5 x6 x7 x8 x9 x10 c' j = D c' j := fun c' j h => pgD_o h
  refine ⟨?_, ?_, ?_, ?_, ?_, ?_, ?_, ?_, ?_, ?_, ?_, ?_⟩
  · intro l q
    rw [o 900 l (by decide)] at q
    rw [o 1002 l (by decide), o 901 l (by decide), o 1100 l (by decide), upA_t (by decide)]
    exact c1 l q
  · intro l j q r1 r2
    rw [o 900 l (by decide)] at q
    rw [o 1002 l (by decide)] at r2
    have := ety_r l
    exact pgD_fl (by omega) (c2 l j q r1 r2)
  · intro j q
    simp (disch := decide) only [o] at q ⊢
    exact c3 j q
  · intro j q
    simp (disch := decide) only [o] at q ⊢
    exact c4 j q
  · intro j q
    simp (disch := decide) only [o] at q ⊢
    exact c5 j q
  · intro j q
    simp (disch := decide) only [o] at q ⊢
    exact c6 j q
  · intro j q
    rw [o 910 _ (by decide), o 911 _ (by decide)]
    by_cases e : j = i
    · subst e
      obtain ⟨_, e1, e2, _⟩ := pgD_f (D := D) (i := j) (x0 := x0) (x1 := x1) (x2 := x2) (x3 := x3) (x4 := x4) (x5 := x5) (x6 := x6) (x7 := x7) (x8 := x8) (x9 := x9) (x10 := x10)
      rw [e1, e2]; exact hx
    · rw [pgD_j ⟨by decide, by decide⟩ e] at q
      rw [pgD_j ⟨by decide, by decide⟩ e, pgD_j ⟨by decide, by decide⟩ e]
      exact c7 j q
  · intro j q
    simp (disch := decide) only [o] at q ⊢
    exact c8 j q
  · intro k
    simp (disch := decide) only [o]
    exact c9 k
  · intro k
    simp (disch := decide) only [o]
    exact c10 k
  · intro t j t1 t2 q
    rw [o (900 + t) j (by omega)] at q
    rw [o (1000 + 100 * t) j (by omega)]
    exact c11 t j t1 t2 q
  · simp (disch := decide) only [o]
    exact c12
theorem pgD_h : pgD D i x0 x1 x2 x3 x4 x5 x6 x7 x8 x9 x10 950 0 = D 950 0 + 1 ∧ pgD D i x0 x1 x2 x3 x4 x5 x6 x7 x8 x9 x10 951 0 = D 951 0 + 11 := by
  unfold pgD
  rw [up_c (by decide), up_eq, up_eq]; exact ⟨rfl, rfl⟩
theorem Rp0_pg (H : Rp0 A D s) (h9 : ∀ i, D 901 i = 1 → D 900 i = 1) (hn : D 915 i ≠ 1) (hx : D 910 x1 = 1 ∧ D 911 x2 = 1) : Rp0 (upA A 15 i s.1.length) (pgD D i x0 x1 x2 x3 x4 x5 x6 x7 x8 x9 x10) (s.1 ++ [.inl (6, [am_i (wz (x0)), am_r (some (A 10 (x1))), am_r (some (A 11 (x2))), am_i (wz (x3)), am_i (wz (x4)), am_i (wz (x5)), am_i (wz (x6)), am_i (wz (x7)), am_i (wz (x8)), am_i (wz (x9)), am_i (wz (x10))])], s.2 + 11) := by
  have hlen := H.2.2.2.2.1
  refine Rp0_adopt (NS := [(15, i)]) H h9 ?_ pgD_d ?_ ?_ ?_ ⟨?_, ?_⟩ (Cl_pg H.2.2.2.2.2 hx)
  · intro p hp
    simp only [List.mem_cons, List.not_mem_nil, or_false] at hp
    subst hp
    exact ⟨show (15 : Nat) < 50 by decide, fun _ => by simp [tfs], hn⟩
  · intro t j q
    refine if_neg ?_
    rintro ⟨rfl, rfl⟩; exact hn q
  · intro j _
    exact upA_t (by decide)
  · intro p hp
    simp only [List.mem_cons, List.not_mem_nil, or_false] at hp
    subst hp
    refine ⟨0, upA_eq, rfl, ?_⟩
    show _ = some ((Sum.inl (6, [am_i (wz (pgD D i x0 x1 x2 x3 x4 x5 x6 x7 x8 x9 x10 2500 i)), am_r (some (upA A 15 i s.1.length 10 (pgD D i x0 x1 x2 x3 x4 x5 x6 x7 x8 x9 x10 2501 i))), am_r (some (upA A 15 i s.1.length 11 (pgD D i x0 x1 x2 x3 x4 x5 x6 x7 x8 x9 x10 2502 i))), am_i (wz (pgD D i x0 x1 x2 x3 x4 x5 x6 x7 x8 x9 x10 2503 i)), am_i (wz (pgD D i x0 x1 x2 x3 x4 x5 x6 x7 x8 x9 x10 2504 i)), am_i (wz (pgD D i x0 x1 x2 x3 x4 x5 x6 x7 x8 x9 x10 2505 i)), am_i (wz (pgD D i x0 x1 x2 x3 x4 x5 x6 x7 x8 x9 x10 2506 i)), am_i (wz (pgD D i x0 x1 x2 x3 x4 x5 x6 x7 x8 x9 x10 2507 i)), am_i (wz (pgD D i x0 x1 x2 x3 x4 x5 x6 x7 x8 x9 x10 2508 i)), am_i (wz (pgD D i x0 x1 x2 x3 x4 x5 x6 x7 x8 x9 x10 2509 i)), am_i (wz (pgD D i x0 x1 x2 x3 x4 x5 x6 x7 x8 x9 x10 2510 i))])) : am_Ce)
    obtain ⟨e0, e1, e2, e3, e4, e5, e6, e7, e8, e9, e10⟩ := pgD_f (D := D) (i := i) (x0 := x0) (x1 := x1) (x2 := x2) (x3 := x3) (x4 := x4) (x5 := x5) (x6 := x6) (x7 := x7) (x8 := x8) (x9 := x9) (x10 := x10)
    rw [e0, e1, e2, e3, e4, e5, e6, e7, e8, e9, e10, upA_t (by decide), upA_t (by decide)]; rfl
  · rw [pgD_h.1, hlen.1]; rfl
  · rw [pgD_h.2, hlen.2]; rfl
end Pg
