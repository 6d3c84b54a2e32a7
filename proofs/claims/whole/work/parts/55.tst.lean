/-! A new testimony. -/
section Tm
variable {n : Nat} {A A' : aA} {D D' : aD} {d : Nat} {s : am_S}
def tmD (D : aD) (i x0 x1 x2 x3 x4 x5 : Int) : aD := up (up (up (up (up (up (up (up (up D 2200 i x0) 2201 i x1) 2202 i x2) 2203 i x3) 2204 i x4) 2205 i x5) 912 i 1) 950 0 (D 950 0 + 1)) 951 0 (D 951 0 + 6)
variable {i x0 x1 x2 x3 x4 x5 : Int}
theorem tmD_o {c' : Nat} {j : Int} (h : c' ≠ 950 ∧ c' ≠ 951 ∧ c' ≠ 912 ∧ (c' < 2200 ∨ 2205 < c')) : tmD D i x0 x1 x2 x3 x4 x5 c' j = D c' j := by
  unfold tmD
  rw [up_c h.2.1, up_c h.1, up_c h.2.2.1, up_c (by omega), up_c (by omega), up_c (by omega), up_c (by omega), up_c (by omega), up_c (by omega)]
theorem tmD_d (c' : Nat) (j : Int) (h : tmD D i x0 x1 x2 x3 x4 x5 c' j ≠ D c' j) : c' = 950 ∨ c' = 951 ∨ ∃ p ∈ [((12 : Nat), i)], blg p c' j := by
  by_cases q : c' = 950 ∨ c' = 951 ∨ ∃ p ∈ [((12 : Nat), i)], blg p c' j
  · exact q
  · exfalso
    have q0 : c' ≠ 950 := fun e => q (Or.inl e)
    have q1 : c' ≠ 951 := fun e => q (Or.inr (Or.inl e))
    have q2 : ¬ blg (12, i) c' j := fun e => q (Or.inr (Or.inr ⟨_, by simp, e⟩))
    unfold blg at q2
    simp only at q2
    apply h
    unfold tmD
    rw [up_c q1, up_c q0, up_n (by omega), up_n (by omega), up_n (by omega), up_n (by omega), up_n (by omega), up_n (by omega), up_n (by omega)]
theorem tmD_912 {j : Int} : tmD D i x0 x1 x2 x3 x4 x5 912 j = if j = i then 1 else D 912 j := by
  unfold tmD
  rw [up_c (by decide), up_c (by decide)]
  by_cases q : j = i
  · subst q; rw [up_eq, if_pos rfl]
  · rw [up_i q, if_neg q, up_c (by decide), up_c (by decide), up_c (by decide), up_c (by decide), up_c (by decide), up_c (by decide)]
theorem tmD_fl {t : Nat} {j : Int} (ht : t < 50) (h : D (900 + t) j = 1) : tmD D i x0 x1 x2 x3 x4 x5 (900 + t) j = 1 := by
  by_cases q : t = 12
  · subst q; show tmD D i x0 x1 x2 x3 x4 x5 912 j = 1; rw [tmD_912]; split
    · rfl
    · exact h
  rw [tmD_o (by omega)]; exact h
theorem Cl_tm {L : Nat} (H : Cl A D) : Cl (upA A 12 i L) (tmD D i x0 x1 x2 x3 x4 x5) := by
  obtain ⟨c1, c2, c3, c4, c5, c6, c7, c8, c9, c10, c11, c12⟩ := H
  have o : ∀ c' j, c' ≠ 950 ∧ c' ≠ 951 ∧ c' ≠ 912 ∧ (c' < 2200 ∨ 2205 < c') → tmD D i x0 x1 x2 x3 x4 x5 c' j = D c' j := fun c' j h => tmD_o h
  refine ⟨?_, ?_, ?_, ?_, ?_, ?_, ?_, ?_, ?_, ?_, ?_, ?_⟩
  · intro l q
    rw [o 900 l (by decide)] at q
    rw [o 1002 l (by decide), o 901 l (by decide), o 1100 l (by decide), upA_t (by decide)]
    exact c1 l q
  · intro l j q r1 r2
    rw [o 900 l (by decide)] at q
    rw [o 1002 l (by decide)] at r2
    have := ety_r l
    exact tmD_fl (by omega) (c2 l j q r1 r2)
  · intro j q
    simp (disch := decide) only [o] at q ⊢
    exact c3 j q
  · intro j q
    simp (disch := decide) only [o] at q ⊢
    exact c4 j q
  · intro j q
    simp (disch := decide) only [o] at q ⊢
    exact c5 j q
  · intro j q
    simp (disch := decide) only [o] at q ⊢
    exact c6 j q
  · intro j q
    simp (disch := decide) only [o] at q ⊢
    exact c7 j q
  · intro j q
    simp (disch := decide) only [o] at q ⊢
    exact c8 j q
  · intro k
    simp (disch := decide) only [o]
    exact c9 k
  · intro k
    simp (disch := decide) only [o]
    exact c10 k
  · intro t j t1 t2 q
    rw [o (900 + t) j (by omega)] at q
    rw [o (1000 + 100 * t) j (by omega)]
    exact c11 t j t1 t2 q
  · simp (disch := decide) only [o]
    exact c12
theorem tmD_f : tmD D i x0 x1 x2 x3 x4 x5 2200 i = x0 ∧ tmD D i x0 x1 x2 x3 x4 x5 2201 i = x1 ∧ tmD D i x0 x1 x2 x3 x4 x5 2202 i = x2 ∧ tmD D i x0 x1 x2 x3 x4 x5 2203 i = x3 ∧ tmD D i x0 x1 x2 x3 x4 x5 2204 i = x4 ∧ tmD D i x0 x1 x2 x3 x4 x5 2205 i = x5 := by
  unfold tmD
  refine ⟨?_, ?_, ?_, ?_, ?_, ?_⟩ <;> simp (disch := decide) only [up_c, up_eq]
theorem tmD_h : tmD D i x0 x1 x2 x3 x4 x5 950 0 = D 950 0 + 1 ∧ tmD D i x0 x1 x2 x3 x4 x5 951 0 = D 951 0 + 6 := by
  unfold tmD
  rw [up_c (by decide), up_eq, up_eq]; exact ⟨rfl, rfl⟩
theorem Rp0_tm (H : Rp0 A D s) (h9 : ∀ i, D 901 i = 1 → D 900 i = 1) (hn : D 912 i ≠ 1) : Rp0 (upA A 12 i s.1.length) (tmD D i x0 x1 x2 x3 x4 x5) (s.1 ++ [.inl (11, [am_i (wz x0), am_i (wz x1), am_i (wz x2), am_i (wz x3), am_i (wz x4), am_i (wz x5)])], s.2 + 6) := by
  have hlen := H.2.2.2.2.1
  refine Rp0_adopt (NS := [(12, i)]) H h9 ?_ tmD_d ?_ ?_ ?_ ⟨?_, ?_⟩ (Cl_tm H.2.2.2.2.2)
  · intro p hp
    simp only [List.mem_cons, List.not_mem_nil, or_false] at hp
    subst hp
    exact ⟨show (12 : Nat) < 50 by decide, fun _ => by simp [tfs], hn⟩
  · intro t j q
    refine if_neg ?_
    rintro ⟨rfl, rfl⟩; exact hn q
  · intro j _
    exact upA_t (by decide)
  · intro p hp
    simp only [List.mem_cons, List.not_mem_nil, or_false] at hp
    subst hp
    refine ⟨0, upA_eq, rfl, ?_⟩
    show _ = some ((Sum.inl (11, [am_i (wz (tmD D i x0 x1 x2 x3 x4 x5 2200 i)), am_i (wz (tmD D i x0 x1 x2 x3 x4 x5 2201 i)), am_i (wz (tmD D i x0 x1 x2 x3 x4 x5 2202 i)), am_i (wz (tmD D i x0 x1 x2 x3 x4 x5 2203 i)), am_i (wz (tmD D i x0 x1 x2 x3 x4 x5 2204 i)), am_i (wz (tmD D i x0 x1 x2 x3 x4 x5 2205 i))])) : am_Ce)
    obtain ⟨e0, e1, e2, e3, e4, e5⟩ := tmD_f (D := D) (i := i) (x0 := x0) (x1 := x1) (x2 := x2) (x3 := x3) (x4 := x4) (x5 := x5)
    rw [e0, e1, e2, e3, e4, e5]; rfl
  · rw [tmD_h.1, hlen.1]; rfl
  · rw [tmD_h.2, hlen.2]; rfl
end Tm
