/-! Things that were there stay as they were when a new one is adopted. -/
section Ag
variable {n : Nat} {A A' : aA} {D D' : aD} {d : Nat} {s : am_S}
theorem mkT_ag {t : Nat} {i : Int} (H : Cl A D) (h : ∀ t i, D (900 + t) i = 1 → A' t i = A t i) (h1 : ∀ i, D 900 i = 1 → A' 1 i = A 1 i) (h9 : ∀ i, D 901 i = 1 → D 900 i = 1) (hf : D (900 + t) i = 1) : mkT A' D t i = mkT A D t i := by
  obtain ⟨c1, c2, c3, c4, c5, c6, c7, c8, c9, c10, c11, c12⟩ := H
  by_cases e : t = 0
  · subst e
    unfold mkT; simp only [tfs, tvs, tv1, tvr]
    rw [h1 i hf]
  by_cases e : t = 10
  · subst e
    unfold mkT; simp only [tfs, tvs, tv1, tvr]
    rw [h 20 i (c3 i hf)]
  by_cases e : t = 11
  · subst e
    unfold mkT; simp only [tfs, tvs, tv1, tvr]
    rw [h 21 i (c4 i hf)]
  by_cases e : t = 12
  · subst e
    unfold mkT; simp only [tfs, tvs, tv1, tvr]
  by_cases e : t = 13
  · subst e
    unfold mkT; simp only [tfs, tvs, tv1, tvr]
    rw [h 10 _ (c5 i hf).1, h 11 _ (c5 i hf).2]
  by_cases e : t = 14
  · subst e
    unfold mkT; simp only [tfs, tvs, tv1, tvr]
    obtain ⟨a1, a2, a3, a4⟩ := c6 i hf
    rw [h 0 _ a1, h 23 _ a2, h 24 _ a3, h 25 _ a4]
  by_cases e : t = 15
  · subst e
    unfold mkT; simp only [tfs, tvs, tv1, tvr]
    rw [h 10 _ (c7 i hf).1, h 11 _ (c7 i hf).2]
  by_cases e : t = 16
  · subst e
    unfold mkT; simp only [tfs, tvs, tv1, tvr]
    rcases c8 i hf with q | q
    · rw [show D (1000 + 100 * 16 + 1 + 1 + 1 + 1 + 1) i = D 2605 i from rfl, if_pos q, if_pos q]
    · rw [h 22 i q]
  by_cases e : t = 1
  · subst e
    rw [mkT1, mkT1]
    congr 5
    funext k
    by_cases q : (k : Int) < D 1002 i
    · rw [if_pos q, if_pos q, h _ _ (c2 i k (h9 i hf) (by omega) q)]
    · rw [if_neg q, if_neg q]
  have ht : tfs t = none := by
    unfold tfs
    split <;> first | rfl | contradiction
  unfold mkT
  rw [ht]
  simp only
  rw [if_neg e, if_neg e]
  by_cases e2 : t = 2
  · rw [if_pos e2, if_pos e2]
    congr 4
    funext k
    have q0 : (if D 1200 k < 0 then none else some (A' 11 (D 1200 k))) = (if D 1200 k < 0 then none else some (A 11 (D 1200 k))) := by
      rcases c9 k with q | q
      · rw [if_pos q, if_pos q]
      · rw [h 11 _ q]
    have q1 : (if D 1201 k < 0 then none else some (A' 10 (D 1201 k))) = (if D 1201 k < 0 then none else some (A 10 (D 1201 k))) := by
      rcases c10 k with q | q
      · rw [if_pos q, if_pos q]
      · rw [h 10 _ q]
    rw [q0, q1]
  · rw [if_neg e2, if_neg e2]
end Ag
