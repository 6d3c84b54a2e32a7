/-! A new rulebook is adopted. -/
section Bk2
variable {n : Nat} {A A' : aA} {D D' : aD} {d : Nat} {s : am_S} {k y : Int}
def bkD (D : aD) (k y : Int) : aD := fun c i =>
  if c = 950 ∧ i = 0 then D 950 0 + 5 else if c = 951 ∧ i = 0 then D 951 0 + 33 else if i = k ∧ (c = 914 ∨ c = 923 ∨ c = 924 ∨ c = 925) then 1 else if i = 8 + k ∧ c = 900 then 1 else if i = 8 + k ∧ (c = 1000 ∨ c = 1002) then 0 else if i = k ∧ c = 2400 then k else if i = k ∧ c = 2401 then y else if i = k ∧ c = 2406 then 30 else if i = k ∧ c = 2410 then 3 else if i = k ∧ 2402 ≤ c ∧ c ≤ 2411 then 0 else if i = k ∧ (c = 3300 ∨ c = 3400 ∨ c = 3500) then 6 else if (c = 3301 ∨ c = 3401 ∨ c = 3501) ∧ 1024 * k ≤ i ∧ i < 1024 * k + 1024 then 0 else D c i
def bkA (A : aA) (k : Int) (l : Nat) : aA := fun t i => if t = 14 ∧ i = k then l else if t = 0 ∧ i = 8 + k then l + 1 else if t = 23 ∧ i = k then l + 2 else if t = 24 ∧ i = k then l + 3 else if t = 25 ∧ i = k then l + 4 else if t = 1 ∧ i = 8 + k then 1 else A t i
theorem bkD_c {c : Nat} {i : Int} (h : c ≠ 950 ∧ c ≠ 951 ∧ c ≠ 914 ∧ c ≠ 923 ∧ c ≠ 924 ∧ c ≠ 925 ∧ c ≠ 900 ∧ c ≠ 1000 ∧ c ≠ 1002 ∧ (c < 2400 ∨ 2411 < c) ∧ c ≠ 3300 ∧ c ≠ 3400 ∧ c ≠ 3500 ∧ c ≠ 3301 ∧ c ≠ 3401 ∧ c ≠ 3501) : bkD D k y c i = D c i := by
  unfold bkD
  rw [if_neg (by omega), if_neg (by omega), if_neg (by omega), if_neg (by omega), if_neg (by omega), if_neg (by omega), if_neg (by omega), if_neg (by omega), if_neg (by omega), if_neg (by omega), if_neg (by omega), if_neg (by omega)]
theorem bkD_j {c : Nat} {i : Int} (h : c ≠ 950 ∧ c ≠ 951 ∧ c ≠ 3301 ∧ c ≠ 3401 ∧ c ≠ 3501) (hi : i ≠ k ∧ i ≠ 8 + k) : bkD D k y c i = D c i := by
  unfold bkD
  rw [if_neg (by omega), if_neg (by omega), if_neg (by omega), if_neg (by omega), if_neg (by omega), if_neg (by omega), if_neg (by omega), if_neg (by omega), if_neg (by omega), if_neg (by omega), if_neg (by omega), if_neg (by omega)]
theorem bkD_k {c : Nat} {i : Int} (h : c = 914 ∨ c = 923 ∨ c = 924 ∨ c = 925) : bkD D k y c i = if i = k then 1 else D c i := by
  unfold bkD
  rw [if_neg (by omega), if_neg (by omega)]
  by_cases q : i = k
  · rw [if_pos ⟨q, h⟩, if_pos q]
  · rw [if_neg (by omega), if_neg q, if_neg (by omega), if_neg (by omega), if_neg (by omega), if_neg (by omega), if_neg (by omega), if_neg (by omega), if_neg (by omega), if_neg (by omega), if_neg (by omega)]
theorem bkD_9 {i : Int} : bkD D k y 900 i = if i = 8 + k then 1 else D 900 i := by
  unfold bkD
  rw [if_neg (by omega), if_neg (by omega), if_neg (by omega)]
  by_cases q : i = 8 + k
  · rw [if_pos ⟨q, rfl⟩, if_pos q]
  · rw [if_neg (by omega), if_neg q, if_neg (by omega), if_neg (by omega), if_neg (by omega), if_neg (by omega), if_neg (by omega), if_neg (by omega), if_neg (by omega), if_neg (by omega)]
theorem bkD_2 {i : Int} : bkD D k y 1002 i = if i = 8 + k then 0 else D 1002 i := by
  unfold bkD
  rw [if_neg (by omega), if_neg (by omega), if_neg (by omega), if_neg (by omega)]
  by_cases q : i = 8 + k
  · rw [if_pos ⟨q, Or.inr rfl⟩, if_pos q]
  · rw [if_neg (by omega), if_neg q, if_neg (by omega), if_neg (by omega), if_neg (by omega), if_neg (by omega), if_neg (by omega), if_neg (by omega), if_neg (by omega)]
theorem bkD_0 : bkD D k y 1000 (8 + k) = 0 := by
  unfold bkD
  rw [if_neg (by omega), if_neg (by omega), if_neg (by omega), if_neg (by omega), if_pos ⟨rfl, Or.inl rfl⟩]
theorem bkD_b {c : Nat} (h : 2400 ≤ c ∧ c ≤ 2411) : bkD D k y c k = if c = 2400 then k else if c = 2401 then y else if c = 2406 then 30 else if c = 2410 then 3 else 0 := by
  unfold bkD
  rw [if_neg (by omega), if_neg (by omega), if_neg (by omega), if_neg (by omega), if_neg (by omega)]
  by_cases q0 : c = 2400
  · rw [if_pos ⟨rfl, q0⟩, if_pos q0]
  rw [if_neg (by omega), if_neg q0]
  by_cases q1 : c = 2401
  · rw [if_pos ⟨rfl, q1⟩, if_pos q1]
  rw [if_neg (by omega), if_neg q1]
  by_cases q2 : c = 2406
  · rw [if_pos ⟨rfl, q2⟩, if_pos q2]
  rw [if_neg (by omega), if_neg q2]
  by_cases q3 : c = 2410
  · rw [if_pos ⟨rfl, q3⟩, if_pos q3]
  rw [if_neg (by omega), if_neg q3, if_pos (by omega)]
theorem bkD_6 {c : Nat} (h : c = 3300 ∨ c = 3400 ∨ c = 3500) : bkD D k y c k = 6 := by
  unfold bkD
  rw [if_neg (by omega), if_neg (by omega), if_neg (by omega), if_neg (by omega), if_neg (by omega), if_neg (by omega), if_neg (by omega), if_neg (by omega), if_neg (by omega), if_neg (by omega), if_pos ⟨rfl, h⟩]
theorem bkD_r {c : Nat} {i : Int} (h : c = 3301 ∨ c = 3401 ∨ c = 3501) : bkD D k y c i = if 1024 * k ≤ i ∧ i < 1024 * k + 1024 then 0 else D c i := by
  unfold bkD
  rw [if_neg (by omega), if_neg (by omega), if_neg (by omega), if_neg (by omega), if_neg (by omega), if_neg (by omega), if_neg (by omega), if_neg (by omega), if_neg (by omega), if_neg (by omega), if_neg (by omega)]
  by_cases q : 1024 * k ≤ i ∧ i < 1024 * k + 1024
  · rw [if_pos ⟨h, q⟩, if_pos q]
  · rw [if_neg (fun z => q z.2), if_neg q]
theorem bkD_h : bkD D k y 950 0 = D 950 0 + 5 ∧ bkD D k y 951 0 = D 951 0 + 33 := by
  unfold bkD
  refine ⟨if_pos ⟨rfl, rfl⟩, ?_⟩
  rw [if_neg (by omega), if_pos ⟨rfl, rfl⟩]
theorem bkD_d (c : Nat) (i : Int) (h : bkD D k y c i ≠ D c i) : c = 950 ∨ c = 951 ∨ ∃ p ∈ [((14 : Nat), k), (0, 8 + k), (23, k), (24, k), (25, k)], blg p c i := by
  have b14 : ∀ h : 2400 ≤ c ∧ c ≤ 2411 ∧ i = k, ∃ p ∈ [((14 : Nat), k), (0, 8 + k), (23, k), (24, k), (25, k)], blg p c i := fun h => ⟨(14, k), by simp, Or.inr (Or.inl ⟨show (14 : Nat) < 20 by decide, show 1000 + 100 * 14 ≤ c by omega, show c < 1050 + 100 * 14 by omega, h.2.2⟩)⟩
  by_cases q1 : c = 950 ∧ i = 0
  · exact Or.inl q1.1
  by_cases q2 : c = 951 ∧ i = 0
  · exact Or.inr (Or.inl q2.1)
  by_cases q3 : i = k ∧ (c = 914 ∨ c = 923 ∨ c = 924 ∨ c = 925)
  · refine Or.inr (Or.inr ?_)
    obtain ⟨z1, z2 | z2 | z2 | z2⟩ := q3
    · exact ⟨(14, k), by simp, Or.inl ⟨z2, z1⟩⟩
    · exact ⟨(23, k), by simp, Or.inl ⟨z2, z1⟩⟩
    · exact ⟨(24, k), by simp, Or.inl ⟨z2, z1⟩⟩
    · exact ⟨(25, k), by simp, Or.inl ⟨z2, z1⟩⟩
  by_cases q4 : i = 8 + k ∧ c = 900
  · exact Or.inr (Or.inr ⟨(0, 8 + k), by simp, Or.inl ⟨q4.2, q4.1⟩⟩)
  by_cases q5 : i = 8 + k ∧ (c = 1000 ∨ c = 1002)
  · exact Or.inr (Or.inr ⟨(0, 8 + k), by simp, Or.inr (Or.inl ⟨show (0 : Nat) < 20 by decide, show 1000 + 100 * 0 ≤ c by omega, show c < 1050 + 100 * 0 by omega, q5.1⟩)⟩)
  by_cases q6 : i = k ∧ c = 2400
  · exact Or.inr (Or.inr (b14 (by omega)))
  by_cases q7 : i = k ∧ c = 2401
  · exact Or.inr (Or.inr (b14 (by omega)))
  by_cases q8 : i = k ∧ c = 2406
  · exact Or.inr (Or.inr (b14 (by omega)))
  by_cases q9 : i = k ∧ c = 2410
  · exact Or.inr (Or.inr (b14 (by omega)))
  by_cases q10 : i = k ∧ 2402 ≤ c ∧ c ≤ 2411
  · exact Or.inr (Or.inr (b14 (by omega)))
  by_cases q11 : i = k ∧ (c = 3300 ∨ c = 3400 ∨ c = 3500)
  · refine Or.inr (Or.inr ?_)
    obtain ⟨z1, z2 | z2 | z2⟩ := q11
    · exact ⟨(23, k), by simp, Or.inr (Or.inr (Or.inl ⟨show 20 ≤ (23 : Nat) by decide, z2, z1⟩))⟩
    · exact ⟨(24, k), by simp, Or.inr (Or.inr (Or.inl ⟨show 20 ≤ (24 : Nat) by decide, z2, z1⟩))⟩
    · exact ⟨(25, k), by simp, Or.inr (Or.inr (Or.inl ⟨show 20 ≤ (25 : Nat) by decide, z2, z1⟩))⟩
  by_cases q12 : (c = 3301 ∨ c = 3401 ∨ c = 3501) ∧ 1024 * k ≤ i ∧ i < 1024 * k + 1024
  · refine Or.inr (Or.inr ?_)
    obtain ⟨z2 | z2 | z2, z1⟩ := q12
    · exact ⟨(23, k), by simp, Or.inr (Or.inr (Or.inr ⟨show 20 ≤ (23 : Nat) by decide, z2, z1⟩))⟩
    · exact ⟨(24, k), by simp, Or.inr (Or.inr (Or.inr ⟨show 20 ≤ (24 : Nat) by decide, z2, z1⟩))⟩
    · exact ⟨(25, k), by simp, Or.inr (Or.inr (Or.inr ⟨show 20 ≤ (25 : Nat) by decide, z2, z1⟩))⟩
  exfalso
  apply h
  unfold bkD
  rw [if_neg q1, if_neg q2, if_neg q3, if_neg q4, if_neg q5, if_neg q6, if_neg q7, if_neg q8, if_neg q9, if_neg q10, if_neg q11, if_neg q12]
theorem bkD_fl {t : Nat} {j : Int} (ht : t < 50) (h : D (900 + t) j = 1) : bkD D k y (900 + t) j = 1 := by
  by_cases q : t = 14 ∨ t = 23 ∨ t = 24 ∨ t = 25
  · rw [bkD_k (by omega)]; split
    · rfl
    · exact h
  by_cases q2 : t = 0
  · subst q2; show bkD D k y 900 j = 1; rw [bkD_9]; split
    · rfl
    · exact h
  rw [bkD_c (by omega)]; exact h
theorem Cl_bk {L : Nat} (hk : 0 ≤ k ∧ k < 8) (H : Cl A D) (h9 : D 901 (8 + k) ≠ 1) : Cl (bkA A k L) (bkD D k y) := by
  obtain ⟨c1, c2, c3, c4, c5, c6, c7, c8, c9, c10, c11, c12⟩ := H
  have o : ∀ c i, c ≠ 950 ∧ c ≠ 951 ∧ c ≠ 914 ∧ c ≠ 923 ∧ c ≠ 924 ∧ c ≠ 925 ∧ c ≠ 900 ∧ c ≠ 1000 ∧ c ≠ 1002 ∧ (c < 2400 ∨ 2411 < c) ∧ c ≠ 3300 ∧ c ≠ 3400 ∧ c ≠ 3500 ∧ c ≠ 3301 ∧ c ≠ 3401 ∧ c ≠ 3501 → bkD D k y c i = D c i := fun c i h => bkD_c h
  refine ⟨?_, ?_, ?_, ?_, ?_, ?_, ?_, ?_, ?_, ?_, ?_, ?_⟩
  · intro l q
    rw [bkD_2, o 901 l (by decide), o 1100 l (by decide)]
    by_cases e : l = 8 + k
    · subst e
      rw [if_pos rfl]
      refine ⟨by decide, by decide, Or.inr ⟨?_, h9, rfl⟩⟩
      unfold bkA
      rw [if_neg (by omega), if_neg (by omega), if_neg (by omega), if_neg (by omega), if_neg (by omega), if_pos ⟨rfl, rfl⟩]
    · rw [bkD_9, if_neg e] at q
      rw [if_neg e]
      have ea : bkA A k L 1 l = A 1 l := by
        unfold bkA
        rw [if_neg (by omega), if_neg (by omega), if_neg (by omega), if_neg (by omega), if_neg (by omega), if_neg (fun z => e z.2)]
      rw [ea]
      exact c1 l q
  · intro l j q r1 r2
    rw [bkD_2] at r2
    by_cases e : l = 8 + k
    · rw [if_pos e] at r2; omega
    · rw [bkD_9, if_neg e] at q
      rw [if_neg e] at r2
      have := ety_r l
      exact bkD_fl (by omega) (c2 l j q r1 r2)
  · intro j q
    simp (disch := decide) only [o] at q ⊢
    exact c3 j q
  · intro j q
    simp (disch := decide) only [o] at q ⊢
    exact c4 j q
  · intro j q
    simp (disch := decide) only [o] at q ⊢
    exact c5 j q
  · intro j q
    rw [bkD_k (by decide)] at q
    rw [bkD_9, bkD_k (by decide), bkD_k (by decide), bkD_k (by decide)]
    by_cases e : j = k
    · rw [if_pos (by omega), if_pos e, if_pos e, if_pos e]; exact ⟨rfl, rfl, rfl, rfl⟩
    · rw [if_neg e] at q
      rw [if_neg (by omega), if_neg e, if_neg e, if_neg e]; exact c6 j q
  · intro j q
    simp (disch := decide) only [o] at q ⊢
    exact c7 j q
  · intro j q
    simp (disch := decide) only [o] at q ⊢
    exact c8 j q
  · intro j
    simp (disch := decide) only [o]
    exact c9 j
  · intro j
    simp (disch := decide) only [o]
    exact c10 j
  · intro t j t1 t2 q
    by_cases e : (t = 23 ∨ t = 24 ∨ t = 25)
    · by_cases e2 : j = k
      · subst e2
        rw [bkD_6 (by omega)]; decide
      · rw [bkD_k (by omega), if_neg e2] at q
        have e3 : bkD D k y (1000 + 100 * t) j = D (1000 + 100 * t) j := by
          unfold bkD
          rw [if_neg (by omega), if_neg (by omega), if_neg (by omega), if_neg (by omega), if_neg (by omega), if_neg (by omega), if_neg (by omega), if_neg (by omega), if_neg (by omega), if_neg (by omega), if_neg (by omega), if_neg (by omega)]
        rw [e3]; exact c11 t j t1 t2 q
    · rw [o (900 + t) j (by omega)] at q
      rw [o (1000 + 100 * t) j (by omega)]
      exact c11 t j t1 t2 q
  · obtain ⟨d0, d1, d2, d3, d4, d5, d6, d7, d8, d9, d10, d11, d12⟩ := c12
    refine ⟨bkD_fl (t := 0) (by decide) d0, bkD_fl (t := 0) (by decide) d1, bkD_fl (t := 0) (by decide) d2, bkD_fl (t := 0) (by decide) d3, bkD_fl (t := 0) (by decide) d4, bkD_fl (t := 0) (by decide) d5, bkD_fl (t := 0) (by decide) d6, bkD_fl (t := 2) (by decide) d7, bkD_fl (t := 2) (by decide) d8, bkD_fl (t := 14) (by decide) d9, bkD_fl (t := 23) (by decide) d10, bkD_fl (t := 24) (by decide) d11, bkD_fl (t := 25) (by decide) d12⟩
abbrev bkC (k y : Int) (l : Nat) : am_Ce := .inl (8, [am_i (wz k), am_i (wz y), am_r (some (l + 1)), am_r (some (l + 2)), am_r (some (l + 3)), am_r (some (l + 4)), am_i (wz 30), am_i (wz 0), am_i (wz 0), am_i (wz 0), am_i (wz 3), am_i (wz 0)])
theorem Rp0_bk (hk : 0 ≤ k ∧ k < 8) (H : Rp0 A D s) (h9 : ∀ i, D 901 i = 1 → D 900 i = 1) (hn : D 914 k ≠ 1 ∧ D 900 (8 + k) ≠ 1 ∧ D 923 k ≠ 1 ∧ D 924 k ≠ 1 ∧ D 925 k ≠ 1) : Rp0 (bkA A k s.1.length) (bkD D k y) (s.1 ++ [bkC k y s.1.length, l3, r6, r6, r6], s.2 + 33) := by
  have hlen := H.2.2.2.2.1
  have a14 : bkA A k s.1.length 14 k = s.1.length := by unfold bkA; rw [if_pos ⟨rfl, rfl⟩]
  have a0 : bkA A k s.1.length 0 (8 + k) = s.1.length + 1 := by unfold bkA; rw [if_neg (by omega), if_pos ⟨rfl, rfl⟩]
  have a23 : bkA A k s.1.length 23 k = s.1.length + 2 := by unfold bkA; rw [if_neg (by omega), if_neg (by omega), if_pos ⟨rfl, rfl⟩]
  have a24 : bkA A k s.1.length 24 k = s.1.length + 3 := by unfold bkA; rw [if_neg (by omega), if_neg (by omega), if_neg (by omega), if_pos ⟨rfl, rfl⟩]
  have a25 : bkA A k s.1.length 25 k = s.1.length + 4 := by unfold bkA; rw [if_neg (by omega), if_neg (by omega), if_neg (by omega), if_neg (by omega), if_pos ⟨rfl, rfl⟩]
  have a1 : bkA A k s.1.length 1 (8 + k) = 1 := by unfold bkA; rw [if_neg (by omega), if_neg (by omega), if_neg (by omega), if_neg (by omega), if_neg (by omega), if_pos ⟨rfl, rfl⟩]
  have row : ∀ u : Nat, (u = 23 ∨ u = 24 ∨ u = 25) → r6 = mkT (bkA A k s.1.length) (bkD D k y) u k := by
    intro u hu
    rw [mkT_r (by omega), bkD_6 (by omega)]
    have : (fun q : Nat => if q < 1024 then wz (bkD D k y (1001 + 100 * u) (1024 * k + q)) else 0) = fun _ => (0 : Int32) := by
      funext q
      split
      · rw [bkD_r (by omega), if_pos (by omega)]; rfl
      · rfl
    rw [this]; rfl
  refine Rp0_adopt (NS := [(14, k), (0, 8 + k), (23, k), (24, k), (25, k)]) H h9 ?_ bkD_d ?_ ?_ ?_ ⟨?_, ?_⟩ (Cl_bk hk H.2.2.2.2.2 (fun z => hn.2.1 (h9 _ z)))
  · intro p hp
    simp only [List.mem_cons, List.not_mem_nil, or_false] at hp
    rcases hp with rfl | rfl | rfl | rfl | rfl
    · exact ⟨show (14 : Nat) < 50 by decide, fun _ => by simp [tfs], hn.1⟩
    · exact ⟨show (0 : Nat) < 50 by decide, fun _ => by simp [tfs], hn.2.1⟩
    · exact ⟨show (23 : Nat) < 50 by decide, fun z => absurd (show (23 : Nat) < 20 from z) (by decide), hn.2.2.1⟩
    · exact ⟨show (24 : Nat) < 50 by decide, fun z => absurd (show (24 : Nat) < 20 from z) (by decide), hn.2.2.2.1⟩
    · exact ⟨show (25 : Nat) < 50 by decide, fun z => absurd (show (25 : Nat) < 20 from z) (by decide), hn.2.2.2.2⟩
  · intro t j q
    unfold bkA
    rw [if_neg, if_neg, if_neg, if_neg, if_neg, if_neg]
    · rintro ⟨rfl, rfl⟩; exact hn.2.1 (h9 _ q)
    · rintro ⟨rfl, rfl⟩; exact hn.2.2.2.2 q
    · rintro ⟨rfl, rfl⟩; exact hn.2.2.2.1 q
    · rintro ⟨rfl, rfl⟩; exact hn.2.2.1 q
    · rintro ⟨rfl, rfl⟩; exact hn.2.1 q
    · rintro ⟨rfl, rfl⟩; exact hn.1 q
  · intro j q
    unfold bkA
    rw [if_neg (by omega), if_neg (by omega), if_neg (by omega), if_neg (by omega), if_neg (by omega), if_neg]
    rintro ⟨_, rfl⟩; exact hn.2.1 q
  · intro p hp
    simp only [List.mem_cons, List.not_mem_nil, or_false] at hp
    rcases hp with rfl | rfl | rfl | rfl | rfl
    · refine ⟨0, a14, rfl, ?_⟩
      show _ = some ((Sum.inl (8, [am_i (wz (bkD D k y 2400 k)), am_i (wz (bkD D k y 2401 k)), am_r (some (bkA A k s.1.length 0 (8 + k))), am_r (some (bkA A k s.1.length 23 k)), am_r (some (bkA A k s.1.length 24 k)), am_r (some (bkA A k s.1.length 25 k)), am_i (wz (bkD D k y 2406 k)), am_i (wz (bkD D k y 2407 k)), am_i (wz (bkD D k y 2408 k)), am_i (wz (bkD D k y 2409 k)), am_i (wz (bkD D k y 2410 k)), am_i (wz (bkD D k y 2411 k))])) : am_Ce)
      rw [a0, a23, a24, a25, bkD_b (by decide), bkD_b (by decide), bkD_b (by decide), bkD_b (by decide), bkD_b (by decide), bkD_b (by decide), bkD_b (by decide), bkD_b (by decide)]
      rfl
    · refine ⟨1, a0, rfl, ?_⟩
      show _ = some ((Sum.inl (0, [am_i (wz (bkD D k y 1000 (8 + k))), am_r (some (bkA A k s.1.length 1 (8 + k))), am_i (wz (bkD D k y 1002 (8 + k)))])) : am_Ce)
      rw [a1, bkD_0, bkD_2, if_pos rfl]
      rfl
    · exact ⟨2, a23, rfl, by rw [← row 23 (by decide)]; rfl⟩
    · exact ⟨3, a24, rfl, by rw [← row 24 (by decide)]; rfl⟩
    · exact ⟨4, a25, rfl, by rw [← row 25 (by decide)]; rfl⟩
  · rw [bkD_h.1, hlen.1]; rfl
  · rw [bkD_h.2, hlen.2]; rfl
theorem lev2 (c : Nat) : Nat.ble (lev c) 2 = true := by
  unfold lev
  split <;> rfl
theorem Rp2 : Rp 2 A D s ↔ (∀ c i, rg (D c i)) ∧ Rp0 A D s := by
  have e : ∀ F, mxx 2 D F = D := fun F => by funext c i; exact mxx_v (lev2 c)
  constructor
  · rintro ⟨h1, F, h2⟩; rw [e] at h2; exact ⟨h1, h2⟩
  · rintro ⟨h1, h2⟩; exact ⟨h1, D, by rw [e]; exact h2⟩
theorem rg_bk (h : ∀ c i, rg (D c i)) (hy : rg y) (hk : 0 ≤ k ∧ k < 8) (hh : D 950 0 ≤ 1000000000 ∧ D 951 0 ≤ 1000000000) : ∀ c i, rg (bkD D k y c i) := by
  intro c i
  have r0 := h 950 0
  have r1 := h 951 0
  have r2 := h c i
  unfold rg at *
  unfold bkD
  (repeat' split) <;> omega
end Bk2
