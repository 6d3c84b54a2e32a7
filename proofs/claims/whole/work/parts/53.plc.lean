/-! A new place (written by mkadopt.py). -/
section Spv
variable {n : Nat} {A A' : aA} {D D' : aD} {d : Nat} {s : am_S}
def pvD (D : aD) (i x0 x1 x2 x3 x4 x5 x6 x7 : Int) : aD := up (up (up (up (up (up (up (up (up (up (up (up (up (zr D 3101 i) 2100 i x0) 2101 i x1) 2102 i x2) 2103 i x3) 2104 i x4) 2105 i x5) 2106 i x6) 2107 i x7) 3100 i 0) 911 i 1) 921 i 1) 950 0 (D 950 0 + 2)) 951 0 (D 951 0 + 9)
def pvA (A : aA) (i : Int) (L : Nat) : aA := upA (upA A 11 i L) 21 i (L + 1)
variable {i x0 x1 x2 x3 x4 x5 x6 x7 : Int}
theorem pvD_d (c' : Nat) (j : Int) (h : pvD D i x0 x1 x2 x3 x4 x5 x6 x7 c' j ≠ D c' j) : c' = 950 ∨ c' = 951 ∨ ∃ p ∈ [((11 : Nat), i), (21, i)], blg p c' j := by
  by_cases q : c' = 950 ∨ c' = 951 ∨ ∃ p ∈ [((11 : Nat), i), (21, i)], blg p c' j
  · exact q
  · exfalso
    have q0 : c' ≠ 950 := fun e => q (Or.inl e)
    have q1 : c' ≠ 951 := fun e => q (Or.inr (Or.inl e))
    have q2 : ¬ blg (11, i) c' j := fun e => q (Or.inr (Or.inr ⟨_, by simp, e⟩))
    have q3 : ¬ blg (21, i) c' j := fun e => q (Or.inr (Or.inr ⟨_, by simp, e⟩))
    unfold blg at q2 q3
    simp only at q2 q3
    apply h
    unfold pvD
    rw [up_c q1, up_c q0, up_n (by omega), up_n (by omega), up_n (by omega), up_n (by omega), up_n (by omega), up_n (by omega), up_n (by omega), up_n (by omega), up_n (by omega), up_n (by omega), up_n (by omega), zr_n (by omega)]
theorem pvD_o {c' : Nat} {j : Int} (h : c' ≠ 950 ∧ c' ≠ 951 ∧ c' ≠ 911 ∧ c' ≠ 921 ∧ c' ≠ 3100 ∧ c' ≠ 3101 ∧ (c' < 2100 ∨ 2107 < c')) : pvD D i x0 x1 x2 x3 x4 x5 x6 x7 c' j = D c' j := by
  unfold pvD
  rw [up_c h.2.1, up_c h.1, up_c h.2.2.2.1, up_c h.2.2.1, up_c h.2.2.2.2.1, up_c (by omega), up_c (by omega), up_c (by omega), up_c (by omega), up_c (by omega), up_c (by omega), up_c (by omega), up_c (by omega), zr_c h.2.2.2.2.2.1]
theorem pvD_911 {j : Int} : pvD D i x0 x1 x2 x3 x4 x5 x6 x7 911 j = if j = i then 1 else D 911 j := by
  unfold pvD
  rw [up_c (by decide), up_c (by decide), up_c (by decide)]
  by_cases q : j = i
  · subst q; rw [up_eq, if_pos rfl]
  · rw [up_i q, if_neg q, up_c (by decide), up_c (by decide), up_c (by decide), up_c (by decide), up_c (by decide), up_c (by decide), up_c (by decide), up_c (by decide), up_c (by decide), zr_c (by decide)]
theorem pvD_921 {j : Int} : pvD D i x0 x1 x2 x3 x4 x5 x6 x7 921 j = if j = i then 1 else D 921 j := by
  unfold pvD
  rw [up_c (by decide), up_c (by decide)]
  by_cases q : j = i
  · subst q; rw [up_eq, if_pos rfl]
  · rw [up_i q, if_neg q, up_c (by decide), up_c (by decide), up_c (by decide), up_c (by decide), up_c (by decide), up_c (by decide), up_c (by decide), up_c (by decide), up_c (by decide), up_c (by decide), zr_c (by decide)]
theorem pvD_3100 {j : Int} : pvD D i x0 x1 x2 x3 x4 x5 x6 x7 3100 j = if j = i then 0 else D 3100 j := by
  unfold pvD
  rw [up_c (by decide), up_c (by decide), up_c (by decide), up_c (by decide)]
  by_cases q : j = i
  · subst q; rw [up_eq, if_pos rfl]
  · rw [up_i q, if_neg q, up_c (by decide), up_c (by decide), up_c (by decide), up_c (by decide), up_c (by decide), up_c (by decide), up_c (by decide), up_c (by decide), zr_c (by decide)]
theorem pvD_fl {t : Nat} {j : Int} (ht : t < 50) (h : D (900 + t) j = 1) : pvD D i x0 x1 x2 x3 x4 x5 x6 x7 (900 + t) j = 1 := by
  by_cases q : t = 11
  · subst q; show pvD D i x0 x1 x2 x3 x4 x5 x6 x7 911 j = 1; rw [pvD_911]; split
    · rfl
    · exact h
  by_cases q' : t = 21
  · subst q'; show pvD D i x0 x1 x2 x3 x4 x5 x6 x7 921 j = 1; rw [pvD_921]; split
    · rfl
    · exact h
  rw [pvD_o (by omega)]; exact h
theorem Cl_pv {L : Nat} (H : Cl A D) : Cl (pvA A i L) (pvD D i x0 x1 x2 x3 x4 x5 x6 x7) := by
  obtain ⟨c1, c2, c3, c4, c5, c6, c7, c8, c9, c10, c11, c12⟩ := H
  have o : ∀ c' j, c' ≠ 950 ∧ c' ≠ 951 ∧ c' ≠ 911 ∧ c' ≠ 921 ∧ c' ≠ 3100 ∧ c' ≠ 3101 ∧ (c' < 2100 ∨ 2107 < c') → pvD D i x0 x1 x2 x3 x4 x5 x6 x7 c' j = D c' j := fun c' j h => pvD_o h
  have f10 : ∀ j, D 911 j = 1 → pvD D i x0 x1 x2 x3 x4 x5 x6 x7 911 j = 1 := fun j h => pvD_fl (t := 11) (by decide) h
  refine ⟨?_, ?_, ?_, ?_, ?_, ?_, ?_, ?_, ?_, ?_, ?_, ?_⟩
  · intro l q
    rw [o 900 l (by decide)] at q
    rw [o 1002 l (by decide), o 901 l (by decide), o 1100 l (by decide)]
    unfold pvA
    rw [upA_t (by decide), upA_t (by decide)]
    exact c1 l q
  · intro l j q r1 r2
    rw [o 900 l (by decide)] at q
    rw [o 1002 l (by decide)] at r2
    have := ety_r l
    exact pvD_fl (by omega) (c2 l j q r1 r2)
  · intro j q
    rw [o 910 j (by decide)] at q
    rw [o 920 j (by decide)]; exact c3 j q
  · intro j q
    rw [pvD_911] at q
    rw [pvD_921]
    split
    · rfl
    · rename_i hj; rw [if_neg hj] at q; exact c4 j q
  · intro j q
    rw [o 913 j (by decide)] at q
    rw [o 2300 j (by decide), o 2301 j (by decide), o 910 _ (by decide)]
    exact ⟨(c5 j q).1, f10 _ (c5 j q).2⟩
  · intro j q
    rw [o 914 j (by decide)] at q
    rw [o 900 _ (by decide), o 923 _ (by decide), o 924 _ (by decide), o 925 _ (by decide)]
    exact c6 j q
  · intro j q
    rw [o 915 j (by decide)] at q
    rw [o 2501 j (by decide), o 2502 j (by decide), o 910 _ (by decide)]
    exact ⟨(c7 j q).1, f10 _ (c7 j q).2⟩
  · intro j q
    rw [o 916 j (by decide)] at q
    rw [o 2605 j (by decide), o 922 _ (by decide)]
    exact c8 j q
  · intro k
    rw [o 1200 k (by decide)]
    exact (c9 k).imp id (fun h => pvD_fl (t := 11) (by decide) h)
  · intro k
    rw [o 1201 k (by decide)]
    exact (c10 k).imp id (fun h => pvD_fl (t := 10) (by decide) h)
  · intro t j t1 t2 q
    by_cases e : t = 21
    · subst e
      show 0 ≤ pvD D i x0 x1 x2 x3 x4 x5 x6 x7 3100 j ∧ pvD D i x0 x1 x2 x3 x4 x5 x6 x7 3100 j ≤ 1024
      rw [pvD_3100]
      have q' : pvD D i x0 x1 x2 x3 x4 x5 x6 x7 921 j = 1 := q
      rw [pvD_921] at q'
      split
      · decide
      · rename_i hj; rw [if_neg hj] at q'; exact c11 21 j t1 t2 q'
    · rw [o (900 + t) j (by omega)] at q
      rw [o (1000 + 100 * t) j (by omega)]
      exact c11 t j t1 t2 q
  · simp (disch := decide) only [o]
    exact c12
theorem pvD_f : pvD D i x0 x1 x2 x3 x4 x5 x6 x7 2100 i = x0 ∧ pvD D i x0 x1 x2 x3 x4 x5 x6 x7 2101 i = x1 ∧ pvD D i x0 x1 x2 x3 x4 x5 x6 x7 2102 i = x2 ∧ pvD D i x0 x1 x2 x3 x4 x5 x6 x7 2103 i = x3 ∧ pvD D i x0 x1 x2 x3 x4 x5 x6 x7 2104 i = x4 ∧ pvD D i x0 x1 x2 x3 x4 x5 x6 x7 2105 i = x5 ∧ pvD D i x0 x1 x2 x3 x4 x5 x6 x7 2106 i = x6 ∧ pvD D i x0 x1 x2 x3 x4 x5 x6 x7 2107 i = x7 := by
  unfold pvD
  refine ⟨?_, ?_, ?_, ?_, ?_, ?_, ?_, ?_⟩ <;> simp (disch := decide) only [up_c, up_eq]
theorem pvD_r {j : Int} (h : 1024 * i ≤ j ∧ j < 1024 * i + 1024) : pvD D i x0 x1 x2 x3 x4 x5 x6 x7 3101 j = 0 := by
  unfold pvD
  simp (disch := decide) only [up_c]
  exact zr_0 h
theorem pvD_h : pvD D i x0 x1 x2 x3 x4 x5 x6 x7 950 0 = D 950 0 + 2 ∧ pvD D i x0 x1 x2 x3 x4 x5 x6 x7 951 0 = D 951 0 + 9 := by
  unfold pvD
  rw [up_c (by decide), up_eq, up_eq]; exact ⟨rfl, rfl⟩
theorem pvA_t {L : Nat} : pvA A i L 11 i = L := by unfold pvA; rw [upA_t (by decide), upA_eq]
theorem pvA_u {L : Nat} : pvA A i L 21 i = L + 1 := by unfold pvA; rw [upA_eq]
theorem pvA_o {L t : Nat} {j : Int} (h : ¬ (t = 11 ∧ j = i)) (h' : ¬ (t = 21 ∧ j = i)) : pvA A i L t j = A t j := by
  unfold pvA
  show (if t = 21 ∧ j = i then L + 1 else if t = 11 ∧ j = i then L else A t j) = _
  rw [if_neg h', if_neg h]
theorem Rp0_pv (H : Rp0 A D s) (h9 : ∀ i, D 901 i = 1 → D 900 i = 1) (hn : D 911 i ≠ 1 ∧ D 921 i ≠ 1) : Rp0 (pvA A i s.1.length) (pvD D i x0 x1 x2 x3 x4 x5 x6 x7) (s.1 ++ [.inl (5, [am_i (wz x0), am_i (wz x1), am_i (wz x2), am_i (wz x3), am_i (wz x4), am_i (wz x5), am_i (wz x6), am_i (wz x7), am_r (some (s.1.length + 1))]), .inr (.inl (0, 0, fun _ => 0))], s.2 + 9) := by
  have hlen := H.2.2.2.2.1
  refine Rp0_adopt (NS := [(11, i), (21, i)]) H h9 ?_ pvD_d ?_ ?_ ?_ ⟨?_, ?_⟩ (Cl_pv H.2.2.2.2.2)
  · intro p hp
    simp only [List.mem_cons, List.not_mem_nil, or_false] at hp
    rcases hp with rfl | rfl
    · exact ⟨show (11 : Nat) < 50 by decide, fun _ => by simp [tfs], hn.1⟩
    · exact ⟨show (21 : Nat) < 50 by decide, fun q => absurd q (show ¬ (21 : Nat) < 20 by decide), hn.2⟩
  · intro t j q
    refine pvA_o ?_ ?_
    · rintro ⟨rfl, rfl⟩; exact hn.1 q
    · rintro ⟨rfl, rfl⟩; exact hn.2 q
  · intro j _
    exact pvA_o (by omega) (by omega)
  · intro p hp
    simp only [List.mem_cons, List.not_mem_nil, or_false] at hp
    rcases hp with rfl | rfl
    · refine ⟨0, pvA_t, rfl, ?_⟩
      show _ = some ((Sum.inl (5, [am_i (wz (pvD D i x0 x1 x2 x3 x4 x5 x6 x7 2100 i)), am_i (wz (pvD D i x0 x1 x2 x3 x4 x5 x6 x7 2101 i)), am_i (wz (pvD D i x0 x1 x2 x3 x4 x5 x6 x7 2102 i)), am_i (wz (pvD D i x0 x1 x2 x3 x4 x5 x6 x7 2103 i)), am_i (wz (pvD D i x0 x1 x2 x3 x4 x5 x6 x7 2104 i)), am_i (wz (pvD D i x0 x1 x2 x3 x4 x5 x6 x7 2105 i)), am_i (wz (pvD D i x0 x1 x2 x3 x4 x5 x6 x7 2106 i)), am_i (wz (pvD D i x0 x1 x2 x3 x4 x5 x6 x7 2107 i)), am_r (some (pvA A i s.1.length 21 i))])) : am_Ce)
      obtain ⟨e0, e1, e2, e3, e4, e5, e6, e7⟩ := pvD_f (D := D) (i := i) (x0 := x0) (x1 := x1) (x2 := x2) (x3 := x3) (x4 := x4) (x5 := x5) (x6 := x6) (x7 := x7)
      rw [e0, e1, e2, e3, e4, e5, e6, e7, pvA_u]; rfl
    · refine ⟨1, pvA_u, rfl, ?_⟩
      show _ = some ((Sum.inr (Sum.inl (0, (pvD D i x0 x1 x2 x3 x4 x5 x6 x7 3100 i).toNat, fun k : Nat => if k < 1024 then wz (pvD D i x0 x1 x2 x3 x4 x5 x6 x7 3101 (1024 * i + k)) else 0))) : am_Ce)
      rw [pvD_3100, if_pos rfl]
      have ef : (fun k : Nat => if k < 1024 then wz (pvD D i x0 x1 x2 x3 x4 x5 x6 x7 3101 (1024 * i + k)) else 0) = fun _ => (0 : Int32) := by
        funext k
        by_cases q : k < 1024
        · rw [if_pos q, pvD_r (by omega)]; rfl
        · rw [if_neg q]
      rw [ef]; rfl
  · rw [pvD_h.1, hlen.1]; rfl
  · rw [pvD_h.2, hlen.2]; rfl
theorem mxx_pvD {F : aD} : mxx n (pvD D i x0 x1 x2 x3 x4 x5 x6 x7) F = pvD (mxx n D F) i x0 x1 x2 x3 x4 x5 x6 x7 := by
  unfold pvD
  rw [mxx_up rfl, mxx_up rfl, mxx_up rfl, mxx_up rfl, mxx_up rfl, mxx_up rfl, mxx_up rfl, mxx_up rfl, mxx_up rfl, mxx_up rfl, mxx_up rfl, mxx_up rfl, mxx_up rfl, mxx_zr rfl, mxx_v rfl, mxx_v rfl]
theorem Rp_pv (hr : Rp n A D s) (h9 : ∀ i, D 901 i = 1 → D 900 i = 1) (hn : D 911 i ≠ 1 ∧ D 921 i ≠ 1) (h0 : rg x0) (h1 : rg x1) (h2 : rg x2) (h3 : rg x3) (h4 : rg x4) (h5 : rg x5) (h6 : rg x6) (h7 : rg x7) (hh : D 950 0 ≤ 1000000000 ∧ D 951 0 ≤ 1000000000) : Rp n (pvA A i s.1.length) (pvD D i x0 x1 x2 x3 x4 x5 x6 x7) (s.1 ++ [.inl (5, [am_i (wz x0), am_i (wz x1), am_i (wz x2), am_i (wz x3), am_i (wz x4), am_i (wz x5), am_i (wz x6), am_i (wz x7), am_r (some (s.1.length + 1))]), .inr (.inl (0, 0, fun _ => 0))], s.2 + 9) := by
  obtain ⟨hg, F, H⟩ := hr
  refine ⟨?_, F, ?_⟩
  · have r0 := hg 950 0
    have r1 := hg 951 0
    unfold rg at r0 r1
    unfold pvD
    exact rg_up (rg_up (rg_up (rg_up (rg_up (rg_up (rg_up (rg_up (rg_up (rg_up (rg_up (rg_up (rg_up (rg_zr hg) h0) h1) h2) h3) h4) h5) h6) h7) rg0) ⟨by decide, by decide⟩) ⟨by decide, by decide⟩) ⟨by omega, by omega⟩) ⟨by omega, by omega⟩
  · rw [mxx_pvD]
    exact Rp0_pv H (fun i q => (mxx_v rfl).trans (h9 i ((mxx_v rfl).symm.trans q))) ⟨by rw [mxx_v rfl]; exact hn.1, by rw [mxx_v rfl]; exact hn.2⟩
end Spv
