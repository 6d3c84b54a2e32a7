/-! A new servant. -/
section Sv
variable {n : Nat} {A A' : aA} {D D' : aD} {d : Nat} {s : am_S}
/-- a row of noughts -/
def zr (D : aD) (c : Nat) (i : Int) : aD := fun c' j => if c' = c ∧ 1024 * i ≤ j ∧ j < 1024 * i + 1024 then 0 else D c' j
theorem zr_n {c c' : Nat} {i j : Int} (h : ¬ (c' = c ∧ 1024 * i ≤ j ∧ j < 1024 * i + 1024)) : zr D c i c' j = D c' j := if_neg h
theorem zr_c {c c' : Nat} {i j : Int} (h : c' ≠ c) : zr D c i c' j = D c' j := if_neg (fun e => h e.1)
theorem zr_0 {c : Nat} {i j : Int} (h : 1024 * i ≤ j ∧ j < 1024 * i + 1024) : zr D c i c j = 0 := if_pos ⟨rfl, h⟩
def svD (D : aD) (i a b c e : Int) : aD := up (up (up (up (up (up (up (up (up (zr D 3001 i) 2000 i a) 2001 i b) 2002 i c) 2003 i e) 3000 i 0) 910 i 1) 920 i 1) 950 0 (D 950 0 + 2)) 951 0 (D 951 0 + 5)
def svA (A : aA) (i : Int) (L : Nat) : aA := upA (upA A 10 i L) 20 i (L + 1)
variable {i a b c e : Int}
theorem svD_d (c' : Nat) (j : Int) (h : svD D i a b c e c' j ≠ D c' j) : c' = 950 ∨ c' = 951 ∨ ∃ p ∈ [((10 : Nat), i), (20, i)], blg p c' j := by
  by_cases q : c' = 950 ∨ c' = 951 ∨ ∃ p ∈ [((10 : Nat), i), (20, i)], blg p c' j
  · exact q
  · exfalso
    have q0 : c' ≠ 950 := fun e => q (Or.inl e)
    have q1 : c' ≠ 951 := fun e => q (Or.inr (Or.inl e))
    have q2 : ¬ blg (10, i) c' j := fun e => q (Or.inr (Or.inr ⟨_, by simp, e⟩))
    have q3 : ¬ blg (20, i) c' j := fun e => q (Or.inr (Or.inr ⟨_, by simp, e⟩))
    unfold blg at q2 q3
    simp only at q2 q3
    apply h
    unfold svD
    rw [up_c q1, up_c q0, up_n (by omega), up_n (by omega), up_n (by omega), up_n (by omega), up_n (by omega), up_n (by omega), up_n (by omega), zr_n (by omega)]
theorem svD_o {c' : Nat} {j : Int} (h : c' ≠ 950 ∧ c' ≠ 951 ∧ c' ≠ 910 ∧ c' ≠ 920 ∧ c' ≠ 3000 ∧ c' ≠ 3001 ∧ (c' < 2000 ∨ 2003 < c')) : svD D i a b c e c' j = D c' j := by
  unfold svD
  rw [up_c h.2.1, up_c h.1, up_c h.2.2.2.1, up_c h.2.2.1, up_c h.2.2.2.2.1, up_c (by omega), up_c (by omega), up_c (by omega), up_c (by omega), zr_c h.2.2.2.2.2.1]
theorem svD_910 {j : Int} : svD D i a b c e 910 j = if j = i then 1 else D 910 j := by
  unfold svD
  rw [up_c (by decide), up_c (by decide), up_c (by decide)]
  by_cases q : j = i
  · subst q; rw [up_eq, if_pos rfl]
  · rw [up_i q, if_neg q, up_c (by decide), up_c (by decide), up_c (by decide), up_c (by decide), up_c (by decide), zr_c (by decide)]
theorem svD_920 {j : Int} : svD D i a b c e 920 j = if j = i then 1 else D 920 j := by
  unfold svD
  rw [up_c (by decide), up_c (by decide)]
  by_cases q : j = i
  · subst q; rw [up_eq, if_pos rfl]
  · rw [up_i q, if_neg q, up_c (by decide), up_c (by decide), up_c (by decide), up_c (by decide), up_c (by decide), up_c (by decide), zr_c (by decide)]
theorem svD_3000 {j : Int} : svD D i a b c e 3000 j = if j = i then 0 else D 3000 j := by
  unfold svD
  rw [up_c (by decide), up_c (by decide), up_c (by decide), up_c (by decide)]
  by_cases q : j = i
  · subst q; rw [up_eq, if_pos rfl]
  · rw [up_i q, if_neg q, up_c (by decide), up_c (by decide), up_c (by decide), up_c (by decide), zr_c (by decide)]
theorem svD_fl {t : Nat} {j : Int} (ht : t < 50) (h : D (900 + t) j = 1) : svD D i a b c e (900 + t) j = 1 := by
  by_cases q : t = 10
  · subst q; show svD D i a b c e 910 j = 1; rw [svD_910]; split
    · rfl
    · exact h
  by_cases q' : t = 20
  · subst q'; show svD D i a b c e 920 j = 1; rw [svD_920]; split
    · rfl
    · exact h
  rw [svD_o (by omega)]; exact h
theorem Cl_sv {L : Nat} (H : Cl A D) : Cl (svA A i L) (svD D i a b c e) := by
  obtain ⟨c1, c2, c3, c4, c5, c6, c7, c8, c9, c10, c11, c12⟩ := H
  have o : ∀ c' j, c' ≠ 950 ∧ c' ≠ 951 ∧ c' ≠ 910 ∧ c' ≠ 920 ∧ c' ≠ 3000 ∧ c' ≠ 3001 ∧ (c' < 2000 ∨ 2003 < c') → svD D i a b c e c' j = D c' j := fun c' j h => svD_o h
  have f10 : ∀ j, D 910 j = 1 → svD D i a b c e 910 j = 1 := fun j h => svD_fl (t := 10) (by decide) h
  refine ⟨?_, ?_, ?_, ?_, ?_, ?_, ?_, ?_, ?_, ?_, ?_, ?_⟩
  · intro l q
    rw [o 900 l (by decide)] at q
    rw [o 1002 l (by decide), o 901 l (by decide), o 1100 l (by decide)]
    unfold svA
    rw [upA_t (by decide), upA_t (by decide)]
    exact c1 l q
  · intro l j q r1 r2
    rw [o 900 l (by decide)] at q
    rw [o 1002 l (by decide)] at r2
    have := ety_r l
    exact svD_fl (by omega) (c2 l j q r1 r2)
  · intro j q
    rw [svD_910] at q
    rw [svD_920]
    split
    · rfl
    · rename_i hj; rw [if_neg hj] at q; exact c3 j q
  · intro j q
    rw [o 911 j (by decide)] at q
    rw [o 921 j (by decide)]; exact c4 j q
  · intro j q
    rw [o 913 j (by decide)] at q
    rw [o 2300 j (by decide), o 2301 j (by decide), o 911 _ (by decide)]
    exact ⟨f10 _ (c5 j q).1, (c5 j q).2⟩
  · intro j q
    rw [o 914 j (by decide)] at q
    rw [o 900 _ (by decide), o 923 _ (by decide), o 924 _ (by decide), o 925 _ (by decide)]
    exact c6 j q
  · intro j q
    rw [o 915 j (by decide)] at q
    rw [o 2501 j (by decide), o 2502 j (by decide), o 911 _ (by decide)]
    exact ⟨f10 _ (c7 j q).1, (c7 j q).2⟩
  · intro j q
    rw [o 916 j (by decide)] at q
    rw [o 2605 j (by decide), o 922 _ (by decide)]
    exact c8 j q
  · intro k
    rw [o 1200 k (by decide), o 911 _ (by decide)]; exact c9 k
  · intro k
    rw [o 1201 k (by decide)]
    exact (c10 k).imp id (f10 _)
  · intro t j t1 t2 q
    by_cases e : t = 20
    · subst e
      show 0 ≤ svD D i a b c e 3000 j ∧ svD D i a b c e 3000 j ≤ 1024
      rw [svD_3000]
      have q' : svD D i a b c e 920 j = 1 := q
      rw [svD_920] at q'
      split
      · decide
      · rename_i hj; rw [if_neg hj] at q'; exact c11 20 j t1 t2 q'
    · rw [o (900 + t) j (by omega)] at q
      rw [o (1000 + 100 * t) j (by omega)]
      exact c11 t j t1 t2 q
  · simp (disch := decide) only [o]
    exact c12
theorem svD_f : svD D i a b c e 2000 i = a ∧ svD D i a b c e 2001 i = b ∧ svD D i a b c e 2002 i = c ∧ svD D i a b c e 2003 i = e := by
  unfold svD
  refine ⟨?_, ?_, ?_, ?_⟩ <;> simp (disch := decide) only [up_c, up_eq]
theorem svD_r {j : Int} (h : 1024 * i ≤ j ∧ j < 1024 * i + 1024) : svD D i a b c e 3001 j = 0 := by
  unfold svD
  simp (disch := decide) only [up_c]
  exact zr_0 h
theorem svD_h : svD D i a b c e 950 0 = D 950 0 + 2 ∧ svD D i a b c e 951 0 = D 951 0 + 5 := by
  unfold svD
  rw [up_c (by decide), up_eq, up_eq]; exact ⟨rfl, rfl⟩
theorem svA_10 {L : Nat} : svA A i L 10 i = L := by unfold svA; rw [upA_t (by decide), upA_eq]
theorem svA_20 {L : Nat} : svA A i L 20 i = L + 1 := by unfold svA; rw [upA_eq]
theorem svA_o {L t : Nat} {j : Int} (h : ¬ (t = 10 ∧ j = i)) (h' : ¬ (t = 20 ∧ j = i)) : svA A i L t j = A t j := by
  unfold svA
  show (if t = 20 ∧ j = i then L + 1 else if t = 10 ∧ j = i then L else A t j) = _
  rw [if_neg h', if_neg h]
theorem Rp0_sv (H : Rp0 A D s) (h9 : ∀ i, D 901 i = 1 → D 900 i = 1) (hn : D 910 i ≠ 1 ∧ D 920 i ≠ 1) : Rp0 (svA A i s.1.length) (svD D i a b c e) (s.1 ++ [.inl (9, [am_i (wz a), am_i (wz b), am_i (wz c), am_i (wz e), am_r (some (s.1.length + 1))]), .inr (.inl (0, 0, fun _ => 0))], s.2 + 5) := by
  have hlen := H.2.2.2.2.1
  refine Rp0_adopt (NS := [(10, i), (20, i)]) H h9 ?_ svD_d ?_ ?_ ?_ ⟨?_, ?_⟩ (Cl_sv H.2.2.2.2.2)
  · intro p hp
    simp only [List.mem_cons, List.not_mem_nil, or_false] at hp
    rcases hp with rfl | rfl
    · exact ⟨show (10 : Nat) < 50 by decide, fun _ => by simp [tfs], hn.1⟩
    · exact ⟨show (20 : Nat) < 50 by decide, fun q => absurd q (show ¬ (20 : Nat) < 20 by decide), hn.2⟩
  · intro t j q
    refine svA_o ?_ ?_
    · rintro ⟨rfl, rfl⟩; exact hn.1 q
    · rintro ⟨rfl, rfl⟩; exact hn.2 q
  · intro j _
    exact svA_o (by omega) (by omega)
  · intro p hp
    simp only [List.mem_cons, List.not_mem_nil, or_false] at hp
    rcases hp with rfl | rfl
    · refine ⟨0, svA_10, rfl, ?_⟩
      show _ = some ((Sum.inl (9, [am_i (wz (svD D i a b c e 2000 i)), am_i (wz (svD D i a b c e 2001 i)), am_i (wz (svD D i a b c e 2002 i)), am_i (wz (svD D i a b c e 2003 i)), am_r (some (svA A i s.1.length 20 i))])) : am_Ce)
      obtain ⟨e1, e2, e3, e4⟩ := svD_f (D := D) (i := i) (a := a) (b := b) (c := c) (e := e)
      rw [e1, e2, e3, e4, svA_20]; rfl
    · refine ⟨1, svA_20, rfl, ?_⟩
      show _ = some ((Sum.inr (Sum.inl (0, (svD D i a b c e 3000 i).toNat, fun k : Nat => if k < 1024 then wz (svD D i a b c e 3001 (1024 * i + k)) else 0))) : am_Ce)
      rw [svD_3000, if_pos rfl]
      have ef : (fun k : Nat => if k < 1024 then wz (svD D i a b c e 3001 (1024 * i + k)) else 0) = fun _ => (0 : Int32) := by
        funext k
        by_cases q : k < 1024
        · rw [if_pos q, svD_r (by omega)]; rfl
        · rw [if_neg q]
      rw [ef]; rfl
  · rw [svD_h.1, hlen.1]; rfl
  · rw [svD_h.2, hlen.2]; rfl
theorem mxx_zr {F : aD} {c : Nat} (h : Nat.ble (lev c) n = true) : mxx n (zr D c i) F = zr (mxx n D F) c i := by
  funext c' j
  unfold mxx zr
  by_cases q : c' = c ∧ 1024 * i ≤ j ∧ j < 1024 * i + 1024
  · rw [if_pos q, if_pos q, q.1, if_pos h]
  · rw [if_neg q, if_neg q]
theorem mxx_svD {F : aD} : mxx n (svD D i a b c e) F = svD (mxx n D F) i a b c e := by
  unfold svD
  rw [mxx_up rfl, mxx_up rfl, mxx_up rfl, mxx_up rfl, mxx_up rfl, mxx_up rfl, mxx_up rfl, mxx_up rfl, mxx_up rfl, mxx_zr rfl, mxx_v rfl, mxx_v rfl]
theorem rg_zr (h : ∀ c j, rg (D c j)) {c : Nat} : ∀ c' j, rg (zr D c i c' j) := by
  intro c' j
  unfold zr
  split
  · exact rg0
  · exact h c' j
theorem Rp_sv (hr : Rp n A D s) (h9 : ∀ i, D 901 i = 1 → D 900 i = 1) (hn : D 910 i ≠ 1 ∧ D 920 i ≠ 1) (ha : rg a) (hb : rg b) (hc : rg c) (he : rg e) (hh : D 950 0 ≤ 1000000000 ∧ D 951 0 ≤ 1000000000) : Rp n (svA A i s.1.length) (svD D i a b c e) (s.1 ++ [.inl (9, [am_i (wz a), am_i (wz b), am_i (wz c), am_i (wz e), am_r (some (s.1.length + 1))]), .inr (.inl (0, 0, fun _ => 0))], s.2 + 5) := by
  obtain ⟨hg, F, H⟩ := hr
  refine ⟨?_, F, ?_⟩
  · have r0 := hg 950 0
    have r1 := hg 951 0
    unfold rg at r0 r1
    unfold svD
    exact rg_up (rg_up (rg_up (rg_up (rg_up (rg_up (rg_up (rg_up (rg_up (rg_zr hg) ha) hb) hc) he) rg0) ⟨by decide, by decide⟩) ⟨by decide, by decide⟩) ⟨by omega, by omega⟩) ⟨by omega, by omega⟩
  · rw [mxx_svD]
    exact Rp0_sv H (fun i q => (mxx_v rfl).trans (h9 i ((mxx_v rfl).symm.trans q))) ⟨by rw [mxx_v rfl]; exact hn.1, by rw [mxx_v rfl]; exact hn.2⟩
end Sv
