/-! A thing's new row, with levels. -/
section Rd_
variable {n : Nat} {A A' : aA} {D D' : aD} {d : Nat} {s : am_S}
def rw0 (D : aD) (u : Nat) (i : Int) (m : Nat) (src : Int → Int) : aD := fun c j => if c = 1001 + 100 * u ∧ 1024 * i ≤ j ∧ j < 1024 * i + 1024 then (if j - 1024 * i < m then src (j - 1024 * i) else 0) else D c j
def rwD (D : aD) (u : Nat) (i : Int) (m : Nat) (src : Int → Int) : aD := up (up (up (up (rw0 D u i m src) (1000 + 100 * u) i m) (900 + u) i 1) 950 0 (D 950 0 + 1)) 951 0 (D 951 0 + m)
theorem rw0_n {u : Nat} {i j : Int} {m c : Nat} {src : Int → Int} (h : ¬ (c = 1001 + 100 * u ∧ 1024 * i ≤ j ∧ j < 1024 * i + 1024)) : rw0 D u i m src c j = D c j := if_neg h
theorem rw0_c {u : Nat} {i : Int} {m c : Nat} {src : Int → Int} (h : c ≠ 1001 + 100 * u) : rw0 D u i m src c = D c := funext fun _ => if_neg (fun z => h z.1)
theorem rwD_d {u : Nat} {i : Int} {m : Nat} {src : Int → Int} (hu : 20 ≤ u ∧ u ≤ 22) (c : Nat) (j : Int) (h : rwD D u i m src c j ≠ D c j) : c = 950 ∨ c = 951 ∨ blg (u, i) c j := by
  by_cases q : c = 950 ∨ c = 951 ∨ blg (u, i) c j
  · exact q
  · exfalso
    have q0 : c ≠ 950 := fun e => q (Or.inl e)
    have q1 : c ≠ 951 := fun e => q (Or.inr (Or.inl e))
    have q2 : ¬ blg (u, i) c j := fun e => q (Or.inr (Or.inr e))
    unfold blg at q2
    simp only at q2
    apply h
    unfold rwD
    rw [up_c q1, up_c q0, up_n (by omega), up_n (by omega), rw0_n (by omega)]
theorem rwD_f {u : Nat} {i : Int} {m c : Nat} {src : Int → Int} (h : c ≠ 950 ∧ c ≠ 951 ∧ c ≠ 900 + u ∧ c ≠ 1000 + 100 * u ∧ c ≠ 1001 + 100 * u) : rwD D u i m src c = D c := by
  unfold rwD
  rw [up_cf h.2.1, up_cf h.1, up_cf h.2.2.1, up_cf h.2.2.2.1, rw0_c h.2.2.2.2]
theorem rwD_k {u : Nat} {i : Int} {m : Nat} {src : Int → Int} (hu : 20 ≤ u ∧ u ≤ 22) : rwD D u i m src (1000 + 100 * u) i = m ∧ (∀ j, j ≠ i → rwD D u i m src (1000 + 100 * u) j = D (1000 + 100 * u) j) ∧ rwD D u i m src (900 + u) i = 1 ∧ (∀ j, j ≠ i → rwD D u i m src (900 + u) j = D (900 + u) j) := by
  unfold rwD
  refine ⟨?_, fun j hj => ?_, ?_, fun j hj => ?_⟩
  · rw [up_c (by omega), up_c (by omega), up_c (by omega), up_eq]
  · rw [up_c (by omega), up_c (by omega), up_c (by omega), up_i hj, rw0_n (by omega)]
  · rw [up_c (by omega), up_c (by omega), up_eq]
  · rw [up_c (by omega), up_c (by omega), up_i hj, up_c (by omega), rw0_n (by omega)]
theorem rwD_r {u : Nat} {i : Int} {m : Nat} {src : Int → Int} (hu : 20 ≤ u ∧ u ≤ 22) {j : Int} : rwD D u i m src (1001 + 100 * u) j = if 1024 * i ≤ j ∧ j < 1024 * i + 1024 then (if j - 1024 * i < m then src (j - 1024 * i) else 0) else D (1001 + 100 * u) j := by
  unfold rwD
  rw [up_c (by omega), up_c (by omega), up_c (by omega), up_c (by omega)]
  unfold rw0
  by_cases q : 1024 * i ≤ j ∧ j < 1024 * i + 1024
  · rw [if_pos ⟨rfl, q⟩, if_pos q]
  · rw [if_neg (fun z => q z.2), if_neg q]
theorem rwD_h {u : Nat} {i : Int} {m : Nat} {src : Int → Int} (hu : 20 ≤ u ∧ u ≤ 22) : rwD D u i m src 950 0 = D 950 0 + 1 ∧ rwD D u i m src 951 0 = D 951 0 + m := by
  unfold rwD
  rw [up_c (by decide), up_eq, up_eq]; exact ⟨rfl, rfl⟩
theorem rwD_g {u : Nat} {i : Int} {m : Nat} {src : Int → Int} (hu : 20 ≤ u ∧ u ≤ 22) (hm : m ≤ 1024) (q : Nat) : (if q < m then wz (src q) else 0) = if q < 1024 then wz (rwD D u i m src (1001 + 100 * u) (1024 * i + q)) else 0 := by
  by_cases c : q < 1024
  · rw [if_pos c, rwD_r hu, if_pos (show 1024 * i ≤ 1024 * i + (q : Int) ∧ 1024 * i + (q : Int) < 1024 * i + 1024 by omega), show 1024 * i + (q : Int) - 1024 * i = (q : Int) by omega]
    by_cases c2 : q < m
    · rw [if_pos c2, if_pos (by omega)]
    · rw [if_neg c2, if_neg (by omega)]; rfl
  · rw [if_neg c, if_neg (by omega)]
theorem mxx_rwD {u : Nat} {i : Int} {m : Nat} {src : Int → Int} {F : aD} (hu : u = 20 ∨ u = 21 ∨ u = 22) : mxx n (rwD D u i m src) F = rwD (mxx n D F) u i m src := by
  have l1 : Nat.ble (lev (1001 + 100 * u)) n = true := by rcases hu with rfl | rfl | rfl <;> rfl
  have l2 : Nat.ble (lev (1000 + 100 * u)) n = true := by rcases hu with rfl | rfl | rfl <;> rfl
  have l3 : Nat.ble (lev (900 + u)) n = true := by rcases hu with rfl | rfl | rfl <;> rfl
  unfold rwD
  rw [mxx_up rfl, mxx_up rfl, mxx_up l3, mxx_up l2, mxx_v rfl, mxx_v rfl]
  congr 4
  funext c j
  unfold mxx rw0
  by_cases q : c = 1001 + 100 * u ∧ 1024 * i ≤ j ∧ j < 1024 * i + 1024
  · rw [if_pos q, if_pos q, q.1, if_pos l1]
  · rw [if_neg q, if_neg q]
theorem rg_rwD {u : Nat} {i : Int} {m : Nat} {src : Int → Int} (h : ∀ c j, rg (D c j)) (hs : ∀ j, rg (src j)) (hm : m ≤ 1024) (hh : D 950 0 ≤ 1000000000 ∧ D 951 0 ≤ 1000000000) : ∀ c j, rg (rwD D u i m src c j) := by
  have r0 := h 950 0
  have r1 := h 951 0
  unfold rg at r0 r1
  have hw : ∀ c j, rg (rw0 D u i m src c j) := fun c j => by
    unfold rw0; split
    · split
      · exact hs _
      · exact rg0
    · exact h c j
  unfold rwD
  exact rg_up (rg_up (rg_up (rg_up hw ⟨by omega, by omega⟩) ⟨by decide, by decide⟩) ⟨by omega, by omega⟩) ⟨by omega, by omega⟩
/-- wishes: a servant's, a place's -/
theorem Rp_ws20 {i : Int} {m : Nat} {src : Int → Int} (hr : Rp n A D s) (hf : D 910 i = 1) (hm : m ≤ 1024) (hs : ∀ j, rg (src j)) (hh : D 950 0 ≤ 1000000000 ∧ D 951 0 ≤ 1000000000) : Rp n (upA A 20 i s.1.length) (rwD D 20 i m src) ((s.1 ++ ([.inr (.inl (0, m, fun k => if k < m then wz (src k) else 0))] : List am_Ce)).set (A 10 i) (.inl (9, [am_i (wz (D 2000 i)), am_i (wz (D 2001 i)), am_i (wz (D 2002 i)), am_i (wz (D 2003 i)), am_r (some s.1.length)])), s.2 + m) := by
  obtain ⟨hg, F, H⟩ := hr
  refine ⟨rg_rwD hg hs hm hh, F, ?_⟩
  rw [mxx_rwD (Or.inl rfl)]
  have hl := H.2.2.2.2.1
  have k := Rp0_row (t := 10) (u := 20) (i := i) (k := m) (g := fun k => if k < m then wz (src k) else 0) (D' := rwD (mxx n D F) 20 i m src) H (Or.inl ⟨rfl, rfl⟩) ((mxx_v rfl).trans hf) (fun c j q => (rwD_d (by decide) c j q).elim Or.inl (fun z => z.elim (fun y => Or.inr (Or.inl y)) (fun y => Or.inr (Or.inr (Or.inl y))))) (rwD_k (by decide)).2.2.1 (rwD_k (by decide)).1 hm (fun q => rwD_g (by decide) hm q) ⟨by rw [(rwD_h (by decide)).1, hl.1], by rw [(rwD_h (by decide)).2, hl.2]⟩
  have e : mkT (upA A 20 i s.1.length) (rwD (mxx n D F) 20 i m src) 10 i = .inl (9, [am_i (wz (D 2000 i)), am_i (wz (D 2001 i)), am_i (wz (D 2002 i)), am_i (wz (D 2003 i)), am_r (some s.1.length)]) := by
    show (Sum.inl (9, [am_i (wz (rwD (mxx n D F) 20 i m src 2000 i)), am_i (wz (rwD (mxx n D F) 20 i m src 2001 i)), am_i (wz (rwD (mxx n D F) 20 i m src 2002 i)), am_i (wz (rwD (mxx n D F) 20 i m src 2003 i)), am_r (some (upA A 20 i s.1.length 20 i))]) : am_Ce) = _
    rw [upA_eq, rwD_f (by decide), rwD_f (by decide), rwD_f (by decide), rwD_f (by decide), mxx_v rfl, mxx_v rfl, mxx_v rfl, mxx_v rfl]
  rw [e] at k
  exact k
theorem Rp_ws21 {i : Int} {m : Nat} {src : Int → Int} (hr : Rp n A D s) (hf : D 911 i = 1) (hm : m ≤ 1024) (hs : ∀ j, rg (src j)) (hh : D 950 0 ≤ 1000000000 ∧ D 951 0 ≤ 1000000000) : Rp n (upA A 21 i s.1.length) (rwD D 21 i m src) ((s.1 ++ ([.inr (.inl (0, m, fun k => if k < m then wz (src k) else 0))] : List am_Ce)).set (A 11 i) (.inl (5, [am_i (wz (D 2100 i)), am_i (wz (D 2101 i)), am_i (wz (D 2102 i)), am_i (wz (D 2103 i)), am_i (wz (D 2104 i)), am_i (wz (D 2105 i)), am_i (wz (D 2106 i)), am_i (wz (D 2107 i)), am_r (some s.1.length)])), s.2 + m) := by
  obtain ⟨hg, F, H⟩ := hr
  refine ⟨rg_rwD hg hs hm hh, F, ?_⟩
  rw [mxx_rwD (Or.inr (Or.inl rfl))]
  have hl := H.2.2.2.2.1
  have k := Rp0_row (t := 11) (u := 21) (i := i) (k := m) (g := fun k => if k < m then wz (src k) else 0) (D' := rwD (mxx n D F) 21 i m src) H (Or.inr (Or.inl ⟨rfl, rfl⟩)) ((mxx_v rfl).trans hf) (fun c j q => (rwD_d (by decide) c j q).elim Or.inl (fun z => z.elim (fun y => Or.inr (Or.inl y)) (fun y => Or.inr (Or.inr (Or.inl y))))) (rwD_k (by decide)).2.2.1 (rwD_k (by decide)).1 hm (fun q => rwD_g (by decide) hm q) ⟨by rw [(rwD_h (by decide)).1, hl.1], by rw [(rwD_h (by decide)).2, hl.2]⟩
  have e : mkT (upA A 21 i s.1.length) (rwD (mxx n D F) 21 i m src) 11 i = .inl (5, [am_i (wz (D 2100 i)), am_i (wz (D 2101 i)), am_i (wz (D 2102 i)), am_i (wz (D 2103 i)), am_i (wz (D 2104 i)), am_i (wz (D 2105 i)), am_i (wz (D 2106 i)), am_i (wz (D 2107 i)), am_r (some s.1.length)]) := by
    show (Sum.inl (5, [am_i (wz (rwD (mxx n D F) 21 i m src 2100 i)), am_i (wz (rwD (mxx n D F) 21 i m src 2101 i)), am_i (wz (rwD (mxx n D F) 21 i m src 2102 i)), am_i (wz (rwD (mxx n D F) 21 i m src 2103 i)), am_i (wz (rwD (mxx n D F) 21 i m src 2104 i)), am_i (wz (rwD (mxx n D F) 21 i m src 2105 i)), am_i (wz (rwD (mxx n D F) 21 i m src 2106 i)), am_i (wz (rwD (mxx n D F) 21 i m src 2107 i)), am_r (some (upA A 21 i s.1.length 21 i))]) : am_Ce) = _
    rw [upA_eq, rwD_f (by decide), rwD_f (by decide), rwD_f (by decide), rwD_f (by decide), rwD_f (by decide), rwD_f (by decide), rwD_f (by decide), rwD_f (by decide), mxx_v rfl, mxx_v rfl, mxx_v rfl, mxx_v rfl, mxx_v rfl, mxx_v rfl, mxx_v rfl, mxx_v rfl]
  rw [e] at k
  exact k
end Rd_
