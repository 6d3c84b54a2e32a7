/-! The chain's two rows of things. -/
section Aa
variable {n : Nat} {A : aA} {D : aD} {d : Nat} {P : Nat → Option am_E} {pc q : Nat} {lo : am_L} {st : List am_V} {s : am_S} {ks : List Nat} {ln : Nat}
theorem mkT_20 : mkT A D 2 0 = .inr (.inr (5, 6, fun k : Nat => if D 1200 k < 0 then none else some (A 11 (D 1200 k)))) := rfl
theorem mkT_21 : mkT A D 2 1 = .inr (.inr (9, 6, fun k : Nat => if D 1201 k < 0 then none else some (A 10 (D 1201 k)))) := rfl
theorem mkT_2o {D' : aD} {i : Int} {z : Nat} (h0 : z = 0 → D' 1201 = D 1201 ∧ i ≠ 0) (h1 : z = 1 → D' 1200 = D 1200 ∧ i ≠ 1) (hz : z = 0 ∨ z = 1) : mkT A D' 2 i = mkT A D 2 i := by
  have e : ∀ E : aD, mkT A E 2 i = .inr (.inr (if i = 0 then 5 else 9, 6, fun k : Nat => if i = 0 then (if E 1200 k < 0 then none else some (A 11 (E 1200 k))) else if i = 1 then (if E 1201 k < 0 then none else some (A 10 (E 1201 k))) else none)) := fun E => rfl
  rw [e, e]
  rcases hz with rfl | rfl
  · obtain ⟨a, b⟩ := h0 rfl
    simp only [if_neg b, a]
  · obtain ⟨a, b⟩ := h1 rfl
    simp only [if_neg b, a]
theorem Rp0_w2_0 {i v : Int} (H : Rp0 A D s) (hv : D 911 v = 1) : Rp0 A (up D 1200 i v) (s.1.set (A 2 0) (mkT A (up D 1200 i v) 2 0), s.2) := by
  obtain ⟨⟨h1, h1b⟩, h2, h3, h4, ⟨h5, h5b⟩, h6⟩ := H
  have hlo : ∀ b, b ≠ 1200 → up D 1200 i v b = D b := fun b q => up_cf q
  have hf : D (900 + 2) 0 = 1 := h6.2.2.2.2.2.2.2.2.2.2.2.2.2.2.2.2.2.2.1
  obtain ⟨q1, q2, q3⟩ := h3 2 0 (by decide) hf
  have hlt := Rp0_len (A := A) (D := D) q1
  refine ⟨⟨?_, ?_⟩, ?_, ?_, ?_, ?_, ?_⟩
  · show (s.1.set _ _)[0]? = _
    rw [List.getElem?_set_ne (by omega), h1, hlo 0 (by decide), hlo 1 (by decide)]
  · intro b c' hb1 hbc
    have : b < 32 := (List.getElem?_eq_some_iff.mp hbc).1
    show (s.1.set _ _)[b]? = _
    rw [List.getElem?_set_ne (by omega)]
    exact h1b b c' hb1 hbc
  · intro b sh' hb'
    show (s.1.set _ _)[b]? = _
    have := shp_ge hb'
    rw [List.getElem?_set_ne (fun e => by rw [e, hb'] at q3; cases q3), h2 b sh' hb', hlo b (by omega)]
  · intro t' i' ht' hf'
    rw [hlo _ (by omega)] at hf'
    obtain ⟨r1, r2, r3⟩ := h3 t' i' ht' hf'
    refine ⟨?_, r2, r3⟩
    show (s.1.set _ _)[A t' i']? = _
    by_cases ee : A 2 0 = A t' i'
    · obtain ⟨rfl, rfl⟩ := h4 2 0 t' i' (by decide) ht' hf hf' ee
      rw [List.getElem?_set_self hlt]
    · rw [List.getElem?_set_ne ee, r1]
      by_cases e2 : t' = 2
      · subst e2
        have hi : i' ≠ 0 := fun z => ee (by rw [z])
        rw [mkT_2o (D' := up D 1200 i v) (D := D) (z := 0) (fun z => ⟨hlo 1201 (by decide), hi⟩) (fun z => absurd z (by decide)) (by decide)]
      · rw [mkT_cg (D' := up D 1200 i v) (D := D)]
        · intro _ c q _; rw [hlo c (by omega)]
        · intro hq; rw [hlo _ (by omega)]
        · intro _; rw [hlo _ (by decide)]
        · intro z; exact absurd z e2
        · intro _ _ j _; rw [hlo _ (by omega)]
  · intro t1 i1 t2 i2 ht1 ht2 hf1 hf2
    rw [hlo _ (by omega)] at hf1 hf2
    exact h4 t1 i1 t2 i2 ht1 ht2 hf1 hf2
  · show up D 1200 i v 950 0 = ((s.1.set _ _).length : Int) ∧ up D 1200 i v 951 0 = _
    rw [List.length_set, hlo _ (by decide), hlo _ (by decide)]
    exact ⟨h5, h5b⟩
  · obtain ⟨g1, g2, g3, g4, g5, g6, g7, g8, g9, g10, g11, g12⟩ := h6
    have hk : ∀ k, up D 1200 i v 1200 k < 0 ∨ D 911 (up D 1200 i v 1200 k) = 1 := fun k => by
      by_cases e : k = i
      · rw [e, up_eq]; exact Or.inr hv
      · rw [up_i e]; exact g9 k
    unfold Cl
    rw [hlo 900 (by decide), hlo 901 (by decide), hlo 1002 (by decide), hlo 1100 (by decide), hlo 910 (by decide), hlo 911 (by decide), hlo 913 (by decide), hlo 914 (by decide), hlo 915 (by decide), hlo 916 (by decide), hlo 920 (by decide), hlo 921 (by decide), hlo 922 (by decide), hlo 923 (by decide), hlo 924 (by decide), hlo 925 (by decide), hlo 2300 (by decide), hlo 2301 (by decide), hlo 2501 (by decide), hlo 2502 (by decide), hlo 2605 (by decide), hlo 902 (by decide), hlo 1201 (by decide)]
    refine ⟨g1, fun l i' z1 z2 z3 => ?_, g3, g4, g5, g6, g7, g8, hk, g10, fun t i' z1 z2 z3 => ?_, g12⟩
    · rw [hlo _ (by have := ety_le l; omega)]; exact g2 l i' z1 z2 z3
    · rw [hlo _ (by omega)] at z3; rw [hlo _ (by omega)]; exact g11 t i' z1 z2 z3
theorem Rp_w2_0 {i v : Int} (h : Rp n A D s) (hv : D 911 v = 1) (hg : rg v) : Rp n A (up D 1200 i v) (s.1.set (A 2 0) (mkT A (up D 1200 i v) 2 0), s.2) := by
  obtain ⟨h1, F, h⟩ := h
  have q := Rp0_w2_0 (i := i) (v := v) h (by rw [mxx_hi (by decide) (by decide) (by decide)]; exact hv)
  rw [← mxx_up rfl, mkT_mxx (by decide) rfl] at q
  exact ⟨rg_up h1 hg, F, q⟩
theorem m_aal0 {w i : Int} {x : am_X} (h : P pc = some (ks, .aaload, ln, x)) (hk : am_kill ks lo = lo) (hq : pc + 1 = q) (hr : Rp n A D s) (g : 0 ≤ i ∧ i < 6 ∧ 0 ≤ w) (hw : D 1200 i = w) : mr d P pc lo (am_i (wz i) :: am_r (some (A 2 0)) :: st) s = mr d P q lo (am_r (some (A 11 w)) :: st) s := by
  subst hw
  refine x_aal h hk hq ?_
  have hc := (Rp_ty hr (t := 2) (i := 0) (by decide) rfl (Rp_fx2_0 hr)).1
  rw [mkT_20] at hc
  rw [ral_of hc g.1 (by omega) (by decide)]
  show some (if D 1200 ((i.toNat : Nat) : Int) < 0 then none else some (A 11 (D 1200 ((i.toNat : Nat) : Int)))) = _
  rw [Int.toNat_of_nonneg g.1, if_neg (by omega)]
theorem e_aas0 {i v : Int} {x : am_X} (h : P pc = some (ks, .aastore, ln, x)) (hk : am_kill ks lo = lo) (hq : pc + 1 = q) (hr : Rp n A D s) (hv : D 911 v = 1) (g : 0 ≤ i ∧ i < 6 ∧ 0 ≤ v ∧ v < 1000) : ∃ s', mr d P pc lo (am_r (some (A 11 v)) :: am_i (wz i) :: am_r (some (A 2 0)) :: st) s = mr d P q lo st s' ∧ Rp n A (up D 1200 i v) s' := by
  subst hq
  have hg : rg v := rgb (by omega) (by omega)
  have hf := Rp_fx2_0 hr
  have hc := (Rp_ty hr (t := 2) (i := 0) (by decide) rfl hf).1
  rw [mkT_20] at hc
  have ha := Rp_ge hr (t := 2) (i := 0) (by decide) hf
  have hb := Rp_ge hr (t := 11) (i := v) (by decide) hv
  have ho := Rp_ob hr (t := 11) rfl hv
  have hasg : am_asg s.1 5 (some (A 11 v)) = true := by
    unfold am_asg
    simp only [ho]
    rw [Nat.ble_eq_true_of_le (show am_K ≤ A 11 v from hb)]; rfl
  refine ⟨_, ?_, Rp_w2_0 (i := i) hr hv hg⟩
  rw [mx h hk]
  show (am_ras s (some (A 2 0)) (wz i) (some (A 11 v))).bind _ = _
  have hx := ix_ok g.1 (show i < ((6 : Nat) : Int) by omega) (by decide)
  unfold am_ras
  simp only [hc]
  rw [if_pos (show am_K ≤ A 2 0 from ha), if_pos ⟨hx.2, hasg⟩, hx.1]
  show mr d P (pc + 1) lo st _ = _
  congr 2
  rw [mkT_20]
  congr 5
  funext k
  show (if k = i.toNat then some (A 11 v) else if D 1200 k < 0 then none else some (A 11 (D 1200 k))) = if up D 1200 i v 1200 k < 0 then none else some (A 11 (up D 1200 i v 1200 k))
  by_cases e : k = i.toNat
  · rw [if_pos e, show (k : Int) = i by omega, up_eq, if_neg (by omega)]
  · rw [if_neg e, up_i (by omega)]
theorem Rp0_w2_1 {i v : Int} (H : Rp0 A D s) (hv : D 910 v = 1) : Rp0 A (up D 1201 i v) (s.1.set (A 2 1) (mkT A (up D 1201 i v) 2 1), s.2) := by
  obtain ⟨⟨h1, h1b⟩, h2, h3, h4, ⟨h5, h5b⟩, h6⟩ := H
  have hlo : ∀ b, b ≠ 1201 → up D 1201 i v b = D b := fun b q => up_cf q
  have hf : D (900 + 2) 1 = 1 := h6.2.2.2.2.2.2.2.2.2.2.2.2.2.2.2.2.2.2.2.1
  obtain ⟨q1, q2, q3⟩ := h3 2 1 (by decide) hf
  have hlt := Rp0_len (A := A) (D := D) q1
  refine ⟨⟨?_, ?_⟩, ?_, ?_, ?_, ?_, ?_⟩
  · show (s.1.set _ _)[0]? = _
    rw [List.getElem?_set_ne (by omega), h1, hlo 0 (by decide), hlo 1 (by decide)]
  · intro b c' hb1 hbc
    have : b < 32 := (List.getElem?_eq_some_iff.mp hbc).1
    show (s.1.set _ _)[b]? = _
    rw [List.getElem?_set_ne (by omega)]
    exact h1b b c' hb1 hbc
  · intro b sh' hb'
    show (s.1.set _ _)[b]? = _
    have := shp_ge hb'
    rw [List.getElem?_set_ne (fun e => by rw [e, hb'] at q3; cases q3), h2 b sh' hb', hlo b (by omega)]
  · intro t' i' ht' hf'
    rw [hlo _ (by omega)] at hf'
    obtain ⟨r1, r2, r3⟩ := h3 t' i' ht' hf'
    refine ⟨?_, r2, r3⟩
    show (s.1.set _ _)[A t' i']? = _
    by_cases ee : A 2 1 = A t' i'
    · obtain ⟨rfl, rfl⟩ := h4 2 1 t' i' (by decide) ht' hf hf' ee
      rw [List.getElem?_set_self hlt]
    · rw [List.getElem?_set_ne ee, r1]
      by_cases e2 : t' = 2
      · subst e2
        have hi : i' ≠ 1 := fun z => ee (by rw [z])
        rw [mkT_2o (D' := up D 1201 i v) (D := D) (z := 1) (fun z => absurd z (by decide)) (fun z => ⟨hlo 1200 (by decide), hi⟩) (by decide)]
      · rw [mkT_cg (D' := up D 1201 i v) (D := D)]
        · intro _ c q _; rw [hlo c (by omega)]
        · intro hq; rw [hlo _ (by omega)]
        · intro _; rw [hlo _ (by decide)]
        · intro z; exact absurd z e2
        · intro _ _ j _; rw [hlo _ (by omega)]
  · intro t1 i1 t2 i2 ht1 ht2 hf1 hf2
    rw [hlo _ (by omega)] at hf1 hf2
    exact h4 t1 i1 t2 i2 ht1 ht2 hf1 hf2
  · show up D 1201 i v 950 0 = ((s.1.set _ _).length : Int) ∧ up D 1201 i v 951 0 = _
    rw [List.length_set, hlo _ (by decide), hlo _ (by decide)]
    exact ⟨h5, h5b⟩
  · obtain ⟨g1, g2, g3, g4, g5, g6, g7, g8, g9, g10, g11, g12⟩ := h6
    have hk : ∀ k, up D 1201 i v 1201 k < 0 ∨ D 910 (up D 1201 i v 1201 k) = 1 := fun k => by
      by_cases e : k = i
      · rw [e, up_eq]; exact Or.inr hv
      · rw [up_i e]; exact g10 k
    unfold Cl
    rw [hlo 900 (by decide), hlo 901 (by decide), hlo 1002 (by decide), hlo 1100 (by decide), hlo 910 (by decide), hlo 911 (by decide), hlo 913 (by decide), hlo 914 (by decide), hlo 915 (by decide), hlo 916 (by decide), hlo 920 (by decide), hlo 921 (by decide), hlo 922 (by decide), hlo 923 (by decide), hlo 924 (by decide), hlo 925 (by decide), hlo 2300 (by decide), hlo 2301 (by decide), hlo 2501 (by decide), hlo 2502 (by decide), hlo 2605 (by decide), hlo 902 (by decide), hlo 1200 (by decide)]
    refine ⟨g1, fun l i' z1 z2 z3 => ?_, g3, g4, g5, g6, g7, g8, g9, hk, fun t i' z1 z2 z3 => ?_, g12⟩
    · rw [hlo _ (by have := ety_le l; omega)]; exact g2 l i' z1 z2 z3
    · rw [hlo _ (by omega)] at z3; rw [hlo _ (by omega)]; exact g11 t i' z1 z2 z3
theorem Rp_w2_1 {i v : Int} (h : Rp n A D s) (hv : D 910 v = 1) (hg : rg v) : Rp n A (up D 1201 i v) (s.1.set (A 2 1) (mkT A (up D 1201 i v) 2 1), s.2) := by
  obtain ⟨h1, F, h⟩ := h
  have q := Rp0_w2_1 (i := i) (v := v) h (by rw [mxx_hi (by decide) (by decide) (by decide)]; exact hv)
  rw [← mxx_up rfl, mkT_mxx (by decide) rfl] at q
  exact ⟨rg_up h1 hg, F, q⟩
theorem m_aal1 {w i : Int} {x : am_X} (h : P pc = some (ks, .aaload, ln, x)) (hk : am_kill ks lo = lo) (hq : pc + 1 = q) (hr : Rp n A D s) (g : 0 ≤ i ∧ i < 6 ∧ 0 ≤ w) (hw : D 1201 i = w) : mr d P pc lo (am_i (wz i) :: am_r (some (A 2 1)) :: st) s = mr d P q lo (am_r (some (A 10 w)) :: st) s := by
  subst hw
  refine x_aal h hk hq ?_
  have hc := (Rp_ty hr (t := 2) (i := 1) (by decide) rfl (Rp_fx2_1 hr)).1
  rw [mkT_21] at hc
  rw [ral_of hc g.1 (by omega) (by decide)]
  show some (if D 1201 ((i.toNat : Nat) : Int) < 0 then none else some (A 10 (D 1201 ((i.toNat : Nat) : Int)))) = _
  rw [Int.toNat_of_nonneg g.1, if_neg (by omega)]
theorem e_aas1 {i v : Int} {x : am_X} (h : P pc = some (ks, .aastore, ln, x)) (hk : am_kill ks lo = lo) (hq : pc + 1 = q) (hr : Rp n A D s) (hv : D 910 v = 1) (g : 0 ≤ i ∧ i < 6 ∧ 0 ≤ v ∧ v < 1000) : ∃ s', mr d P pc lo (am_r (some (A 10 v)) :: am_i (wz i) :: am_r (some (A 2 1)) :: st) s = mr d P q lo st s' ∧ Rp n A (up D 1201 i v) s' := by
  subst hq
  have hg : rg v := rgb (by omega) (by omega)
  have hf := Rp_fx2_1 hr
  have hc := (Rp_ty hr (t := 2) (i := 1) (by decide) rfl hf).1
  rw [mkT_21] at hc
  have ha := Rp_ge hr (t := 2) (i := 1) (by decide) hf
  have hb := Rp_ge hr (t := 10) (i := v) (by decide) hv
  have ho := Rp_ob hr (t := 10) rfl hv
  have hasg : am_asg s.1 9 (some (A 10 v)) = true := by
    unfold am_asg
    simp only [ho]
    rw [Nat.ble_eq_true_of_le (show am_K ≤ A 10 v from hb)]; rfl
  refine ⟨_, ?_, Rp_w2_1 (i := i) hr hv hg⟩
  rw [mx h hk]
  show (am_ras s (some (A 2 1)) (wz i) (some (A 10 v))).bind _ = _
  have hx := ix_ok g.1 (show i < ((6 : Nat) : Int) by omega) (by decide)
  unfold am_ras
  simp only [hc]
  rw [if_pos (show am_K ≤ A 2 1 from ha), if_pos ⟨hx.2, hasg⟩, hx.1]
  show mr d P (pc + 1) lo st _ = _
  congr 2
  rw [mkT_21]
  congr 5
  funext k
  show (if k = i.toNat then some (A 10 v) else if D 1201 k < 0 then none else some (A 10 (D 1201 k))) = if up D 1201 i v 1201 k < 0 then none else some (A 10 (up D 1201 i v 1201 k))
  by_cases e : k = i.toNat
  · rw [if_pos e, show (k : Int) = i by omega, up_eq, if_neg (by omega)]
  · rw [if_neg e, up_i (by omega)]
end Aa
