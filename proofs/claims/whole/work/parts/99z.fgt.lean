/-! A text that fails: its book is forgotten. -/
section Fgt
variable {n : Nat} {A A' : aA} {D D' E F : aD} {k : Int} {st : am_S}
def fgC (k : Int) (c : Nat) (i : Int) : Prop := ((c = 914 ∨ c = 923 ∨ c = 924 ∨ c = 925) ∧ i = k) ∨ ((c = 900 ∨ c = 901) ∧ i = 8 + k) ∨ ((c = 916 ∨ c = 922) ∧ 64 * k ≤ i ∧ i < 64 * k + 64)
noncomputable def fgD (D : aD) (k : Int) : aD := fun c i => @ite _ (fgC k c i) (Classical.propDecidable _) 0 (D c i)
theorem fgD_n {c : Nat} {i : Int} (h : ¬ fgC k c i) : fgD D k c i = D c i := if_neg h
theorem fgD_y {c : Nat} {i : Int} (h : fgC k c i) : fgD D k c i = 0 := if_pos h
theorem fgD_c {c : Nat} (h : c < 900 ∨ 925 < c) : fgD D k c = D c := funext fun i => fgD_n (by unfold fgC; omega)
theorem fgD_1 {c : Nat} {i : Int} (h : fgD D k c i = 1) : D c i = 1 ∧ ¬ fgC k c i := by
  by_cases q : fgC k c i
  · rw [fgD_y q] at h; exact absurd h (by decide)
  · rw [fgD_n q] at h; exact ⟨h, q⟩
theorem fgD_i {c : Nat} {i : Int} (h : D c i = 1) (q : ¬ fgC k c i) : fgD D k c i = 1 := (fgD_n q).trans h
theorem Rp0_fg (hk : 0 ≤ k ∧ k < 8) (h4 : D 1002 4 ≤ k) (hl : ∀ l, D 900 l = 1 → l ≠ 8 + k → (0 ≤ l ∧ l ≤ 5) ∨ (8 ≤ l ∧ D 1002 l ≤ 64)) (H : Rp0 A D st) : Rp0 A (fgD D k) st := by
  obtain ⟨⟨q1, q1b⟩, q2, q3, q4, q5, q6⟩ := H
  refine ⟨⟨?_, q1b⟩, ?_, ?_, ?_, ?_, ?_⟩
  · rw [fgD_c (by decide), fgD_c (by decide)]; exact q1
  · intro a sh ha
    have := shp_ge ha
    rw [fgD_c (by omega)]; exact q2 a sh ha
  · intro t i ht hf
    have e : mkT A (fgD D k) t i = mkT A D t i := mkT_cg (fun h c h1 h2 => by rw [fgD_c (by omega)]) (fun h => by rw [fgD_c (by omega)]) (fun h => by rw [fgD_c (by omega)]) (fun h z => ⟨by rw [fgD_c (by omega)], by rw [fgD_c (by omega)]⟩) (fun h h2 z hz => by rw [fgD_c (by omega)])
    rw [e]
    exact q3 t i ht (fgD_1 hf).1
  · intro t i t' i' ht ht' hf hf'
    exact q4 t i t' i' ht ht' (fgD_1 hf).1 (fgD_1 hf').1
  · rw [fgD_c (by decide), fgD_c (by decide)]; exact q5
  · obtain ⟨c1, c2, c3, c4, c5, c6, c7, c8, c9, c10, c11, c12⟩ := q6
    have ne : ∀ {c : Nat} {i : Int}, c ≠ 914 → c ≠ 923 → c ≠ 924 → c ≠ 925 → c ≠ 900 → c ≠ 901 → c ≠ 916 → c ≠ 922 → ¬ fgC k c i := fun a1 a2 a3 a4 a5 a6 a7 a8 => by unfold fgC; omega
    have f10 : ∀ i, fgD D k 910 i = D 910 i := fun i => fgD_n (ne (by decide) (by decide) (by decide) (by decide) (by decide) (by decide) (by decide) (by decide))
    have f11 : ∀ i, fgD D k 911 i = D 911 i := fun i => fgD_n (ne (by decide) (by decide) (by decide) (by decide) (by decide) (by decide) (by decide) (by decide))
    refine ⟨?_, ?_, ?_, ?_, ?_, ?_, ?_, ?_, ?_, ?_, ?_, ?_⟩
    · intro l q
      obtain ⟨z1, z2⟩ := fgD_1 q
      have : fgD D k 901 l = D 901 l := fgD_n (by unfold fgC at z2 ⊢; omega)
      rw [fgD_c (by decide), this, fgD_c (by decide)]
      exact c1 l z1
    · intro l i q i0 i1
      obtain ⟨z1, z2⟩ := fgD_1 q
      rw [fgD_c (by decide)] at i1
      refine fgD_i (c2 l i z1 i0 i1) ?_
      have hne : l ≠ 8 + k := fun z => z2 (Or.inr (Or.inl ⟨Or.inl rfl, z⟩))
      rcases hl l z1 hne with hl | hl
      · have e1 : ebs l = 0 := by unfold ebs; rw [if_pos (by omega)]
        rw [e1]
        by_cases e4 : l = 4
        · subst e4
          rw [show ety 4 = 14 from rfl]
          unfold fgC; omega
        · have : ety l = 10 ∨ ety l = 11 ∨ ety l = 12 ∨ ety l = 13 ∨ ety l = 15 := by
            unfold ety
            by_cases x0 : l = 0
            · rw [if_pos x0]; omega
            by_cases x1 : l = 1
            · rw [if_neg x0, if_pos x1]; omega
            by_cases x2 : l = 2
            · rw [if_neg x0, if_neg x1, if_pos x2]; omega
            by_cases x3 : l = 3
            · rw [if_neg x0, if_neg x1, if_neg x2, if_pos x3]; omega
            · rw [if_neg x0, if_neg x1, if_neg x2, if_neg x3, if_neg e4, if_pos (by omega)]; omega
          unfold fgC; omega
      · have e1 : ety l = 16 := by have := ety_8 (b := l - 8) (by omega); rw [show 8 + (l - 8) = l by omega] at this; exact this
        have e2 : ebs l = 64 * (l - 8) := by unfold ebs; rw [if_neg (by omega)]
        rw [e1, e2]
        unfold fgC; omega
    · intro i q
      rw [f10] at q
      exact fgD_i (c3 i q) (ne (by decide) (by decide) (by decide) (by decide) (by decide) (by decide) (by decide) (by decide))
    · intro i q
      rw [f11] at q
      exact fgD_i (c4 i q) (ne (by decide) (by decide) (by decide) (by decide) (by decide) (by decide) (by decide) (by decide))
    · intro i q
      rw [f10, f11, fgD_c (by decide), fgD_c (by decide)]
      exact c5 i (fgD_1 q).1
    · intro i q
      obtain ⟨z1, z2⟩ := fgD_1 q
      obtain ⟨y1, y2, y3, y4⟩ := c6 i z1
      have hik : i ≠ k := fun z => z2 (Or.inl ⟨Or.inl rfl, z⟩)
      exact ⟨fgD_i y1 (by unfold fgC; omega), fgD_i y2 (by unfold fgC; omega), fgD_i y3 (by unfold fgC; omega), fgD_i y4 (by unfold fgC; omega)⟩
    · intro i q
      rw [f10, f11, fgD_c (by decide), fgD_c (by decide)]
      exact c7 i (fgD_1 q).1
    · intro i q
      obtain ⟨z1, z2⟩ := fgD_1 q
      rw [fgD_c (by decide)]
      exact (c8 i z1).imp id (fun h => fgD_i h (by unfold fgC at z2 ⊢; omega))
    · intro i
      rw [f11, fgD_c (by decide)]; exact c9 i
    · intro i
      rw [f10, fgD_c (by decide)]; exact c10 i
    · intro t i t1 t2 q
      rw [fgD_c (by omega)]
      exact c11 t i t1 t2 (fgD_1 q).1
    · obtain ⟨d0, d1, d2, d3, d4, d5, d6, d7, d8, d9, d10, d11, d12⟩ := c12
      exact ⟨fgD_i d0 (by unfold fgC; omega), fgD_i d1 (by unfold fgC; omega), fgD_i d2 (by unfold fgC; omega), fgD_i d3 (by unfold fgC; omega), fgD_i d4 (by unfold fgC; omega), fgD_i d5 (by unfold fgC; omega), fgD_i d6 (by unfold fgC; omega), fgD_i d7 (by unfold fgC; omega), fgD_i d8 (by unfold fgC; omega), fgD_i d9 (by unfold fgC; omega), fgD_i d10 (by unfold fgC; omega), fgD_i d11 (by unfold fgC; omega), fgD_i d12 (by unfold fgC; omega)⟩
theorem rg_fg (h : ∀ c i, rg (D c i)) : ∀ c i, rg (fgD D k c i) := by
  intro c i
  by_cases q : fgC k c i
  · rw [fgD_y q]; exact rg0
  · rw [fgD_n q]; exact h c i
/-- the codes that the registry's relation reads, rules aside -/
def ivk (c : Nat) : Bool := [32, 33, 76, 34, 75, 2000, 2001, 2002, 2003, 71, 72, 73, 2100, 2101, 2102, 2103, 2104, 2105, 2106, 2107, 77, 78, 79, 80, 81, 82, 2500, 2501, 2502, 2503, 2504, 2505, 2506, 2507, 2508, 2509, 2510, 83, 84, 85, 86, 87, 88, 89, 90, 91, 134, 2200, 2201, 2202, 2203, 2204, 2205, 108, 109, 110, 111, 112, 113, 2300, 2301, 2302, 2303, 130, 131, 132, 133, 3000, 3001, 3100, 3101, 114, 115, 36, 116, 62, 1200, 1201, 64, 66, 124, 125, 126, 127].contains c
theorem Iv_r (h : ∀ c, ivk c = true → F c = D c) (h70 : F 70 0 = D 70 0 ∧ F 70 1 = D 70 1 ∧ F 70 2 = D 70 2 ∧ F 70 3 = D 70 3 ∧ F 70 4 = D 70 4 ∧ F 70 51 = D 70 51 ∧ F 70 68 = D 70 68 ∧ F 70 69 = D 70 69 ∧ F 70 78 = D 70 78 ∧ F 70 83 = D 70 83 ∧ F 70 84 = D 70 84) (h2 : F 1002 0 = D 1002 0 ∧ F 1002 1 = D 1002 1 ∧ F 1002 2 = D 1002 2 ∧ F 1002 3 = D 1002 3 ∧ F 1002 5 = D 1002 5) (ht : I_tp F) (H : Iv D) : Iv F := by
  obtain ⟨a0, a1, a2, a3, a4, a51, a68, a69, a78, a83, a84⟩ := h70
  obtain ⟨b0, b1, b2, b3, b5⟩ := h2
  obtain ⟨p1, p2, p3, p4, p5, p6, p7, p8, p9, p10, p11, p12, p13, p14, p15⟩ := H
  refine ⟨?_, ?_, ht, ?_, ?_, ?_, ?_, ?_, ?_, ?_, ?_, ?_, ?_, ?_, ?_⟩
  · unfold I_ct at *; simp only [h 32 rfl, a0, a1, a2, a3, a4, b0, b1, b5]; exact p1
  · unfold I_cu at *; simp only [h 32 rfl, a51, a78, a83, a84, b2, b3]; exact p2
  · unfold I_lg at *; simp only [h 33 rfl, h 76 rfl]; exact p4
  · unfold I_hs at *; simp only [h 34 rfl, h 75 rfl, a2]; exact p5
  · unfold I_sv at *; simp only [h 2000 rfl, h 2001 rfl, h 2002 rfl, h 2003 rfl, h 71 rfl, h 72 rfl, h 73 rfl, a1]; exact p6
  · unfold I_pl at *; simp only [h 2100 rfl, h 2101 rfl, h 2102 rfl, h 2103 rfl, h 2104 rfl, h 2105 rfl, h 2106 rfl, h 2107 rfl, h 77 rfl, h 75 rfl, h 78 rfl, h 79 rfl, h 80 rfl, h 81 rfl, h 82 rfl, a3, a2]; exact p7
  · unfold I_pg at *; simp only [h 2500 rfl, h 2501 rfl, h 2502 rfl, h 2503 rfl, h 2504 rfl, h 2505 rfl, h 2506 rfl, h 2507 rfl, h 2508 rfl, h 2509 rfl, h 83 rfl, h 84 rfl, h 85 rfl, h 86 rfl, h 87 rfl, h 88 rfl, h 89 rfl, h 90 rfl, h 91 rfl, a0, a1, a3, a4]; exact p8
  · unfold I_bx at *; simp only [h 2510 rfl, h 134 rfl, a4, a83]; exact p9
  · unfold I_tm at *; simp only [h 2200 rfl, h 2201 rfl, h 2202 rfl, h 2203 rfl, h 2204 rfl, h 2205 rfl, h 108 rfl, h 109 rfl, h 110 rfl, h 111 rfl, h 112 rfl, h 113 rfl, a0, a1, a2, a51]; exact p10
  · unfold I_ak v_X12_ageOn at *; simp only [h 2300 rfl, h 2301 rfl, h 2302 rfl, h 2303 rfl, h 130 rfl, h 131 rfl, h 132 rfl, h 133 rfl, h 71 rfl, a1, a3, a78]; exact p11
  · unfold I_ws at *; simp only [h 3000 rfl, h 3001 rfl, h 3100 rfl, h 3101 rfl, h 114 rfl, h 115 rfl, a1, a3]; exact p12
  · unfold I_wf at *; simp only [h 114 rfl, h 115 rfl, a1, a3]; exact p13
  · unfold I_td at *; simp only [h 36 rfl, h 116 rfl, a1, a3]; exact p14
  · unfold I_cn at *; simp only [h 62 rfl, h 1200 rfl, h 1201 rfl, h 64 rfl, h 66 rfl, h 124 rfl, h 125 rfl, h 126 rfl, h 127 rfl, a1, a3, a68, a69]; exact p15
end Fgt
