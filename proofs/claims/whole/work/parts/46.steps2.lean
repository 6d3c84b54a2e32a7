/-! The reference's steps. -/
section St6
variable {n : Nat} {A : aA} {D : aD}
def rg6 (c : Int → Int) : Prop := ∀ p, 0 ≤ p → p < 6 → 0 ≤ c p ∧ c p ≤ 100000000
def ms6 (c : Int → Int) : Nat := (c 0 + c 1 + c 2 + c 3 + c 4 + c 5).toNat
theorem ms6_lt {c : Int → Int} {q v : Int} (h : rg6 c) (q0 : 0 ≤ q) (q1 : q < 6) (v0 : 0 ≤ v) (hv : v < c q) : ms6 (fun p => if p = q then v else c p) < ms6 c := by
  have h0 := h 0 (by omega) (by omega)
  have h1 := h 1 (by omega) (by omega)
  have h2 := h 2 (by omega) (by omega)
  have h3 := h 3 (by omega) (by omega)
  have h4 := h 4 (by omega) (by omega)
  have h5 := h 5 (by omega) (by omega)
  unfold ms6
  rcases (by omega : q = 0 ∨ q = 1 ∨ q = 2 ∨ q = 3 ∨ q = 4 ∨ q = 5) with rfl | rfl | rfl | rfl | rfl | rfl <;> simp <;> omega
/-- two rows -/
def mrow (D : aD) (s c : Int → Int) : aD := row (row D 122 6 s) 123 6 c
theorem mrow_s {s c : Int → Int} {p : Int} (h0 : 0 ≤ p) (h1 : p < 6) : mrow D s c 122 p = s p := by unfold mrow; rw [row_c (by decide), row_i h0 h1]
theorem mrow_i {s c : Int → Int} {p : Int} (h0 : 0 ≤ p) (h1 : p < 6) : mrow D s c 123 p = c p := by unfold mrow; rw [row_i h0 h1]
theorem mrow_c {s c : Int → Int} {k : Nat} (h1 : k ≠ 122) (h2 : k ≠ 123) : mrow D s c k = D k := by unfold mrow; rw [row_c h2, row_c h1]
theorem mrow_up {s c : Int → Int} {p v : Int} (h0 : 0 ≤ p) (h1 : p < 6) : up (mrow D s c) 123 p v = mrow D s (fun q => if q = p then v else c q) := by unfold mrow; exact row_up h0 h1
theorem mrow_sm {s c : Int → Int} : Sm (mrow D s c) D := ((Sm.refl D).row rfl).row rfl
def fin6 (V : Int → Int) (post w : Int) : Int := if V post = 100000000 then -1 else if w = 0 then (V post).tdiv 100000 else (V post).tmod 100000
section Lp6
variable {sv : Int → Int} {r post w : Int}
/-- the rounds until nothing grows better -/
theorem K_st {V : Int → Int} (hI : Inv D) (h2 : rg post) (h3 : rg w) (hpo : 0 ≤ post ∧ post < 6) (hr : 0 ≤ r ∧ r < D 70 26) (hsv : ∀ p, 0 ≤ sv p ∧ sv p ≤ 1000)
    (hVe : ∀ j, 0 ≤ j → j < nD D r → kdD D r j = 6 → V (ttD D r j) ≤ wext 100000 100000000 (V (tfD D r j)) (max 0 (taD D r j - sv (tfD D r j))))
    (hV0 : ∀ p, 0 ≤ V p ∧ V p ≤ 100000000)
    (hfin : ∀ c : Int → Int, rg6 c → (∀ p, 0 ≤ p → p < 6 → V p ≤ c p) → (∀ p, 0 ≤ p → p < 6 → c p ≤ wT (kdD D r) (tfD D r) (ttD D r) (taD D r) sv (nD D r) 100000 100000000 0 p) → (∀ j, 0 ≤ j → j < nD D r → kdD D r j = 6 → c (ttD D r j) ≤ wext 100000 100000000 (c (tfD D r j)) (max 0 (taD D r j - sv (tfD D r j)))) → ∀ p, 0 ≤ p → p < 6 → c p = V p) :
    ∀ (m : Nat) (c : Int → Int), ms6 c ≤ m → rg6 c → (∀ p, 0 ≤ p → p < 6 → V p ≤ c p) → (∀ p, 0 ≤ p → p < 6 → c p ≤ wT (kdD D r) (tfD D r) (ttD D r) (taD D r) sv (nD D r) 100000 100000000 0 p) → ∃ D', Sm D' D ∧ K_X12_steps_257 (n + 1) A (mrow D sv c) post w r 1 (fin6 V post w) D' := by
  have hc := hI.rb.1
  have hN := nD_b hI (Or.inr hr)
  have hed := edD hI (Or.inr hr)
  have eN : nD D r = D 92 r := if_neg (by omega)
  intro m
  induction m with
  | zero =>
    -- all are 0: one pass, nothing grows better (shown as in the other case)
    intro c hm hg hlo hhi
    have hz : ∀ p, 0 ≤ p → p < 6 → c p = 0 := by
      have h0 := hg 0 (by omega) (by omega)
      have h1 := hg 1 (by omega) (by omega)
      have h2 := hg 2 (by omega) (by omega)
      have h3 := hg 3 (by omega) (by omega)
      have h4 := hg 4 (by omega) (by omega)
      have h5 := hg 5 (by omega) (by omega)
      unfold ms6 at hm
      intro p p0 p1
      rcases (by omega : p = 0 ∨ p = 1 ∨ p = 2 ∨ p = 3 ∨ p = 4 ∨ p = 5) with rfl | rfl | rfl | rfl | rfl | rfl <;> omega
    have hf := hfin c hg hlo hhi (fun j j0 j1 hk => by
      have he := hed j j0 j1 hk
      rw [hz _ he.2.1.1 he.2.1.2]
      unfold wext
      have := hg (tfD D r j) he.1.1 he.1.2
      split <;> omega) post hpo.1 hpo.2
    refine ⟨mrow D sv c, mrow_sm, ?_⟩
    have Kz : K_X12_steps_257 (n + 1) A (mrow D sv c) post w r 0 (fin6 V post w) (mrow D sv c) := by
      refine rl_X12_steps_257 _ _ _ _ h2 h3 (rgb (by omega) (by omega)) (rgb (by omega) (by omega)) (by omega) ?_
      rw [if_pos rfl, mrow_i hpo.1 hpo.2, hf]
      refine ⟨hpo, ?_⟩
      unfold fin6
      have hV := hV0 post
      rw [wr_id (z := (V post).tdiv 100000) (by rw [Int.tdiv_eq_ediv_of_nonneg hV.1]; omega) (by rw [Int.tdiv_eq_ediv_of_nonneg hV.1]; omega)]
      split
      · exact ⟨rfl, rfl⟩
      · split <;> exact ⟨rfl, rfl⟩
    refine rl_X12_steps_257 _ _ _ _ h2 h3 (rgb (by omega) (by omega)) (rgb (by omega) (by omega)) (by omega) ?_
    rw [if_neg (by decide), wr_id (by omega) (by omega)]
    have K := dn_ind (K := fun j => K_X12_steps_272 (n + 1) A (mrow D sv c) post w r 0 (30 * r + j) (fin6 V post w) (mrow D sv c)) (lo := 0) (N := nD D r) ?_ ?_ 0 (by omega) (by omega)
    · rw [Int.add_zero] at K; exact K
    · refine rl_X12_steps_272 _ _ _ _ _ h2 h3 (rgb (by omega) (by omega)) (rgb (by omega) (by omega)) (by omega) (rgb (by omega) (by omega)) ⟨by omega, ?_⟩
      rw [mrow_c (by decide) (by decide), wr_id (z := 30 * r) (by omega) (by omega), wr_id (by omega) (by omega), if_pos (by omega)]; exact Kz
    · intro j j0 j1 ih
      refine rl_X12_steps_272 _ _ _ _ _ h2 h3 (rgb (by omega) (by omega)) (rgb (by omega) (by omega)) (by omega) (rgb (by omega) (by omega)) ⟨by omega, ?_⟩
      rw [mrow_c (k := 92) (by decide) (by decide), mrow_c (k := 94) (by decide) (by decide), mrow_c (k := 95) (by decide) (by decide), mrow_c (k := 96) (by decide) (by decide), mrow_c (k := 97) (by decide) (by decide), wr_id (z := 30 * r) (by omega) (by omega), wr_id (z := 30 * r + D 92 r) (by omega) (by omega), if_neg (by omega), wr_id (z := 30 * r + j + 1) (by omega) (by omega), Int.add_assoc]
      refine ⟨by omega, ?_⟩
      by_cases ck : D 94 (30 * r + j) = 6
      · have he := hed j j0 j1 ck
        have ef : D 95 (30 * r + j) = tfD D r j := rfl
        have et : D 97 (30 * r + j) = ttD D r j := rfl
        have ea : D 96 (30 * r + j) = taD D r j := rfl
        rw [if_pos ck, ef, et, ea]
        refine ⟨he.1, ?_⟩
        rw [mrow_i he.1.1 he.1.2, mrow_i he.2.1.1 he.2.1.2, mrow_s he.1.1 he.1.2, hz _ he.1.1 he.1.2, hz _ he.2.1.1 he.2.1.2, if_neg (by decide)]
        refine ⟨he.2.1, ?_⟩
        have hs := hsv (tfD D r j)
        rw [wr_id (z := (0 : Int) + 100000) (by omega) (by omega), wr_id (z := taD D r j - sv (tfD D r j)) (by omega) (by omega), wr_id (by omega) (by omega), if_neg (by omega)]
        exact ih
      · rw [if_neg ck]; exact ih
  | succ m ihm =>
    intro c hm hg hlo hhi
    -- one pass from j on; u: something has grown better
    have Kend : ∀ (c' : Int → Int) (u : Int), (u = 0 ∧ c' = c ∧ ∀ j, 0 ≤ j → j < nD D r → kdD D r j = 6 → c (ttD D r j) ≤ wext 100000 100000000 (c (tfD D r j)) (max 0 (taD D r j - sv (tfD D r j)))) ∨ (u = 1 ∧ ms6 c' < ms6 c) → rg6 c' → (∀ p, 0 ≤ p → p < 6 → V p ≤ c' p) → (∀ p, 0 ≤ p → p < 6 → c' p ≤ wT (kdD D r) (tfD D r) (ttD D r) (taD D r) sv (nD D r) 100000 100000000 0 p) → ∃ D', Sm D' D ∧ K_X12_steps_257 (n + 1) A (mrow D sv c') post w r u (fin6 V post w) D' := by
      intro c' u hu hg' hlo' hhi'
      rcases hu with ⟨rfl, rfl, hall⟩ | ⟨rfl, hlt⟩
      · refine ⟨mrow D sv c', mrow_sm, ?_⟩
        have hf := hfin c' hg' hlo' hhi' hall post hpo.1 hpo.2
        refine rl_X12_steps_257 _ _ _ _ h2 h3 (rgb (by omega) (by omega)) (rgb (by omega) (by omega)) (by omega) ?_
        rw [if_pos rfl, mrow_i hpo.1 hpo.2, hf]
        refine ⟨hpo, ?_⟩
        unfold fin6
        have hV := hV0 post
        rw [wr_id (z := (V post).tdiv 100000) (by rw [Int.tdiv_eq_ediv_of_nonneg hV.1]; omega) (by rw [Int.tdiv_eq_ediv_of_nonneg hV.1]; omega)]
        split
        · exact ⟨rfl, rfl⟩
        · split <;> exact ⟨rfl, rfl⟩
      · exact ihm c' (by omega) hg' hlo' hhi'
    have Kps := dn_ind (K := fun j => ∀ (c' : Int → Int) (u : Int), (u = 0 ∧ c' = c ∧ ∀ i, 0 ≤ i → i < j → kdD D r i = 6 → c (ttD D r i) ≤ wext 100000 100000000 (c (tfD D r i)) (max 0 (taD D r i - sv (tfD D r i)))) ∨ (u = 1 ∧ ms6 c' < ms6 c) → rg6 c' → (∀ p, 0 ≤ p → p < 6 → V p ≤ c' p) → (∀ p, 0 ≤ p → p < 6 → c' p ≤ wT (kdD D r) (tfD D r) (ttD D r) (taD D r) sv (nD D r) 100000 100000000 0 p) → ∃ D', Sm D' D ∧ K_X12_steps_272 (n + 1) A (mrow D sv c') post w r u (30 * r + j) (fin6 V post w) D') (lo := 0) (N := nD D r) ?_ ?_ 0 (by omega) (by omega)
    · obtain ⟨D', e1, e2⟩ := Kps c 0 (Or.inl ⟨rfl, rfl, fun i i0 i1 => by omega⟩) hg hlo hhi
      refine ⟨D', e1, ?_⟩
      refine rl_X12_steps_257 _ _ _ _ h2 h3 (rgb (by omega) (by omega)) (rgb (by omega) (by omega)) (by omega) ?_
      rw [if_neg (by decide), wr_id (by omega) (by omega)]
      rw [Int.add_zero] at e2; exact e2
    · intro c' u hu hg' hlo' hhi'
      obtain ⟨D', e1, e2⟩ := Kend c' u hu hg' hlo' hhi'
      refine ⟨D', e1, ?_⟩
      refine rl_X12_steps_272 _ _ _ _ _ h2 h3 (rgb (by omega) (by omega)) (rgb (by omega) (by omega)) (by omega) (rgb (by omega) (by omega)) ⟨by omega, ?_⟩
      rw [mrow_c (by decide) (by decide), wr_id (z := 30 * r) (by omega) (by omega), wr_id (by omega) (by omega), if_pos (by omega)]; exact e2
    · intro j j0 j1 ih c' u hu hg' hlo' hhi'
      -- what the rest asks for
      have pre : ∀ (c'' : Int → Int) (u' : Int) (D' : aD), (if D 94 (30 * r + j) = 6 then (0 ≤ tfD D r j ∧ tfD D r j < 6) ∧ (if c' (tfD D r j) = 100000000 then K_X12_steps_272 (n + 1) A (mrow D sv c') post w r u (30 * r + (j + 1)) (fin6 V post w) D' else (0 ≤ ttD D r j ∧ ttD D r j < 6) ∧ (if c' (tfD D r j) + 100000 + max 0 (taD D r j - sv (tfD D r j)) < c' (ttD D r j) then K_X12_steps_272 (n + 1) A (mrow D sv (fun q => if q = ttD D r j then c' (tfD D r j) + 100000 + max 0 (taD D r j - sv (tfD D r j)) else c' q)) post w r 1 (30 * r + (j + 1)) (fin6 V post w) D' else K_X12_steps_272 (n + 1) A (mrow D sv c') post w r u (30 * r + (j + 1)) (fin6 V post w) D')) else K_X12_steps_272 (n + 1) A (mrow D sv c') post w r u (30 * r + (j + 1)) (fin6 V post w) D') → K_X12_steps_272 (n + 1) A (mrow D sv c') post w r u (30 * r + j) (fin6 V post w) D' := by
        intro _ _ D' H
        refine rl_X12_steps_272 _ _ _ _ _ h2 h3 (rgb (by omega) (by omega)) (rgb (by omega) (by omega)) (by omega) (rgb (by omega) (by omega)) ⟨by omega, ?_⟩
        rw [mrow_c (k := 92) (by decide) (by decide), mrow_c (k := 94) (by decide) (by decide), mrow_c (k := 95) (by decide) (by decide), mrow_c (k := 96) (by decide) (by decide), mrow_c (k := 97) (by decide) (by decide), wr_id (z := 30 * r) (by omega) (by omega), wr_id (z := 30 * r + D 92 r) (by omega) (by omega), if_neg (by omega), wr_id (z := 30 * r + j + 1) (by omega) (by omega), Int.add_assoc]
        refine ⟨by omega, ?_⟩
        by_cases ck : D 94 (30 * r + j) = 6
        · rw [if_pos ck] at H ⊢
          have he := hed j j0 j1 ck
          have ef : D 95 (30 * r + j) = tfD D r j := rfl
          have et : D 97 (30 * r + j) = ttD D r j := rfl
          have ea : D 96 (30 * r + j) = taD D r j := rfl
          have hs := hsv (tfD D r j)
          have hcf := hg' (tfD D r j) he.1.1 he.1.2
          rw [ef, et, ea, mrow_i he.1.1 he.1.2, mrow_i he.2.1.1 he.2.1.2, mrow_s he.1.1 he.1.2, mrow_up he.2.1.1 he.2.1.2, wr_id (z := c' (tfD D r j) + 100000) (by omega) (by omega), wr_id (z := taD D r j - sv (tfD D r j)) (by omega) (by omega), wr_id (by omega) (by omega)]
          exact H
        · rw [if_neg ck] at H ⊢; exact H
      by_cases ck : D 94 (30 * r + j) = 6
      · have he := hed j j0 j1 ck
        have hs := hsv (tfD D r j)
        have hcf := hg' (tfD D r j) he.1.1 he.1.2
        have hct := hg' (ttD D r j) he.2.1.1 he.2.1.2
        -- stays as it is, and this step is done
        have same : (c' (tfD D r j) = 100000000 ∨ c' (ttD D r j) ≤ c' (tfD D r j) + 100000 + max 0 (taD D r j - sv (tfD D r j))) → ∃ D', Sm D' D ∧ K_X12_steps_272 (n + 1) A (mrow D sv c') post w r u (30 * r + (j + 1)) (fin6 V post w) D' := fun hd => by
          refine ih c' u ?_ hg' hlo' hhi'
          rcases hu with ⟨a1, a2, a3⟩ | a
          · refine Or.inl ⟨a1, a2, fun i i0 i1 hk => ?_⟩
            by_cases e : i = j
            · subst e
              rw [← a2]
              unfold wext
              rcases hd with z | z
              · rw [if_pos z]; omega
              · split <;> omega
            · exact a3 i i0 (by omega) hk
          · exact Or.inr a
        by_cases c1 : c' (tfD D r j) = 100000000
        · obtain ⟨D', e1, e2⟩ := same (Or.inl c1)
          refine ⟨D', e1, pre c' u D' ?_⟩
          rw [if_pos ck, if_pos c1]; exact ⟨he.1, e2⟩
        by_cases c2 : c' (tfD D r j) + 100000 + max 0 (taD D r j - sv (tfD D r j)) < c' (ttD D r j)
        · obtain ⟨D', e1, e2⟩ := ih (fun q => if q = ttD D r j then c' (tfD D r j) + 100000 + max 0 (taD D r j - sv (tfD D r j)) else c' q) 1 (Or.inr ⟨rfl, by
              have := ms6_lt hg' he.2.1.1 he.2.1.2 (v := c' (tfD D r j) + 100000 + max 0 (taD D r j - sv (tfD D r j))) (by omega) c2
              rcases hu with ⟨_, a2, _⟩ | ⟨_, a⟩
              · rw [a2] at this ⊢; exact this
              · omega⟩) (fun p p0 p1 => by
              by_cases e : p = ttD D r j
              · simp only [if_pos e]; omega
              · simp only [if_neg e]; exact hg' p p0 p1) (fun p p0 p1 => by
              by_cases e : p = ttD D r j
              · simp only [if_pos e]
                have hv := hVe j j0 j1 ck
                have hl := hlo' (tfD D r j) he.1.1 he.1.2
                have hV1 := hV0 (tfD D r j)
                unfold wext at hv
                rw [e]
                split at hv
                · omega
                · omega
              · simp only [if_neg e]; exact hlo' p p0 p1) (fun p p0 p1 => by
              by_cases e : p = ttD D r j
              · simp only [if_pos e]
                have := hhi' p p0 p1
                rw [e] at this ⊢; omega
              · simp only [if_neg e]; exact hhi' p p0 p1)
          refine ⟨D', e1, pre c' u D' ?_⟩
          rw [if_pos ck, if_neg c1, if_pos c2]; exact ⟨he.1, he.2.1, e2⟩
        · obtain ⟨D', e1, e2⟩ := same (Or.inr (by omega))
          refine ⟨D', e1, pre c' u D' ?_⟩
          rw [if_pos ck, if_neg c1, if_neg c2]; exact ⟨he.1, he.2.1, e2⟩
      · obtain ⟨D', e1, e2⟩ := ih c' u (by
          rcases hu with ⟨a1, a2, a3⟩ | a
          · refine Or.inl ⟨a1, a2, fun i i0 i1 hk => ?_⟩
            by_cases e : i = j
            · subst e; exact absurd hk ck
            · exact a3 i i0 (by omega) hk
          · exact Or.inr a) hg' hlo' hhi'
        refine ⟨D', e1, pre c' u D' ?_⟩
        rw [if_neg ck]; exact e2
end Lp6
end St6
