/-! The reference's steps. -/
section St6
variable {n : Nat} {A : aA} {D : aD}
def rg6 (c : Int → Int) : Prop := ∀ p, 0 ≤ p → p < 6 → 0 ≤ c p ∧ c p ≤ 100000000
def ms6 (c : Int → Int) : Nat := (c 0 + c 1 + c 2 + c 3 + c 4 + c 5).toNat
theorem ms6_lt {c : Int → Int} {q v : Int} (h : rg6 c) (q0 : 0 ≤ q) (q1 : q < 6) (v0 : 0 ≤ v) (hv : v < c q) : ms6 (fun p => if p = q then v else c p) < ms6 c := by
  have h0 := h 0 (by omega) (by omega)
  have h1 := h 1 (by omega) (by omega)
  have h2 := h 2 (by omega) (by omega)
  have h3 := h 3 (by omega) (by omega)
  have h4 := h 4 (by omega) (by omega)
  have h5 := h 5 (by omega) (by omega)
  unfold ms6
  rcases (by omega : q = 0 ∨ q = 1 ∨ q = 2 ∨ q = 3 ∨ q = 4 ∨ q = 5) with rfl | rfl | rfl | rfl | rfl | rfl <;> simp <;> omega
/-- two rows -/
def mrow (D : aD) (s c : Int → Int) : aD := row (row D 122 6 s) 123 6 c
theorem mrow_s {s c : Int → Int} {p : Int} (h0 : 0 ≤ p) (h1 : p < 6) : mrow D s c 122 p = s p := by unfold mrow; rw [row_c (by decide), row_i h0 h1]
theorem mrow_i {s c : Int → Int} {p : Int} (h0 : 0 ≤ p) (h1 : p < 6) : mrow D s c 123 p = c p := by unfold mrow; rw [row_i h0 h1]
theorem mrow_c {s c : Int → Int} {k : Nat} (h1 : k ≠ 122) (h2 : k ≠ 123) : mrow D s c k = D k := by unfold mrow; rw [row_c h2, row_c h1]
theorem mrow_up {s c : Int → Int} {p v : Int} (h0 : 0 ≤ p) (h1 : p < 6) : up (mrow D s c) 123 p v = mrow D s (fun q => if q = p then v else c q) := by unfold mrow; exact row_up h0 h1
theorem mrow_sm {s c : Int → Int} : Sm (mrow D s c) D := ((Sm.refl D).row rfl).row rfl
def fin6 (V : Int → Int) (post w : Int) : Int := if V post = 100000000 then -1 else if w = 0 then (V post).tdiv 100000 else (V post).tmod 100000
section Lp6
variable {sv : Int → Int} {r post w : Int}
/-- the rounds until nothing grows better -/
theorem K_st {V : Int → Int} (hI : Inv D) (h2 : rg post) (h3 : rg w) (hpo : 0 ≤ post ∧ post < 6) (hr : 0 ≤ r ∧ r < D 70 26) (hsv : ∀ p, 0 ≤ sv p ∧ sv p ≤ 1000)
    (hVe : ∀ j, 0 ≤ j → j < nD D r → kdD D r j = 6 → V (ttD D r j) ≤ wext 100000 100000000 (V (tfD D r j)) (max 0 (taD D r j - sv (tfD D r j))))
    (hV0 : ∀ p, 0 ≤ V p ∧ V p ≤ 100000000)
    (hfin : ∀ c : Int → Int, rg6 c → (∀ p, 0 ≤ p → p < 6 → V p ≤ c p) → (∀ p, 0 ≤ p → p < 6 → c p ≤ wT (kdD D r) (tfD D r) (ttD D r) (taD D r) sv (nD D r) 100000 100000000 0 p) → (∀ j, 0 ≤ j → j < nD D r → kdD D r j = 6 → c (ttD D r j) ≤ wext 100000 100000000 (c (tfD D r j)) (max 0 (taD D r j - sv (tfD D r j)))) → ∀ p, 0 ≤ p → p < 6 → c p = V p) :
    ∀ (m : Nat) (c : Int → Int), ms6 c ≤ m → rg6 c → (∀ p, 0 ≤ p → p < 6 → V p ≤ c p) → (∀ p, 0 ≤ p → p < 6 → c p ≤ wT (kdD D r) (tfD D r) (ttD D r) (taD D r) sv (nD D r) 100000 100000000 0 p) → ∃ D', Sm D' D ∧ K_X12_steps_257 (n + 1) A (mrow D sv c) post w r 1 (fin6 V post w) D' := by
  have hc := hI.rb.1
  have hN := nD_b hI (Or.inr hr)
  have hed := edD hI (Or.inr hr)
  have eN : nD D r = D 92 r := if_neg (by omega)
  intro m
  induction m with
  | zero =>
    -- all are 0: one pass, nothing grows better (shown as in the other case)
    intro c hm hg hlo hhi
    have hz : ∀ p, 0 ≤ p → p < 6 → c p = 0 := by
      have h0 := hg 0 (by omega) (by omega)
      have h1 := hg 1 (by omega) (by omega)
      have h2 := hg 2 (by omega) (by omega)
      have h3 := hg 3 (by omega) (by omega)
      have h4 := hg 4 (by omega) (by omega)
      have h5 := hg 5 (by omega) (by omega)
      unfold ms6 at hm
      intro p p0 p1
      rcases (by omega : p = 0 ∨ p = 1 ∨ p = 2 ∨ p = 3 ∨ p = 4 ∨ p = 5) with rfl | rfl | rfl | rfl | rfl | rfl <;> omega
    have hf := hfin c hg hlo hhi (fun j j0 j1 hk => by
      have he := hed j j0 j1 hk
      rw [hz _ he.2.1.1 he.2.1.2]
      unfold wext
      have := hg (tfD D r j) he.1.1 he.1.2
      split <;> omega) post hpo.1 hpo.2
    refine ⟨mrow D sv c, mrow_sm, ?_⟩
    have Kz : K_X12_steps_257 (n + 1) A (mrow D sv c) post w r 0 (fin6 V post w) (mrow D sv c) := by
      refine rl_X12_steps_257 _ _ _ _ h2 h3 (rgb (by omega) (by omega)) (rgb (by omega) (by omega)) (by omega) ?_
      rw [if_pos rfl, mrow_i hpo.1 hpo.2, hf]
      refine ⟨hpo, ?_⟩
      unfold fin6
      have hV := hV0 post
      rw [wr_id (z := (V post).tdiv 100000) (by rw [Int.tdiv_eq_ediv_of_nonneg hV.1]; omega) (by rw [Int.tdiv_eq_ediv_of_nonneg hV.1]; omega)]
      split
      · exact ⟨rfl, rfl⟩
      · split <;> exact ⟨rfl, rfl⟩
    refine rl_X12_steps_257 _ _ _ _ h2 h3 (rgb (by omega) (by omega)) (rgb (by omega) (by omega)) (by omega) ?_
    rw [if_neg (by decide), wr_id (by omega) (by omega)]
    have K := dn_ind (K := fun j => K_X12_steps_272 (n + 1) A (mrow D sv c) post w r 0 (30 * r + j) (fin6 V post w) (mrow D sv c)) (lo := 0) (N := nD D r) ?_ ?_ 0 (by omega) (by omega)
    · rw [Int.add_zero] at K; exact K
    · refine rl_X12_steps_272 _ _ _ _ _ h2 h3 (rgb (by omega) (by omega)) (rgb (by omega) (by omega)) (by omega) (rgb (by omega) (by omega)) ⟨by omega, ?_⟩
      rw [mrow_c (by decide) (by decide), wr_id (z := 30 * r) (by omega) (by omega), wr_id (by omega) (by omega), if_pos (by omega)]; exact Kz
    · intro j j0 j1 ih
      refine rl_X12_steps_272 _ _ _ _ _ h2 h3 (rgb (by omega) (by omega)) (rgb (by omega) (by omega)) (by omega) (rgb (by omega) (by omega)) ⟨by omega, ?_⟩
      rw [mrow_c (k := 92) (by decide) (by decide), mrow_c (k := 94) (by decide) (by decide), mrow_c (k := 95) (by decide) (by decide), mrow_c (k := 96) (by decide) (by decide), mrow_c (k := 97) (by decide) (by decide), wr_id (z := 30 * r) (by omega) (by omega), wr_id (z := 30 * r + D 92 r) (by omega) (by omega), if_neg (by omega), wr_id (z := 30 * r + j + 1) (by omega) (by omega), Int.add_assoc]
      refine ⟨by omega, ?_⟩
      by_cases ck : D 94 (30 * r + j) = 6
      · have he := hed j j0 j1 ck
        have ef : D 95 (30 * r + j) = tfD D r j := rfl
        have et : D 97 (30 * r + j) = ttD D r j := rfl
        have ea : D 96 (30 * r + j) = taD D r j := rfl
        rw [if_pos ck, ef, et, ea]
        refine ⟨he.1, ?_⟩
        rw [mrow_i he.1.1 he.1.2, mrow_i he.2.1.1 he.2.1.2, mrow_s he.1.1 he.1.2, hz _ he.1.1 he.1.2, hz _ he.2.1.1 he.2.1.2, if_neg (by decide)]
        refine ⟨he.2.1, ?_⟩
        have hs := hsv (tfD D r j)
        rw [wr_id (z := (0 : Int) + 100000) (by omega) (by omega), wr_id (z := taD D r j - sv (tfD D r j)) (by omega) (by omega), wr_id (by omega) (by omega), if_neg (by omega)]
        exact ih
      · rw [if_neg ck]; exact ih
  | succ m ihm =>
    intro c hm hg hlo hhi
    -- one pass from j on; u: something has grown better
    have Kend : ∀ (c' : Int → Int) (u : Int), (u = 0 ∧ c' = c ∧ ∀ j, 0 ≤ j → j < nD D r → kdD D r j = 6 → c (ttD D r j) ≤ wext 100000 100000000 (c (tfD D r j)) (max 0 (taD D r j - sv (tfD D r j)))) ∨ (u = 1 ∧ ms6 c' < ms6 c) → rg6 c' → (∀ p, 0 ≤ p → p < 6 → V p ≤ c' p) → (∀ p, 0 ≤ p → p < 6 → c' p ≤ wT (kdD D r) (tfD D r) (ttD D r) (taD D r) sv (nD D r) 100000 100000000 0 p) → ∃ D', Sm D' D ∧ K_X12_steps_257 (n + 1) A (mrow D sv c') post w r u (fin6 V post w) D' := by
      intro c' u hu hg' hlo' hhi'
      rcases hu with ⟨rfl, rfl, hall⟩ | ⟨rfl, hlt⟩
      · refine ⟨mrow D sv c', mrow_sm, ?_⟩
        have hf := hfin c' hg' hlo' hhi' hall post hpo.1 hpo.2
        refine rl_X12_steps_257 _ _ _ _ h2 h3 (rgb (by omega) (by omega)) (rgb (by omega) (by omega)) (by omega) ?_
        rw [if_pos rfl, mrow_i hpo.1 hpo.2, hf]
        refine ⟨hpo, ?_⟩
        unfold fin6
        have hV := hV0 post
        rw [wr_id (z := (V post).tdiv 100000) (by rw [Int.tdiv_eq_ediv_of_nonneg hV.1]; omega) (by rw [Int.tdiv_eq_ediv_of_nonneg hV.1]; omega)]
        split
        · exact ⟨rfl, rfl⟩
        · split <;> exact ⟨rfl, rfl⟩
      · exact ihm c' (by omega) hg' hlo' hhi'
    have Kps := dn_ind (K := fun j => ∀ (c' : Int → Int) (u : Int), (u = 0 ∧ c' = c ∧ ∀ i, 0 ≤ i → i < j → kdD D r i = 6 → c (ttD D r i) ≤ wext 100000 100000000 (c (tfD D r i)) (max 0 (taD D r i - sv (tfD D r i)))) ∨ (u = 1 ∧ ms6 c' < ms6 c) → rg6 c' → (∀ p, 0 ≤ p → p < 6 → V p ≤ c' p) → (∀ p, 0 ≤ p → p < 6 → c' p ≤ wT (kdD D r) (tfD D r) (ttD D r) (taD D r) sv (nD D r) 100000 100000000 0 p) → ∃ D', Sm D' D ∧ K_X12_steps_272 (n + 1) A (mrow D sv c') post w r u (30 * r + j) (fin6 V post w) D') (lo := 0) (N := nD D r) ?_ ?_ 0 (by omega) (by omega)
    · obtain ⟨D', e1, e2⟩ := Kps c 0 (Or.inl ⟨rfl, rfl, fun i i0 i1 => by omega⟩) hg hlo hhi
      refine ⟨D', e1, ?_⟩
      refine rl_X12_steps_257 _ _ _ _ h2 h3 (rgb (by omega) (by omega)) (rgb (by omega) (by omega)) (by omega) ?_
      rw [if_neg (by decide), wr_id (by omega) (by omega)]
      rw [Int.add_zero] at e2; exact e2
    · intro c' u hu hg' hlo' hhi'
      obtain ⟨D', e1, e2⟩ := Kend c' u hu hg' hlo' hhi'
      refine ⟨D', e1, ?_⟩
      refine rl_X12_steps_272 _ _ _ _ _ h2 h3 (rgb (by omega) (by omega)) (rgb (by omega) (by omega)) (by omega) (rgb (by omega) (by omega)) ⟨by omega, ?_⟩
      rw [mrow_c (by decide) (by decide), wr_id (z := 30 * r) (by omega) (by omega), wr_id (by omega) (by omega), if_pos (by omega)]; exact e2
    · intro j j0 j1 ih c' u hu hg' hlo' hhi'
      -- what the rest asks for
      have pre : ∀ (c'' : Int → Int) (u' : Int) (D' : aD), (if D 94 (30 * r + j) = 6 then (0 ≤ tfD D r j ∧ tfD D r j < 6) ∧ (if c' (tfD D r j) = 100000000 then K_X12_steps_272 (n + 1) A (mrow D sv c') post w r u (30 * r + (j + 1)) (fin6 V post w) D' else (0 ≤ ttD D r j ∧ ttD D r j < 6) ∧ (if c' (tfD D r j) + 100000 + max 0 (taD D r j - sv (tfD D r j)) < c' (ttD D r j) then K_X12_steps_272 (n + 1) A (mrow D sv (fun q => if q = ttD D r j then c' (tfD D r j) + 100000 + max 0 (taD D r j - sv (tfD D r j)) else c' q)) post w r 1 (30 * r + (j + 1)) (fin6 V post w) D' else K_X12_steps_272 (n + 1) A (mrow D sv c') post w r u (30 * r + (j + 1)) (fin6 V post w) D')) else K_X12_steps_272 (n + 1) A (mrow D sv c') post w r u (30 * r + (j + 1)) (fin6 V post w) D') → K_X12_steps_272 (n + 1) A (mrow D sv c') post w r u (30 * r + j) (fin6 V post w) D' := by
        intro _ _ D' H
        refine rl_X12_steps_272 _ _ _ _ _ h2 h3 (rgb (by omega) (by omega)) (rgb (by omega) (by omega)) (by omega) (rgb (by omega) (by omega)) ⟨by omega, ?_⟩
        rw [mrow_c (k := 92) (by decide) (by decide), mrow_c (k := 94) (by decide) (by decide), mrow_c (k := 95) (by decide) (by decide), mrow_c (k := 96) (by decide) (by decide), mrow_c (k := 97) (by decide) (by decide), wr_id (z := 30 * r) (by omega) (by omega), wr_id (z := 30 * r + D 92 r) (by omega) (by omega), if_neg (by omega), wr_id (z := 30 * r + j + 1) (by omega) (by omega), Int.add_assoc]
        refine ⟨by omega, ?_⟩
        by_cases ck : D 94 (30 * r + j) = 6
        · rw [if_pos ck] at H ⊢
          have he := hed j j0 j1 ck
          have ef : D 95 (30 * r + j) = tfD D r j := rfl
          have et : D 97 (30 * r + j) = ttD D r j := rfl
          have ea : D 96 (30 * r + j) = taD D r j := rfl
          have hs := hsv (tfD D r j)
          have hcf := hg' (tfD D r j) he.1.1 he.1.2
          rw [ef, et, ea, mrow_i he.1.1 he.1.2, mrow_i he.2.1.1 he.2.1.2, mrow_s he.1.1 he.1.2, mrow_up he.2.1.1 he.2.1.2, wr_id (z := c' (tfD D r j) + 100000) (by omega) (by omega), wr_id (z := taD D r j - sv (tfD D r j)) (by omega) (by omega), wr_id (by omega) (by omega)]
          exact H
        · rw [if_neg ck] at H ⊢; exact H
      by_cases ck : D 94 (30 * r + j) = 6
      · have he := hed j j0 j1 ck
        have hs := hsv (tfD D r j)
        have hcf := hg' (tfD D r j) he.1.1 he.1.2
        have hct := hg' (ttD D r j) he.2.1.1 he.2.1.2
        -- stays as it is, and this step is done
        have same : (c' (tfD D r j) = 100000000 ∨ c' (ttD D r j) ≤ c' (tfD D r j) + 100000 + max 0 (taD D r j - sv (tfD D r j))) → ∃ D', Sm D' D ∧ K_X12_steps_272 (n + 1) A (mrow D sv c') post w r u (30 * r + (j + 1)) (fin6 V post w) D' := fun hd => by
          refine ih c' u ?_ hg' hlo' hhi'
          rcases hu with ⟨a1, a2, a3⟩ | a
          · refine Or.inl ⟨a1, a2, fun i i0 i1 hk => ?_⟩
            by_cases e : i = j
            · subst e
              rw [← a2]
              unfold wext
              rcases hd with z | z
              · rw [if_pos z]; omega
              · split <;> omega
            · exact a3 i i0 (by omega) hk
          · exact Or.inr a
        by_cases c1 : c' (tfD D r j) = 100000000
        · obtain ⟨D', e1, e2⟩ := same (Or.inl c1)
          refine ⟨D', e1, pre c' u D' ?_⟩
          rw [if_pos ck, if_pos c1]; exact ⟨he.1, e2⟩
        by_cases c2 : c' (tfD D r j) + 100000 + max 0 (taD D r j - sv (tfD D r j)) < c' (ttD D r j)
        · obtain ⟨D', e1, e2⟩ := ih (fun q => if q = ttD D r j then c' (tfD D r j) + 100000 + max 0 (taD D r j - sv (tfD D r j)) else c' q) 1 (Or.inr ⟨rfl, by
              have := ms6_lt hg' he.2.1.1 he.2.1.2 (v := c' (tfD D r j) + 100000 + max 0 (taD D r j - sv (tfD D r j))) (by omega) c2
              rcases hu with ⟨_, a2, _⟩ | ⟨_, a⟩
              · rw [a2] at this ⊢; exact this
              · omega⟩) (fun p p0 p1 => by
              by_cases e : p = ttD D r j
              · simp only [if_pos e]; omega
              · simp only [if_neg e]; exact hg' p p0 p1) (fun p p0 p1 => by
              by_cases e : p = ttD D r j
              · simp only [if_pos e]
                have hv := hVe j j0 j1 ck
                have hl := hlo' (tfD D r j) he.1.1 he.1.2
                have hV1 := hV0 (tfD D r j)
                unfold wext at hv
                rw [e]
                split at hv
                · omega
                · omega
              · simp only [if_neg e]; exact hlo' p p0 p1) (fun p p0 p1 => by
              by_cases e : p = ttD D r j
              · simp only [if_pos e]
                have := hhi' p p0 p1
                rw [e] at this ⊢; omega
              · simp only [if_neg e]; exact hhi' p p0 p1)
          refine ⟨D', e1, pre c' u D' ?_⟩
          rw [if_pos ck, if_neg c1, if_pos c2]; exact ⟨he.1, he.2.1, e2⟩
        · obtain ⟨D', e1, e2⟩ := same (Or.inr (by omega))
          refine ⟨D', e1, pre c' u D' ?_⟩
          rw [if_pos ck, if_neg c1, if_neg c2]; exact ⟨he.1, he.2.1, e2⟩
      · obtain ⟨D', e1, e2⟩ := ih c' u (by
          rcases hu with ⟨a1, a2, a3⟩ | a
          · refine Or.inl ⟨a1, a2, fun i i0 i1 hk => ?_⟩
            by_cases e : i = j
            · subst e; exact absurd hk ck
            · exact a3 i i0 (by omega) hk
          · exact Or.inr a) hg' hlo' hhi'
        refine ⟨D', e1, pre c' u D' ?_⟩
        rw [if_neg ck]; exact e2
end Lp6
/-- the least ways of a servant, on the reference's scale -/
noncomputable def wV (D : aD) (s : Int) : Int → Int := wT (kdD D (w_inForce D (D 70 0))) (tfD D (w_inForce D (D 70 0))) (ttD D (w_inForce D (D 70 0))) (taD D (w_inForce D (D 70 0))) (sc6 (w_served D s (D 70 0))) (nD D (w_inForce D (D 70 0))) 100000 100000000 5
theorem fix_V (kd tf tt ta sv : Int → Int) (N : Int) (hN : 0 ≤ N) (hed : ∀ j, 0 ≤ j → j < N → kd j = 6 → (0 ≤ tf j ∧ tf j < 6) ∧ (0 ≤ tt j ∧ tt j < 6) ∧ 0 ≤ ta j ∧ ta j ≤ 9999) (c : Int → Int) (hg : rg6 c) (hlo : ∀ p, 0 ≤ p → p < 6 → wT kd tf tt ta sv N 100000 100000000 5 p ≤ c p) (hhi : ∀ p, 0 ≤ p → p < 6 → c p ≤ wT kd tf tt ta sv N 100000 100000000 0 p) (hall : ∀ j, 0 ≤ j → j < N → kd j = 6 → c (tt j) ≤ wext 100000 100000000 (c (tf j)) (max 0 (ta j - sv (tf j)))) : ∀ p, 0 ≤ p → p < 6 → c p = wT kd tf tt ta sv N 100000 100000000 5 p := by
  have key : ∀ (r : Nat) (p : Int), 0 ≤ p → p < 6 → c p ≤ wT kd tf tt ta sv N 100000 100000000 r p := by
    intro r
    induction r with
    | zero => exact hhi
    | succ r ih =>
      intro p p0 p1
      rcases wT_at kd tf tt ta sv N 100000 100000000 r p hN with e | ⟨j, j0, j1, j2, j3, e⟩
      · rw [e]; exact ih p p0 p1
      · rw [e]
        have he := hed j j0 j1 j2
        have h1 := hall j j0 j1 j2
        rw [j3] at h1
        have h2 := ih (tf j) he.1.1 he.1.2
        have h3 := hg p p0 p1
        have h4 := wT_I kd tf tt ta sv N 100000 100000000 hN (by decide) r (tf j)
        unfold wext at h1 ⊢
        by_cases c1 : wT kd tf tt ta sv N 100000 100000000 r (tf j) = 100000000
        · rw [if_pos c1]; omega
        · rw [if_neg c1]
          rw [if_neg (by omega)] at h1
          omega
  intro p p0 p1
  have h1 := key 5 p p0 p1
  have h2 := hlo p p0 p1
  omega
theorem served_b {s k : Int} (hk : 0 ≤ k ∧ k ≤ 999) (p : Int) : 0 ≤ w_served D s k p ∧ w_served D s k p ≤ 1000 := by
  have := cf_b (P := svP D s k p) (k + 1) (by omega)
  unfold w_served; omega
def c06 (sv : Int → Int) (p : Int) : Int := if sv p ≤ 0 then 100000000 else 0
def mk6 (kd tf tt ta sv : Int → Int) (c : Int → Int) (j : Int) : Int → Int := if kd j = 6 ∧ ta j ≤ sv (tf j) then (fun q => if q = tt j then 0 else c q) else c
theorem mk6_T (kd tf tt ta sv : Int → Int) (N : Int) (hN : 0 ≤ N) (p : Int) : foi (mk6 kd tf tt ta sv) (c06 sv) N p = wT kd tf tt ta sv N 100000 100000000 0 p := by
  have key := foi_ind (f := mk6 kd tf tt ta sv) (b := c06 sv) (Q := fun j x => (∃ i, 0 ≤ i ∧ i < j ∧ kd i = 6 ∧ tt i = p ∧ ta i ≤ sv (tf i)) ∧ x p = 0 ∨ (¬ ∃ i, 0 ≤ i ∧ i < j ∧ kd i = 6 ∧ tt i = p ∧ ta i ≤ sv (tf i)) ∧ x p = c06 sv p) (Or.inr ⟨fun ⟨i, a, b, _⟩ => by omega, rfl⟩) (N := N) (fun j x j0 j1 q => by
    unfold mk6
    by_cases c : kd j = 6 ∧ ta j ≤ sv (tf j)
    · rw [if_pos c]
      by_cases c2 : p = tt j
      · refine Or.inl ⟨⟨j, j0, by omega, c.1, c2.symm, c.2⟩, if_pos c2⟩
      · have e : (fun q => if q = tt j then 0 else x q) p = x p := if_neg c2
        rcases q with ⟨⟨i, a1, a2, a3⟩, b⟩ | ⟨a, b⟩
        · exact Or.inl ⟨⟨i, a1, by omega, a3⟩, e.trans b⟩
        · refine Or.inr ⟨fun ⟨i, a1, a2, a3, a4, a5⟩ => ?_, e.trans b⟩
          by_cases z : i = j
          · subst z; exact c2 a4.symm
          · exact a ⟨i, a1, by omega, a3, a4, a5⟩
    · rw [if_neg c]
      rcases q with ⟨⟨i, a1, a2, a3⟩, b⟩ | ⟨a, b⟩
      · exact Or.inl ⟨⟨i, a1, by omega, a3⟩, b⟩
      · refine Or.inr ⟨fun ⟨i, a1, a2, a3, a4, a5⟩ => ?_, b⟩
        by_cases z : i = j
        · subst z; exact c ⟨a3, a5⟩
        · exact a ⟨i, a1, by omega, a3, a4, a5⟩) N hN (Int.le_refl _)
  unfold wT
  rcases key with ⟨a, b⟩ | ⟨a, b⟩
  · rw [b]; exact (@if_pos _ (Classical.propDecidable _) (Or.inr a) _ _ _).symm
  · rw [b]
    unfold c06
    by_cases c : sv p ≤ 0
    · rw [if_pos c]; exact (@if_neg _ (Classical.propDecidable _) (fun z => z.elim (fun z => by omega) a) _ _ _).symm
    · rw [if_neg c]; exact (@if_pos _ (Classical.propDecidable _) (Or.inl (by omega)) _ _ _).symm
theorem mk6_rg (kd tf tt ta sv : Int → Int) {N : Int} : ∀ j, 0 ≤ j → j ≤ N → rg6 (foi (mk6 kd tf tt ta sv) (c06 sv) j) := by
  refine foi_ind (f := mk6 kd tf tt ta sv) (b := c06 sv) (Q := fun j x => rg6 x) (fun p p0 p1 => by unfold c06; split <;> omega) (fun j x j0 j1 q p p0 p1 => ?_)
  unfold mk6
  split
  · show 0 ≤ (if p = tt j then 0 else x p) ∧ (if p = tt j then 0 else x p) ≤ _
    have := q p p0 p1
    split <;> omega
  · exact q p p0 p1
theorem ev_stM (hI : Inv D) (s post w : Int) (h1 : rg s) (h2 : rg post) (h3 : rg w) : ∃ D', Sm D' D ∧ Ev (n + 1) 3 198 [am_r (some 70), am_i (wz s), am_i (wz post), am_i (wz w)] A D (ri (if v_X12_isServant D s = 0 then -1 else if v_X12_isIn D post 0 5 = 0 then -1 else if v_X12_isIn D w 0 1 = 0 then -1 else fin6 (wV D s) post w)) A D' := by
  have hc := hI.iv.ct; unfold I_ct at hc
  have hcr := hI.rb.1
  by_cases c1 : v_X12_isServant D s = 0
  · exact ⟨D, Sm.refl D, rl_X12_steps s post w h1 h2 h3 (by rw [if_pos c1, if_pos c1]; exact ⟨rfl, rfl⟩)⟩
  by_cases c2 : v_X12_isIn D post 0 5 = 0
  · exact ⟨D, Sm.refl D, rl_X12_steps s post w h1 h2 h3 (by rw [if_neg c1, if_neg c1, if_pos c2, if_pos c2]; exact ⟨rfl, rfl⟩)⟩
  by_cases c3 : v_X12_isIn D w 0 1 = 0
  · exact ⟨D, Sm.refl D, rl_X12_steps s post w h1 h2 h3 (by rw [if_neg c1, if_neg c1, if_neg c2, if_neg c2, if_pos c3, if_pos c3]; exact ⟨rfl, rfl⟩)⟩
  have hpo := isI.mp c2
  have hb := inForce_b (D := D) (d := D 70 0)
  have hrr : w_inForce D (D 70 0) = -1 ∨ (0 ≤ w_inForce D (D 70 0) ∧ w_inForce D (D 70 0) < D 70 26) := by omega
  have hN := nD_b hI hrr
  have hed := edD hI hrr
  have hsb := served_b (D := D) (s := s) (k := D 70 0) (by omega)
  have hsv : ∀ p, 0 ≤ sc6 (w_served D s (D 70 0)) p ∧ sc6 (w_served D s (D 70 0)) p ≤ 1000 := sc6_b (fun p _ _ => hsb p)
  have h0 := wT_0 (kdD D (w_inForce D (D 70 0))) (tfD D (w_inForce D (D 70 0))) (ttD D (w_inForce D (D 70 0))) (taD D (w_inForce D (D 70 0))) (sc6 (w_served D s (D 70 0))) (nD D (w_inForce D (D 70 0))) 100000 100000000 hN.1 (by decide) (by decide)
  have hIm := wT_I (kdD D (w_inForce D (D 70 0))) (tfD D (w_inForce D (D 70 0))) (ttD D (w_inForce D (D 70 0))) (taD D (w_inForce D (D 70 0))) (sc6 (w_served D s (D 70 0))) (nD D (w_inForce D (D 70 0))) 100000 100000000 hN.1 (by decide)
  have hmono := fun p => wT_mono (kdD D (w_inForce D (D 70 0))) (tfD D (w_inForce D (D 70 0))) (ttD D (w_inForce D (D 70 0))) (taD D (w_inForce D (D 70 0))) (sc6 (w_served D s (D 70 0))) (nD D (w_inForce D (D 70 0))) 100000 100000000 hN.1 p (Nat.zero_le 5)
  have hVe := wV_lo (kdD D (w_inForce D (D 70 0))) (tfD D (w_inForce D (D 70 0))) (ttD D (w_inForce D (D 70 0))) (taD D (w_inForce D (D 70 0))) (sc6 (w_served D s (D 70 0))) (nD D (w_inForce D (D 70 0))) 100000 100000000 hN.1 (by decide) (by decide) (fun j a b c => (hed j a b c).1) (fun j a b c => (hed j a b c).2.1)
  have hfx := fix_V (kdD D (w_inForce D (D 70 0))) (tfD D (w_inForce D (D 70 0))) (ttD D (w_inForce D (D 70 0))) (taD D (w_inForce D (D 70 0))) (sc6 (w_served D s (D 70 0))) (nD D (w_inForce D (D 70 0))) hN.1 hed
  have hmT := mk6_T (kdD D (w_inForce D (D 70 0))) (tfD D (w_inForce D (D 70 0))) (ttD D (w_inForce D (D 70 0))) (taD D (w_inForce D (D 70 0))) (sc6 (w_served D s (D 70 0))) (nD D (w_inForce D (D 70 0))) hN.1
  have hmr := mk6_rg (kdD D (w_inForce D (D 70 0))) (tfD D (w_inForce D (D 70 0))) (ttD D (w_inForce D (D 70 0))) (taD D (w_inForce D (D 70 0))) (sc6 (w_served D s (D 70 0))) (N := nD D (w_inForce D (D 70 0)))
  have eV : wV D s = wT (kdD D (w_inForce D (D 70 0))) (tfD D (w_inForce D (D 70 0))) (ttD D (w_inForce D (D 70 0))) (taD D (w_inForce D (D 70 0))) (sc6 (w_served D s (D 70 0))) (nD D (w_inForce D (D 70 0))) 100000 100000000 5 := rfl
  have eif : ∀ F : aD, F 93 = D 93 → F 70 = D 70 → w_inForce F (F 70 0) = w_inForce D (D 70 0) := fun F a b => by unfold w_inForce; rw [a, b]
  -- after the marks
  have K257 : ∃ D', Sm D' D ∧ (if w_inForce D (D 70 0) = -1 then K_X12_steps_257 (n + 1) A (mrow D (sc6 (w_served D s (D 70 0))) (foi (mk6 (kdD D (w_inForce D (D 70 0))) (tfD D (w_inForce D (D 70 0))) (ttD D (w_inForce D (D 70 0))) (taD D (w_inForce D (D 70 0))) (sc6 (w_served D s (D 70 0)))) (c06 (sc6 (w_served D s (D 70 0)))) (nD D (w_inForce D (D 70 0))))) post w (w_inForce D (D 70 0)) 0 (fin6 (wV D s) post w) D' else K_X12_steps_257 (n + 1) A (mrow D (sc6 (w_served D s (D 70 0))) (foi (mk6 (kdD D (w_inForce D (D 70 0))) (tfD D (w_inForce D (D 70 0))) (ttD D (w_inForce D (D 70 0))) (taD D (w_inForce D (D 70 0))) (sc6 (w_served D s (D 70 0)))) (c06 (sc6 (w_served D s (D 70 0)))) (nD D (w_inForce D (D 70 0))))) post w (w_inForce D (D 70 0)) 1 (fin6 (wV D s) post w) D') := by
    rw [eV]
    generalize hr' : w_inForce D (D 70 0) = r at *
    have hmr' := hmr (nD D r) hN.1 (Int.le_refl _)
    by_cases cr : r = -1
    · refine ⟨mrow D (sc6 (w_served D s (D 70 0))) (foi (mk6 (kdD D r) (tfD D r) (ttD D r) (taD D r) (sc6 (w_served D s (D 70 0)))) (c06 (sc6 (w_served D s (D 70 0)))) (nD D r)), mrow_sm, ?_⟩
      rw [if_pos cr]
      refine rl_X12_steps_257 _ _ _ _ h2 h3 (rgb (by omega) (by omega)) (rgb (by omega) (by omega)) (by omega) ?_
      rw [if_pos rfl, mrow_i hpo.1 (by omega), hmT]
      refine ⟨by omega, ?_⟩
      have e05 : wT (kdD D r) (tfD D r) (ttD D r) (taD D r) (sc6 (w_served D s (D 70 0))) (nD D r) 100000 100000000 0 post = wT (kdD D r) (tfD D r) (ttD D r) (taD D r) (sc6 (w_served D s (D 70 0))) (nD D r) 100000 100000000 5 post := by
        have en : nD D r = 0 := if_pos cr
        have e1 : ∀ m, wT (kdD D r) (tfD D r) (ttD D r) (taD D r) (sc6 (w_served D s (D 70 0))) (nD D r) 100000 100000000 (m + 1) post = wT (kdD D r) (tfD D r) (ttD D r) (taD D r) (sc6 (w_served D s (D 70 0))) (nD D r) 100000 100000000 m post := fun m => by
          rcases wT_at (kdD D r) (tfD D r) (ttD D r) (taD D r) (sc6 (w_served D s (D 70 0))) (nD D r) 100000 100000000 m post hN.1 with e | ⟨j, a, b, _⟩
          · exact e
          · omega
        rw [e1 4, e1 3, e1 2, e1 1, e1 0]
      rw [e05]
      unfold fin6
      have hV := h0 5 post
      have hV2 := hIm 5 post
      rw [wr_id (z := (wT (kdD D r) (tfD D r) (ttD D r) (taD D r) (sc6 (w_served D s (D 70 0))) (nD D r) 100000 100000000 5 post).tdiv 100000) (by rw [Int.tdiv_eq_ediv_of_nonneg hV]; omega) (by rw [Int.tdiv_eq_ediv_of_nonneg hV]; omega)]
      split
      · exact ⟨rfl, rfl⟩
      · split <;> exact ⟨rfl, rfl⟩
    · obtain ⟨D', e1, e2⟩ := K_st (n := n) (A := A) hI h2 h3 (by omega) (by omega) hsv hVe (fun p => ⟨h0 5 p, hIm 5 p⟩) hfx _ (foi (mk6 (kdD D r) (tfD D r) (ttD D r) (taD D r) (sc6 (w_served D s (D 70 0)))) (c06 (sc6 (w_served D s (D 70 0)))) (nD D r)) (Nat.le_refl _) hmr' (fun p p0 p1 => by rw [hmT]; exact hmono p) (fun p p0 p1 => by rw [hmT]; exact Int.le_refl _)
      refine ⟨D', e1, ?_⟩
      rw [if_neg cr]; exact e2
  obtain ⟨D', hSm, K257⟩ := K257
  refine ⟨D', hSm, ?_⟩
  refine rl_X12_steps s post w h1 h2 h3 ?_
  rw [if_neg c1, if_neg c1, if_neg c2, if_neg c2, if_neg c3, if_neg c3]
  -- marks
  have K167 : K_X12_steps_167 (n + 1) A (mrow D (sc6 (w_served D s (D 70 0))) (c06 (sc6 (w_served D s (D 70 0))))) post w (w_inForce D (D 70 0)) (30 * w_inForce D (D 70 0)) (fin6 (wV D s) post w) D' := by
    generalize w_inForce D (D 70 0) = r at *
    generalize fin6 (wV D s) post w = x at *
    have K := dn_ind (K := fun j => K_X12_steps_167 (n + 1) A (mrow D (sc6 (w_served D s (D 70 0))) (foi (mk6 (kdD D r) (tfD D r) (ttD D r) (taD D r) (sc6 (w_served D s (D 70 0)))) (c06 (sc6 (w_served D s (D 70 0)))) j)) post w r (30 * r + j) x D') (lo := 0) (N := nD D r) ?_ ?_ 0 (by omega) (by omega)
    · rw [Int.add_zero] at K; exact K
    · refine rl_X12_steps_167 _ _ _ _ h2 h3 (rgb (by omega) (by omega)) (rgb (by omega) (by omega)) ?_
      by_cases cr : r = -1
      · rw [if_pos cr] at K257 ⊢; rw [if_pos cr]; exact K257
      · rw [if_neg cr] at K257
        have en : nD D r = D 92 r := if_neg cr
        rw [if_neg cr, mrow_c (by decide) (by decide), wr_id (z := 30 * r) (by omega) (by omega), wr_id (by omega) (by omega), if_pos (by omega), if_neg cr]
        exact ⟨by omega, K257⟩
    · intro j j0 j1 ih
      have cr : ¬ r = -1 := fun z => by rw [show nD D r = 0 from if_pos z] at j1; omega
      have en : nD D r = D 92 r := if_neg cr
      rw [foi_s j0] at ih
      generalize foi (mk6 (kdD D r) (tfD D r) (ttD D r) (taD D r) (sc6 (w_served D s (D 70 0)))) (c06 (sc6 (w_served D s (D 70 0)))) j = c at *
      refine rl_X12_steps_167 _ _ _ _ h2 h3 (rgb (by omega) (by omega)) (rgb (by omega) (by omega)) ?_
      rw [if_neg cr, mrow_c (k := 92) (by decide) (by decide), mrow_c (k := 94) (by decide) (by decide), mrow_c (k := 95) (by decide) (by decide), mrow_c (k := 96) (by decide) (by decide), mrow_c (k := 97) (by decide) (by decide), wr_id (z := 30 * r) (by omega) (by omega), wr_id (z := 30 * r + D 92 r) (by omega) (by omega), if_neg (by omega), wr_id (z := 30 * r + j + 1) (by omega) (by omega), Int.add_assoc]
      refine ⟨by omega, by omega, ?_⟩
      unfold mk6 at ih
      by_cases ck : D 94 (30 * r + j) = 6
      · have he := hed j j0 j1 ck
        have ef : D 95 (30 * r + j) = tfD D r j := rfl
        have et : D 97 (30 * r + j) = ttD D r j := rfl
        have ea : D 96 (30 * r + j) = taD D r j := rfl
        rw [if_pos ck, ef, et, ea, mrow_s he.1.1 he.1.2, mrow_up he.2.1.1 he.2.1.2]
        refine ⟨he.1, ?_⟩
        by_cases ca : taD D r j ≤ sc6 (w_served D s (D 70 0)) (tfD D r j)
        · rw [if_pos ⟨ck, ca⟩] at ih; rw [if_neg (by omega)]; exact ⟨he.2.1, ih⟩
        · rw [if_neg (fun z => ca z.2)] at ih; rw [if_pos (by omega)]; exact ih
      · rw [if_neg (fun z => ck z.1)] at ih; rw [if_neg ck]; exact ih
  -- costs
  have K123 : ∀ c9 : Int → Int, K_X12_steps_123 (n + 1) A (mrow D (sc6 (w_served D s (D 70 0))) c9) post w (w_inForce D (D 70 0)) 0 (fin6 (wV D s) post w) D' := by
    intro c9
    have K := dn_ind (K := fun j => K_X12_steps_123 (n + 1) A (mrow D (sc6 (w_served D s (D 70 0))) (fun q => if q < j then c06 (sc6 (w_served D s (D 70 0))) q else c9 q)) post w (w_inForce D (D 70 0)) j (fin6 (wV D s) post w) D') (lo := 0) (N := 6) ?_ ?_ 0 (by omega) (by omega)
    · have e : mrow D (sc6 (w_served D s (D 70 0))) (fun q => if q < 0 then c06 (sc6 (w_served D s (D 70 0))) q else c9 q) = mrow D (sc6 (w_served D s (D 70 0))) c9 := row_cg (fun i i0 i1 => if_neg (by omega))
      rw [e] at K; exact K
    · refine rl_X12_steps_123 _ _ _ _ h2 h3 (rgb (by omega) (by omega)) (rgb (by omega) (by omega)) ?_
      have e : mrow D (sc6 (w_served D s (D 70 0))) (fun q => if q < 6 then c06 (sc6 (w_served D s (D 70 0))) q else c9 q) = mrow D (sc6 (w_served D s (D 70 0))) (c06 (sc6 (w_served D s (D 70 0)))) := row_cg (fun i i0 i1 => if_pos (by omega))
      rw [if_pos (by decide), e, wr_id (by omega) (by omega)]; exact K167
    · intro j j0 j1 ih
      refine rl_X12_steps_123 _ _ _ _ h2 h3 (rgb (by omega) (by omega)) (rgb (by omega) (by omega)) ?_
      rw [if_neg (by omega), wr1 j0 j1 (by omega), mrow_s j0 j1, mrow_up j0 j1, mrow_up j0 j1]
      have ex : ∀ v, v = c06 (sc6 (w_served D s (D 70 0))) j → mrow D (sc6 (w_served D s (D 70 0))) (fun q => if q = j then v else if q < j then c06 (sc6 (w_served D s (D 70 0))) q else c9 q) = mrow D (sc6 (w_served D s (D 70 0))) (fun q => if q < j + 1 then c06 (sc6 (w_served D s (D 70 0))) q else c9 q) := fun v hv => row_cg (fun i i0 i1 => by
        by_cases d1 : i = j
        · rw [if_pos d1, if_pos (by omega), hv, d1]
        · rw [if_neg d1]
          by_cases d2 : i < j
          · rw [if_pos d2, if_pos (by omega)]
          · rw [if_neg d2, if_neg (by omega)])
      refine ⟨by omega, ?_⟩
      by_cases d : sc6 (w_served D s (D 70 0)) j ≤ 0
      · rw [if_pos d, ex _ (if_pos d).symm]; exact ih
      · rw [if_neg d, ex _ (if_neg d).symm]; exact ih
  -- days
  have hrow : ∀ g, Sm (row D 122 6 g) D := fun g => (Sm.refl D).row rfl
  have K55 : K_X12_steps_55 (n + 1) A (row D 122 6 (fun _ => 0)) s post w 0 (fin6 (wV D s) post w) D' := by
    refine dn_ind (K := fun d => K_X12_steps_55 (n + 1) A (row D 122 6 (fun p => cf (svP D s (D 70 0) p) d)) s post w d (fin6 (wV D s) post w) D') (lo := 0) (N := D 70 0 + 1) ?_ ?_ 0 (Int.le_refl _) (by omega)
    · refine rl_X12_steps_55 _ _ _ _ h1 h2 h3 (rgb (by omega) (by omega)) ?_
      rw [row_c (c := 70) (by decide), if_pos (by omega), if_cg (hrow _)]
      refine ⟨Irb_cg (hrow _) hI.rb, ?_⟩
      have e : row D 122 6 (fun p => cf (svP D s (D 70 0) p) (D 70 0 + 1)) = mrow D (sc6 (w_served D s (D 70 0))) (row D 122 6 (fun p => cf (svP D s (D 70 0) p) (D 70 0 + 1)) 123) := by
        unfold mrow
        have e1 : row D 122 6 (sc6 (w_served D s (D 70 0))) = row D 122 6 (fun p => cf (svP D s (D 70 0) p) (D 70 0 + 1)) := row_cg (fun i i0 i1 => if_pos ⟨i0, by omega⟩)
        rw [e1]; exact row_self.symm
      rw [e]; exact K123 _
    · intro d d0 d1 ih
      have hm := hrow (fun p => cf (svP D s (D 70 0) p) d)
      have hpi : p_inOf D s d (D 70 0) := ⟨hI.iv, by omega, by omega⟩
      have hw := inOf_b (D := D) (s := s) (d := d) (k := D 70 0) (by omega)
      refine rl_X12_steps_55 _ _ _ _ h1 h2 h3 (rgb (by omega) (by omega)) ?_
      rw [row_c (c := 70) (by decide), row_c (c := 84) (by decide), row_c (c := 78) (by decide), if_neg (by omega), in_cg hm, wr_id (z := d + 1) (by omega) (by omega)]
      refine ⟨pin_cg hm hpi, ?_⟩
      by_cases z : w_inOf D s d (D 70 0) = -1
      · rw [if_pos z]
        have e2 : (fun p => cf (svP D s (D 70 0) p) (d + 1)) = (fun p => cf (svP D s (D 70 0) p) d) := by
          funext p; exact cf_f d0 (by unfold svP; exact decide_eq_false (by omega))
        rw [e2] at ih; exact ih
      · rw [if_neg z]
        have hg := hI.iv.pg (w_inOf D s d (D 70 0)) (by omega) (by omega)
        have hl := hI.iv.pl (D 84 (w_inOf D s d (D 70 0))) (by omega) (by omega)
        have hb := cf_b (P := svP D s (D 70 0) (D 78 (D 84 (w_inOf D s d (D 70 0))))) d d0
        refine ⟨by omega, by omega, by omega, ?_⟩
        rw [row_i (by omega) (by omega), row_up (by omega) (by omega), wr_id (by omega) (by omega)]
        refine Eq.mp ?_ ih
        congr 2
        funext p
        by_cases c2 : p = D 78 (D 84 (w_inOf D s d (D 70 0)))
        · rw [if_pos c2, c2, cf_t d0 (by unfold svP; exact decide_eq_true ⟨by omega, rfl⟩)]
        · rw [if_neg c2, cf_f d0 (by unfold svP; exact decide_eq_false (fun q => c2 q.2.symm))]
  -- zeros
  have K := dn_ind (K := fun j => K_X12_steps_31 (n + 1) A (row D 122 6 (fun q => if q < j then 0 else D 122 q)) s post w j (fin6 (wV D s) post w) D') (lo := 0) (N := 6) ?_ ?_ 0 (by omega) (by omega)
  · have e : row D 122 6 (fun q => if q < 0 then 0 else D 122 q) = D := (row_cg (fun i i0 i1 => if_neg (by omega))).trans row_self
    rw [e] at K; exact K
  · refine rl_X12_steps_31 _ _ _ _ h1 h2 h3 (rgb (by omega) (by omega)) ?_
    have e : row D 122 6 (fun q => if q < 6 then 0 else D 122 q) = row D 122 6 (fun _ => 0) := row_cg (fun i i0 i1 => if_pos (by omega))
    rw [if_pos (by decide), e]; exact K55
  · intro j j0 j1 ih
    refine rl_X12_steps_31 _ _ _ _ h1 h2 h3 (rgb (by omega) (by omega)) ?_
    rw [if_neg (by omega), wr1 j0 j1 (by omega), row_up j0 (by omega)]
    refine ⟨by omega, ?_⟩
    refine Eq.mp ?_ ih
    congr 1
    exact row_cg (fun i i0 i1 => by
      by_cases d1 : i = j
      · rw [if_pos (by omega), if_pos d1]
      · rw [if_neg d1]
        by_cases d2 : i < j
        · rw [if_pos d2, if_pos (by omega)]
        · rw [if_neg d2, if_neg (by omega)])
noncomputable def stv (D : aD) (s post w : Int) : Int := if v_X12_isServant D s = 0 then -1 else if v_X12_isIn D post 0 5 = 0 then -1 else if v_X12_isIn D w 0 1 = 0 then -1 else fin6 (wV D s) post w
theorem sv_cg {F : aD} (hm : Sm F D) (s k : Int) : w_served F s k = w_served D s k := by
  funext p; unfold w_served
  have e : svP F s k p = svP D s k p := by funext d; unfold svP; rw [in_cg hm, hm 78 rfl, hm 84 rfl]
  rw [e]
theorem kD_cg {F : aD} (hm : Sm F D) (r : Int) : kdD F r = kdD D r ∧ tfD F r = tfD D r ∧ ttD F r = ttD D r ∧ taD F r = taD D r ∧ nD F r = nD D r := by
  refine ⟨?_, ?_, ?_, ?_, ?_⟩
  · funext j; unfold kdD; rw [hm 94 rfl]
  · funext j; unfold tfD; rw [hm 95 rfl]
  · funext j; unfold ttD; rw [hm 97 rfl]
  · funext j; unfold taD; rw [hm 96 rfl]
  · unfold nD; rw [hm 92 rfl]
theorem wV_cg {F : aD} (hm : Sm F D) (s : Int) : wV F s = wV D s := by
  unfold wV
  rw [hm 70 rfl, if_cg hm, sv_cg hm, (kD_cg hm _).1, (kD_cg hm _).2.1, (kD_cg hm _).2.2.1, (kD_cg hm _).2.2.2.1, (kD_cg hm _).2.2.2.2]
theorem isS_cg {F : aD} (hm : Sm F D) (s : Int) : v_X12_isServant F s = v_X12_isServant D s := by unfold v_X12_isServant; rw [hm 70 rfl]; rfl
theorem isP_cg {F : aD} (hm : Sm F D) (s : Int) : v_X12_isPlace F s = v_X12_isPlace D s := by unfold v_X12_isPlace; rw [hm 70 rfl]; rfl
theorem stv_cg {F : aD} (hm : Sm F D) (s post w : Int) : stv F s post w = stv D s post w := by
  unfold stv; rw [isS_cg hm, wV_cg hm]; rfl
theorem stX (hI : Inv D) (s post w : Int) : v_X11_steps D s post w = stv D s post w ∧ p_X11_steps D s post w ∧ Sm (u_X11_steps D s post w) D := by
  have hc := hI.iv.ct; unfold I_ct at hc
  have hcr := hI.rb.1
  have hmT : Sm (u_tally D s (D 70 0)) D := (Sm.refl D).row rfl
  have hIT := Inv_cg hmT hI
  have eb : w_bookOf (u_tally D s (D 70 0)) (u_tally D s (D 70 0) 32 14) = w_bookOf D (D 70 0) := by
    unfold w_bookOf; rw [if_cg hmT, hmT 32 rfl, hc.1.1]
  have hbo := bo hI (D 70 0)
  have hboT : 0 ≤ w_bookOf D (D 70 0) ∧ (w_bookOf D (D 70 0) < u_tally D s (D 70 0) 70 26 ∨ w_bookOf D (D 70 0) = 8) := by rw [hmT 70 rfl]; exact hbo.1
  have hsb := served_b (D := D) (s := s) (k := D 70 0) (by omega)
  have e52 : ∀ p, 0 ≤ p → p < 6 → u_tally D s (D 70 0) 52 p = w_served D s (D 70 0) p := fun p p0 p1 => row_i p0 (by omega)
  have esc : sc6 (u_tally D s (D 70 0) 52) = sc6 (w_served D s (D 70 0)) := by
    funext p; unfold sc6; split
    · rename_i z; exact e52 p z.1 z.2
    · rfl
  unfold v_X11_steps p_X11_steps u_X11_steps stv
  rw [xSv hI.iv, inb_eq, inb_eq, hc.1.1, eb]
  by_cases c1 : v_X12_isServant D s = 0
  · rw [if_pos c1, if_pos c1, if_pos c1, if_pos c1]; exact ⟨rfl, trivial, Sm.refl D⟩
  rw [if_neg c1, if_neg c1, if_neg c1, if_neg c1]
  by_cases c2 : v_X12_isIn D post 0 5 = 0
  · rw [if_pos c2, if_pos c2, if_pos c2, if_pos c2]; exact ⟨rfl, trivial, Sm.refl D⟩
  rw [if_neg c2, if_neg c2, if_neg c2, if_neg c2]
  by_cases c3 : v_X12_isIn D w 0 1 = 0
  · rw [if_pos c3, if_pos c3, if_pos c3, if_pos c3]; exact ⟨rfl, trivial, Sm.refl D⟩
  rw [if_neg c3, if_neg c3, if_neg c3, if_neg c3]
  have hpo := isI.mp c2
  have hSu : Sm (u_wayTo (u_tally D s (D 70 0)) (w_bookOf D (D 70 0)) post) D := fun c q => by
    unfold u_wayTo; rw [wrow_c (fun e => by rw [e] at q; cases q)]; exact hmT c q
  refine ⟨?_, ⟨⟨hI.iv, by omega, by omega⟩, hIT.rb, hIT, hboT, by omega, fun p p0 p1 => by rw [e52 p p0 p1]; exact hsb p⟩, ?_⟩
  · have hb := inForce_b (D := D) (d := D 70 0)
    have hrr : w_inForce D (D 70 0) = -1 ∨ (0 ≤ w_inForce D (D 70 0) ∧ w_inForce D (D 70 0) < D 70 26) := by omega
    have hN := nD_b hI hrr
    have hed := edD hI hrr
    have hsv : ∀ p, 0 ≤ sc6 (w_served D s (D 70 0)) p ∧ sc6 (w_served D s (D 70 0)) p ≤ 1000 := sc6_b (fun p _ _ => hsb p)
    have ew : w_wayTo (u_tally D s (D 70 0)) (w_bookOf D (D 70 0)) post = wT (kdD D (w_inForce D (D 70 0))) (tfD D (w_inForce D (D 70 0))) (ttD D (w_inForce D (D 70 0))) (taD D (w_inForce D (D 70 0))) (sc6 (w_served D s (D 70 0))) (nD D (w_inForce D (D 70 0))) 1000000 1000000000 5 post := by
      unfold w_wayTo wX
      rw [hbo.2.1, esc, (kD_cg hmT _).1, (kD_cg hmT _).2.1, (kD_cg hmT _).2.2.1, (kD_cg hmT _).2.2.2.1, (kD_cg hmT _).2.2.2.2]
      exact wrd_V hN hed hsv post (by omega) (by omega)
    have ht := tau_T (kdD D (w_inForce D (D 70 0))) (tfD D (w_inForce D (D 70 0))) (ttD D (w_inForce D (D 70 0))) (taD D (w_inForce D (D 70 0))) (sc6 (w_served D s (D 70 0))) (nD D (w_inForce D (D 70 0))) hN.1 (fun j a b c => (hed j a b c).2.2.2) (fun p => (hsv p).1) 5 (by decide) post
    rw [ew]
    have ev : wV D s post = wT (kdD D (w_inForce D (D 70 0))) (tfD D (w_inForce D (D 70 0))) (ttD D (w_inForce D (D 70 0))) (taD D (w_inForce D (D 70 0))) (sc6 (w_served D s (D 70 0))) (nD D (w_inForce D (D 70 0))) 100000 100000000 5 post := rfl
    unfold fin6
    rw [ev]
    generalize wT (kdD D (w_inForce D (D 70 0))) (tfD D (w_inForce D (D 70 0))) (ttD D (w_inForce D (D 70 0))) (taD D (w_inForce D (D 70 0))) (sc6 (w_served D s (D 70 0))) (nD D (w_inForce D (D 70 0))) 1000000 1000000000 5 post = x at *
    generalize wT (kdD D (w_inForce D (D 70 0))) (tfD D (w_inForce D (D 70 0))) (ttD D (w_inForce D (D 70 0))) (taD D (w_inForce D (D 70 0))) (sc6 (w_served D s (D 70 0))) (nD D (w_inForce D (D 70 0))) 100000 100000000 5 post = m at *
    rcases ht with ⟨a, b⟩ | ⟨k, d, a, b, c, e, f, g⟩
    · rw [if_pos a, if_pos b]
    · have x0 : 0 ≤ x := by omega
      have m0 : 0 ≤ m := by omega
      rw [if_neg (show ¬ x = 1000000000 by omega), if_neg (show ¬ m = 100000000 by omega), Int.tdiv_eq_ediv_of_nonneg x0, Int.tdiv_eq_ediv_of_nonneg m0, Int.tmod_eq_emod_of_nonneg x0, Int.tmod_eq_emod_of_nonneg m0, wr_id (by omega) (by omega)]
      split <;> omega
  · split
    · exact hSu
    · split <;> exact hSu
theorem c_steps (hI : Inv D) (s post w : Int) (h1 : rg s) (h2 : rg post) (h3 : rg w) : Rd 97 198 [am_i (wz s), am_i (wz post), am_i (wz w)] A D := by
  refine ⟨stv D s post w, Ev_pure (m := 1) (by decide) (fun F hF => ?_), Ev_pure (m := 1) (by decide) (fun F hF => ?_)⟩
  · have hm := Sm_le hF
    have q := stX (Inv_cg hm hI) s post w
    exact ⟨_, (Ev_i (ev_X11_steps (n := 0) s post w h1 h2 h3 q.2.1) (q.1.trans (stv_cg hm s post w))).le (by decide), fun c hc => (q.2.2 c hc).trans (hm c hc)⟩
  · have hm := Sm_le hF
    obtain ⟨D', e1, e2⟩ := ev_stM (n := 0) (A := A) (Inv_cg hm hI) s post w h1 h2 h3
    exact ⟨D', (Ev_i e2 (stv_cg hm s post w)).le (by decide), fun c hc => (e1 c hc).trans (hm c hc)⟩
end St6
