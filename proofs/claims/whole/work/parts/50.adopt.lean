/-! Things that were there stay as they were when a new one is adopted. -/
section Ag
variable {n : Nat} {A A' : aA} {D D' : aD} {d : Nat} {s : am_S}
theorem mkT_ag {t : Nat} {i : Int} (H : Cl A D) (h : ∀ t i, D (900 + t) i = 1 → A' t i = A t i) (h1 : ∀ i, D 900 i = 1 → A' 1 i = A 1 i) (h9 : ∀ i, D 901 i = 1 → D 900 i = 1) (hf : D (900 + t) i = 1) : mkT A' D t i = mkT A D t i := by
  obtain ⟨c1, c2, c3, c4, c5, c6, c7, c8, c9, c10, c11, c12⟩ := H
  by_cases e : t = 0
  · subst e
    unfold mkT; simp only [tfs, tvs, tv1, tvr]
    rw [h1 i hf]
  by_cases e : t = 10
  · subst e
    unfold mkT; simp only [tfs, tvs, tv1, tvr]
    rw [h 20 i (c3 i hf)]
  by_cases e : t = 11
  · subst e
    unfold mkT; simp only [tfs, tvs, tv1, tvr]
    rw [h 21 i (c4 i hf)]
  by_cases e : t = 12
  · subst e
    unfold mkT; simp only [tfs, tvs, tv1, tvr]
  by_cases e : t = 13
  · subst e
    unfold mkT; simp only [tfs, tvs, tv1, tvr]
    rw [h 10 _ (c5 i hf).1, h 11 _ (c5 i hf).2]
  by_cases e : t = 14
  · subst e
    unfold mkT; simp only [tfs, tvs, tv1, tvr]
    obtain ⟨a1, a2, a3, a4⟩ := c6 i hf
    rw [h 0 _ a1, h 23 _ a2, h 24 _ a3, h 25 _ a4]
  by_cases e : t = 15
  · subst e
    unfold mkT; simp only [tfs, tvs, tv1, tvr]
    rw [h 10 _ (c7 i hf).1, h 11 _ (c7 i hf).2]
  by_cases e : t = 16
  · subst e
    unfold mkT; simp only [tfs, tvs, tv1, tvr]
    rcases c8 i hf with q | q
    · rw [show D (1000 + 100 * 16 + 1 + 1 + 1 + 1 + 1) i = D 2605 i from rfl, if_pos q, if_pos q]
    · rw [h 22 i q]
  by_cases e : t = 1
  · subst e
    rw [mkT1, mkT1]
    congr 5
    funext k
    by_cases q : (k : Int) < D 1002 i
    · rw [if_pos q, if_pos q, h _ _ (c2 i k (h9 i hf) (by omega) q)]
    · rw [if_neg q, if_neg q]
  have ht : tfs t = none := by
    unfold tfs
    split <;> first | rfl | contradiction
  unfold mkT
  rw [ht]
  simp only
  rw [if_neg e, if_neg e]
  by_cases e2 : t = 2
  · rw [if_pos e2, if_pos e2]
    congr 4
    funext k
    have q0 : (if D 1200 k < 0 then none else some (A' 11 (D 1200 k))) = (if D 1200 k < 0 then none else some (A 11 (D 1200 k))) := by
      rcases c9 k with q | q
      · rw [if_pos q, if_pos q]
      · rw [h 11 _ q]
    have q1 : (if D 1201 k < 0 then none else some (A' 10 (D 1201 k))) = (if D 1201 k < 0 then none else some (A 10 (D 1201 k))) := by
      rcases c10 k with q | q
      · rw [if_pos q, if_pos q]
      · rw [h 10 _ q]
    rw [q0, q1]
  · rw [if_neg e2, if_neg e2]
/-- what a thing's own values are -/
def blg (p : Nat × Int) (c : Nat) (i : Int) : Prop := (c = 900 + p.1 ∧ i = p.2) ∨ (p.1 < 20 ∧ 1000 + 100 * p.1 ≤ c ∧ c < 1050 + 100 * p.1 ∧ i = p.2) ∨ (20 ≤ p.1 ∧ c = 1000 + 100 * p.1 ∧ i = p.2) ∨ (20 ≤ p.1 ∧ c = 1001 + 100 * p.1 ∧ 1024 * p.2 ≤ i ∧ i < 1024 * p.2 + 1024)
theorem tfs_nle {t : Nat} (h : tfs t ≠ none) : t ≤ 16 ∧ t ≠ 1 ∧ t ≠ 2 := by
  unfold tfs at h
  split at h <;> first | omega | exact absurd rfl h
theorem fxt_fl (H : Cl A D) {t : Nat} {i : Int} (h : fxt (t, i) = true) : D (900 + t) i = 1 := by
  obtain ⟨_, _, _, _, _, _, _, _, _, _, _, a0, a1, a2, a3, a4, a5, a6, b0, b1, b2, _⟩ := H
  unfold fxt at h
  simp only [Bool.or_eq_true, Bool.and_eq_true, beq_iff_eq] at h
  rcases h with (⟨rfl, (((((rfl | rfl) | rfl) | rfl) | rfl) | rfl)⟩ | ⟨rfl, rfl⟩) | ⟨rfl, (rfl | rfl)⟩ <;> assumption
theorem Rp0_adopt {cs : List am_Ce} {k : Nat} {NS : List (Nat × Int)} (H : Rp0 A D s) (h9 : ∀ i, D 901 i = 1 → D 900 i = 1)
    (hk : ∀ p ∈ NS, p.1 < 50 ∧ (p.1 < 20 → tfs p.1 ≠ none) ∧ D (900 + p.1) p.2 ≠ 1)
    (hD : ∀ c i, D' c i ≠ D c i → c = 950 ∨ c = 951 ∨ ∃ p ∈ NS, blg p c i)
    (hA : ∀ t i, D (900 + t) i = 1 → A' t i = A t i) (hA1 : ∀ i, D 900 i = 1 → A' 1 i = A 1 i)
    (hN : ∀ p ∈ NS, ∃ j : Nat, A' p.1 p.2 = s.1.length + j ∧ NS[j]? = some p ∧ cs[j]? = some (mkT A' D' p.1 p.2))
    (hL : D' 950 0 = s.1.length + cs.length ∧ D' 951 0 = s.2 + k) (hC : Cl A' D') : Rp0 A' D' (s.1 ++ cs, s.2 + k) := by
  have hcl := H.2.2.2.2.2
  have hE : ∀ c i, c ≠ 950 → c ≠ 951 → (∀ p ∈ NS, ¬ blg p c i) → D' c i = D c i := fun c i a b q => by
    by_cases e : D' c i = D c i
    · exact e
    · rcases hD c i e with r | r | ⟨p, hp, r⟩
      · exact absurd r a
      · exact absurd r b
      · exact absurd r (q p hp)
  have hF : ∀ c, c < 900 → D' c = D c := fun c hc => funext fun i => hE c i (by omega) (by omega) (fun p _ q => by unfold blg at q; omega)
  have hfl : ∀ t i, t < 50 → D' (900 + t) i = 1 → (t, i) ∉ NS → D (900 + t) i = 1 := fun t i ht hx hn => by
    rw [← hE (900 + t) i (by omega) (by omega) (fun p hp q => ?_)]
    · exact hx
    · have e1 : p.1 = t := by unfold blg at q; omega
      have e2 : p.2 = i := by unfold blg at q; omega
      exact hn (by rw [← e1, ← e2]; exact hp)
  have hlt : ∀ t i, t < 50 → D (900 + t) i = 1 → A t i < s.1.length := fun t i ht hx => (List.getElem?_eq_some_iff.mp (H.2.2.1 t i ht hx).1).1
  have hix : ∀ t i j, t < 50 → D' (900 + t) i = 1 → A' t i = s.1.length + j → NS[j]? = some (t, i) := fun t i j ht hx e => by
    by_cases hn : (t, i) ∈ NS
    · obtain ⟨j', q1, q2, _⟩ := hN _ hn
      have q1' : A' t i = s.1.length + j' := q1
      have : j' = j := by omega
      rw [← this]; exact q2
    · have hx' := hfl t i ht hx hn
      have := hlt t i ht hx'
      rw [hA t i hx'] at e; omega
  refine Rp0_ext H ⟨hF 0 (by decide), hF 1 (by decide)⟩ (fun a sh ha => ?_) (fun t i ht hx => ?_) (fun t i t' i' j ht ht' hx hx' q q' => ?_) hL hC
  · have := shp_ge ha
    rw [hF a (by omega)]
    exact mkS_A ha (fun t i q => hA t i (fxt_fl hcl q))
  · by_cases hn : (t, i) ∈ NS
    · obtain ⟨j, q1, _, q3⟩ := hN _ hn
      exact Or.inr ⟨j, q1, q3⟩
    · have hx' := hfl t i ht hx hn
      refine Or.inl ⟨hx', hA t i hx', ?_⟩
      have hno : ∀ p ∈ NS, ¬ (p.1 = t ∧ p.2 = i) := fun p hp q => hn (by rw [← q.1, ← q.2]; exact hp)
      rw [← mkT_ag hcl hA hA1 h9 hx']
      refine mkT_cg ?_ ?_ ?_ ?_ ?_
      · intro hz c c1 c2
        have := tfs_nle hz
        refine hE c i (by omega) (by omega) (fun p hp q => hno p hp ?_)
        have hp5 := (hk p hp).1; unfold blg at q; omega
      · intro hz
        refine hE (1000 + 100 * t) i (by omega) (by omega) (fun p hp q => hno p hp ?_)
        have hp5 := (hk p hp).1; unfold blg at q; omega
      · intro e
        subst e
        refine hE 1002 i (by omega) (by omega) (fun p hp q => ?_)
        have e0 : p.1 = 0 ∧ p.2 = i := by have hp5 := (hk p hp).1; unfold blg at q; omega
        have := (hk p hp).2.2
        rw [e0.1, e0.2] at this
        exact this (h9 i hx')
      · intro e j
        refine ⟨hE 1200 j (by omega) (by omega) (fun p hp q => ?_), hE 1201 j (by omega) (by omega) (fun p hp q => ?_)⟩
        · have e0 : p.1 = 2 := by have hp5 := (hk p hp).1; unfold blg at q; omega
          exact (hk p hp).2.1 (by omega) (by rw [e0]; rfl)
        · have e0 : p.1 = 2 := by have hp5 := (hk p hp).1; unfold blg at q; omega
          exact (hk p hp).2.1 (by omega) (by rw [e0]; rfl)
      · intro h3 hz j hj
        refine hE (1001 + 100 * t) (1024 * i + j) (by omega) (by omega) (fun p hp q => ?_)
        have e0 : p.1 = t := by have hp5 := (hk p hp).1; unfold blg at q; omega
        by_cases e1 : p.1 < 20
        · exact (hk p hp).2.1 e1 (by rw [e0]; exact hz)
        · refine hno p hp ⟨e0, ?_⟩
          have hp5 := (hk p hp).1; unfold blg at q; omega
  · have r := hix t i j ht hx q
    have r' := hix t' i' j ht' hx' q'
    rw [r] at r'
    injection r' with r'
    injection r' with a b
    exact ⟨a, b⟩
end Ag
