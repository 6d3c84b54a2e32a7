/-! The chain, told by numbers alone. -/
section Cp
abbrev tb (u j : Int) : Int := o_and (o_ushr u j) 1
abbrev ad (u j : Int) : Int := o_or u (o_shl 1 j)
theorem tb_all : ∀ u : Fin 64, ∀ j : Fin 6, (tb u.val j.val = 0 ∨ tb u.val j.val = 1) ∧ o_and (o_shr u.val j.val) 1 = tb u.val j.val ∧ tb 0 j.val = 0 ∧ (0 ≤ ad u.val j.val ∧ ad u.val j.val < 64) ∧ tb (ad u.val j.val) j.val = 1 ∧ ∀ i : Fin 6, i ≠ j → tb (ad u.val j.val) i.val = tb u.val i.val := by decide +kernel
theorem ad_all : ∀ S : Fin 7, ∀ u : Fin 64, ∀ j : Fin 6, j.val < S.val → (u.val : Int) < o_shl 1 S.val → ad u.val j.val < o_shl 1 S.val := by decide +kernel
theorem pw_all : ∀ S : Fin 7, 1 ≤ o_shl 1 S.val ∧ o_shl 1 S.val ≤ 64 := by decide +kernel
theorem tb_f {u j : Int} (hu : 0 ≤ u ∧ u < 64) (hj : 0 ≤ j ∧ j < 6) : (tb u j = 0 ∨ tb u j = 1) ∧ o_and (o_shr u j) 1 = tb u j ∧ tb 0 j = 0 ∧ (0 ≤ ad u j ∧ ad u j < 64) ∧ tb (ad u j) j = 1 ∧ ∀ i, 0 ≤ i → i < 6 → i ≠ j → tb (ad u j) i = tb u i := by
  have h := tb_all ⟨u.toNat, by omega⟩ ⟨j.toNat, by omega⟩
  simp only [show ((u.toNat : Nat) : Int) = u by omega, show ((j.toNat : Nat) : Int) = j by omega] at h
  refine ⟨h.1, h.2.1, h.2.2.1, h.2.2.2.1, h.2.2.2.2.1, fun i i0 i1 hn => ?_⟩
  have z := h.2.2.2.2.2 ⟨i.toNat, by omega⟩ (fun e => hn (by have := congrArg Fin.val e; simp only at this; omega))
  simp only [show ((i.toNat : Nat) : Int) = i by omega] at z
  exact z
theorem pw_f {S : Int} (hS : 0 ≤ S ∧ S ≤ 6) : 1 ≤ o_shl 1 S ∧ o_shl 1 S ≤ 64 := by
  have h := pw_all ⟨S.toNat, by omega⟩
  simp only [show ((S.toNat : Nat) : Int) = S by omega] at h
  exact h
theorem ad_f {S u j : Int} (hS : 0 ≤ S ∧ S ≤ 6) (hu : 0 ≤ u ∧ u < o_shl 1 S) (hj : 0 ≤ j ∧ j < S) : ad u j < o_shl 1 S := by
  have hp := pw_f hS
  have h := ad_all ⟨S.toNat, by omega⟩ ⟨u.toNat, by omega⟩ ⟨j.toNat, by omega⟩ (by show j.toNat < S.toNat; omega)
  simp only [show ((S.toNat : Nat) : Int) = S by omega, show ((u.toNat : Nat) : Int) = u by omega, show ((j.toNat : Nat) : Int) = j by omega] at h
  exact h hu.2
variable {P S : Int} {c : Int → Int → Int} {num : Int → Int}
def wo (c : Int → Int → Int) (b : Int → Int) (k j u : Int) : Int := if c k j = -1 then -1 else if tb u j = 0 then 20000 - c k j + b (ad u j) else -1
/-- the best worth of the last m places -/
def bv (P S : Int) (c : Int → Int → Int) : Nat → Int → Int
  | 0, _ => 0
  | m + 1, u => foi (fun a j => max a (wo c (bv P S c m) (P - (m + 1)) j u)) (bv P S c m u) S
def pk (P S : Int) (c : Int → Int → Int) (m : Nat) (u : Int) : Int := fsi (fun j => decide (wo c (bv P S c m) (P - (m + 1)) j u = bv P S c (m + 1) u)) 0 S
def nx (P S : Int) (c : Int → Int → Int) (m : Nat) (u : Int) : Int := if pk P S c m u = -1 then u else ad u (pk P S c m u)
def cn (P S : Int) (c : Int → Int → Int) : Nat → Int → Int
  | 0, _ => 0
  | m + 1, u => (if pk P S c m u = -1 then 0 else 1) + cn P S c m (nx P S c m u)
def ds (P S : Int) (c : Int → Int → Int) : Nat → Int → Int
  | 0, _ => 0
  | m + 1, u => (if pk P S c m u = -1 then 0 else c (P - (m + 1)) (pk P S c m u)) + ds P S c m (nx P S c m u)
def rwo (P S : Int) (c : Int → Int → Int) (num : Int → Int) (z : Int) : Nat → Int → Int → Int
  | 0, _, _ => z
  | m + 1, u, i => if i = P - (m + 1) then (if pk P S c m u = -1 then z else num (pk P S c m u)) else rwo P S c num z m (nx P S c m u) i
theorem bv_s (hS : 0 ≤ S) (m : Nat) (u : Int) : bv P S c m u ≤ bv P S c (m + 1) u ∧ (∀ j, 0 ≤ j → j < S → wo c (bv P S c m) (P - (m + 1)) j u ≤ bv P S c (m + 1) u) ∧ (bv P S c (m + 1) u = bv P S c m u ∨ ∃ j, 0 ≤ j ∧ j < S ∧ bv P S c (m + 1) u = wo c (bv P S c m) (P - (m + 1)) j u) := by
  have key := foi_ind (f := fun a j => max a (wo c (bv P S c m) (P - (m + 1)) j u)) (b := bv P S c m u) (Q := fun i x => bv P S c m u ≤ x ∧ (∀ j, 0 ≤ j → j < i → wo c (bv P S c m) (P - (m + 1)) j u ≤ x) ∧ (x = bv P S c m u ∨ ∃ j, 0 ≤ j ∧ j < S ∧ x = wo c (bv P S c m) (P - (m + 1)) j u)) ⟨Int.le_refl _, fun j a b => by omega, Or.inl rfl⟩ (N := S) (fun i x i0 i1 q => ?_) S hS (Int.le_refl _)
  · exact key
  · obtain ⟨q1, q2, q3⟩ := q
    refine ⟨by omega, fun j j0 j1 => ?_, ?_⟩
    · by_cases e : j = i
      · subst e; omega
      · have := q2 j j0 (by omega); omega
    · by_cases e : x ≤ wo c (bv P S c m) (P - (m + 1)) i u
      · exact Or.inr ⟨i, i0, i1, by omega⟩
      · rcases q3 with q3 | ⟨j, a, b, q3⟩
        · exact Or.inl (by omega)
        · exact Or.inr ⟨j, a, b, by omega⟩
theorem bv_0 (hS : 0 ≤ S) (m : Nat) : ∀ u, 0 ≤ bv P S c m u := by
  induction m with
  | zero => intro u; exact Int.le_refl _
  | succ m ih => intro u; have := (bv_s (P := P) (c := c) hS m u).1; have := ih u; omega
theorem pk_s (hS : 0 ≤ S) (m : Nat) (u : Int) : (pk P S c m u = -1 ∧ (∀ j, 0 ≤ j → j < S → wo c (bv P S c m) (P - (m + 1)) j u < bv P S c (m + 1) u) ∧ bv P S c (m + 1) u = bv P S c m u) ∨ (0 ≤ pk P S c m u ∧ pk P S c m u < S ∧ wo c (bv P S c m) (P - (m + 1)) (pk P S c m u) u = bv P S c (m + 1) u ∧ (∀ j, 0 ≤ j → j < pk P S c m u → wo c (bv P S c m) (P - (m + 1)) j u < bv P S c (m + 1) u) ∧ c (P - (m + 1)) (pk P S c m u) ≠ -1 ∧ tb u (pk P S c m u) = 0 ∧ bv P S c (m + 1) u = 20000 - c (P - (m + 1)) (pk P S c m u) + bv P S c m (ad u (pk P S c m u))) := by
  obtain ⟨s1, s2, s3⟩ := bv_s (P := P) (c := c) hS m u
  have h0 := bv_0 (P := P) (c := c) hS (m + 1) u
  rcases fsi_spec (p := fun j => decide (wo c (bv P S c m) (P - (m + 1)) j u = bv P S c (m + 1) u)) (N := S) 0 with ⟨q1, q2⟩ | ⟨q1, q2, q3, q4⟩
  · refine Or.inl ⟨q1, fun j j0 j1 => ?_, ?_⟩
    · have := of_decide_eq_false (q2 j j0 j1)
      have := s2 j j0 j1
      omega
    · rcases s3 with s3 | ⟨j, j0, j1, s3⟩
      · exact s3
      · exact absurd s3.symm (of_decide_eq_false (q2 j j0 j1))
  · have e := of_decide_eq_true q3
    refine Or.inr ⟨q1, q2, e, fun j j0 j1 => ?_, ?_⟩
    · have := of_decide_eq_false (q4 j j0 j1)
      have := s2 j j0 (by unfold pk at j1; omega)
      omega
    · have e' : wo c (bv P S c m) (P - (m + 1)) (pk P S c m u) u = bv P S c (m + 1) u := e
      have e2 := e'
      unfold wo at e2
      by_cases c1 : c (P - (m + 1)) (pk P S c m u) = -1
      · rw [if_pos c1] at e2; omega
      · rw [if_neg c1] at e2
        by_cases c2 : tb u (pk P S c m u) = 0
        · rw [if_pos c2] at e2; exact ⟨c1, c2, e2.symm⟩
        · rw [if_neg c2] at e2; omega
theorem bv_v (hS : 0 ≤ S) (hc : ∀ k j, -1 ≤ c k j ∧ c k j ≤ 1999) (m : Nat) : ∀ u, bv P S c m u = 20000 * cn P S c m u - ds P S c m u ∧ 0 ≤ cn P S c m u ∧ cn P S c m u ≤ m ∧ 0 ≤ ds P S c m u ∧ ds P S c m u ≤ 1999 * m := by
  induction m with
  | zero => intro u; exact ⟨rfl, Int.le_refl _, Int.le_refl _, Int.le_refl _, Int.le_refl _⟩
  | succ m ih =>
    intro u
    have hcc := hc (P - (m + 1)) (pk P S c m u)
    rcases pk_s (P := P) (c := c) hS m u with ⟨q1, q2, q3⟩ | ⟨q1, q2, q3, q4, q5, q6, q7⟩
    · have z := ih u
      rw [q3]
      unfold cn ds nx
      rw [if_pos q1, if_pos q1, if_pos q1]
      omega
    · have z := ih (ad u (pk P S c m u))
      rw [q7]
      unfold cn ds nx
      rw [if_neg (by omega), if_neg (by omega), if_neg (by omega)]
      omega
theorem bv_b (hS : 0 ≤ S) (hc : ∀ k j, -1 ≤ c k j ∧ c k j ≤ 1999) (m : Nat) (u : Int) : 0 ≤ bv P S c m u ∧ bv P S c m u ≤ 20000 * m := by
  have := bv_v (P := P) hS hc m u
  have := bv_0 (P := P) (c := c) hS m u
  omega
/-- none and the others -/
theorem rwo_z (hS : 0 ≤ S) (hn : ∀ j, 0 ≤ j → j < S → 0 ≤ num j ∧ num j ≤ 23) (m : Nat) : ∀ u i, (rwo P S c num (-1) m u i = -1 ∧ rwo P S c num 24 m u i = 24) ∨ (0 ≤ rwo P S c num (-1) m u i ∧ rwo P S c num (-1) m u i ≤ 23 ∧ rwo P S c num 24 m u i = rwo P S c num (-1) m u i) := by
  induction m with
  | zero => intro u i; exact Or.inl ⟨rfl, rfl⟩
  | succ m ih =>
    intro u i
    unfold rwo
    by_cases e : i = P - (m + 1)
    · rw [if_pos e, if_pos e]
      rcases pk_s (P := P) (c := c) hS m u with ⟨q1, _⟩ | ⟨q1, q2, _⟩
      · rw [if_pos q1, if_pos q1]; exact Or.inl ⟨rfl, rfl⟩
      · rw [if_neg (by omega), if_neg (by omega)]
        exact Or.inr ⟨(hn _ q1 q2).1, (hn _ q1 q2).2, rfl⟩
    · rw [if_neg e, if_neg e]; exact ih _ i
/-- what counts of the table -/
theorem ch_cg {c' : Int → Int → Int} (hS : 0 ≤ S) (h : ∀ k j, 0 ≤ k → k < P → 0 ≤ j → j < S → c k j = c' k j) (m : Nat) : (m : Int) ≤ P → ∀ u, bv P S c m u = bv P S c' m u := by
  induction m with
  | zero => intro _ u; rfl
  | succ m ih =>
    intro hm u
    unfold bv
    rw [ih (by omega) u]
    refine foi_cg (N := S) (fun j x j0 j1 => ?_) S hS (Int.le_refl _)
    have e : wo c (bv P S c m) (P - (m + 1)) j u = wo c' (bv P S c' m) (P - (m + 1)) j u := by
      unfold wo; rw [h _ j (by omega) (by omega) j0 j1, ih (by omega)]
    rw [e]
theorem pk_cg {c' : Int → Int → Int} (hS : 0 ≤ S) (h : ∀ k j, 0 ≤ k → k < P → 0 ≤ j → j < S → c k j = c' k j) {m : Nat} (hm : (m : Int) + 1 ≤ P) (u : Int) : pk P S c m u = pk P S c' m u := by
  unfold pk
  refine fsi_cg (fun j j0 j1 => ?_)
  have e : wo c (bv P S c m) (P - (m + 1)) j u = wo c' (bv P S c' m) (P - (m + 1)) j u := by
    unfold wo; rw [h _ j (by omega) (by omega) j0 j1, ch_cg hS h m (by omega)]
  rw [e, ch_cg hS h (m + 1) (by omega)]
theorem cn_cg {c' : Int → Int → Int} (hS : 0 ≤ S) (h : ∀ k j, 0 ≤ k → k < P → 0 ≤ j → j < S → c k j = c' k j) (z : Int) (m : Nat) : (m : Int) ≤ P → ∀ u, cn P S c m u = cn P S c' m u ∧ ds P S c m u = ds P S c' m u ∧ ∀ i, rwo P S c num z m u i = rwo P S c' num z m u i := by
  induction m with
  | zero => intro _ u; exact ⟨rfl, rfl, fun _ => rfl⟩
  | succ m ih =>
    intro hm u
    have e := pk_cg (c := c) hS h (m := m) (by omega) u
    have e2 : nx P S c m u = nx P S c' m u := by unfold nx; rw [e]
    have k := ih (by omega) (nx P S c' m u)
    unfold cn ds rwo
    rw [e2, e, k.1, k.2.1]
    refine ⟨rfl, ?_, fun i => by rw [k.2.2 i]⟩
    rcases pk_s (P := P) (c := c') hS m u with ⟨q1, _⟩ | ⟨q1, q2, _⟩
    · rw [if_pos q1, if_pos q1]
    · rw [h _ _ (by omega) (by omega) q1 q2]
end Cp
