/-! Rows by their worth: the best of several. -/
section Or_
abbrev Cd : Type := Int × Int × (Int → Int)
def Lt (P : Int) (r r' : Int → Int) : Prop := ∃ k, 0 ≤ k ∧ k < P ∧ (∀ i, 0 ≤ i → i < k → r i = r' i) ∧ r k < r' k
def vl (C : Cd) : Int := 20000 * C.1 - C.2.1
def bt (P : Int) (C C' : Cd) : Prop := vl C' < vl C ∨ (vl C = vl C' ∧ Lt P C.2.2 C'.2.2)
def eqv (P : Int) (C C' : Cd) : Prop := C.1 = C'.1 ∧ C.2.1 = C'.2.1 ∧ ∀ i, 0 ≤ i → i < P → C.2.2 i = C'.2.2 i
def ok6 (C : Cd) : Prop := 0 ≤ C.2.1 ∧ C.2.1 < 20000
variable {P : Int} {A B C E F M : Cd}
theorem fdiff (r r' : Int → Int) (N : Int) : (∀ i, 0 ≤ i → i < N → r i = r' i) ∨ ∃ k, 0 ≤ k ∧ k < N ∧ (∀ i, 0 ≤ i → i < k → r i = r' i) ∧ r k ≠ r' k := by
  rcases fsi_spec (p := fun i => decide (r i ≠ r' i)) (N := N) 0 with ⟨_, q⟩ | ⟨q1, q2, q3, q4⟩
  · exact Or.inl (fun i a b => Decidable.not_not.mp (of_decide_eq_false (q i a b)))
  · exact Or.inr ⟨_, q1, q2, fun i a b => Decidable.not_not.mp (of_decide_eq_false (q4 i a b)), of_decide_eq_true q3⟩
theorem Lt_as {r r' : Int → Int} (h : Lt P r r') (h' : Lt P r' r) : False := by
  obtain ⟨k, k0, k1, k2, k3⟩ := h
  obtain ⟨j, j0, j1, j2, j3⟩ := h'
  rcases Int.lt_trichotomy k j with q | q | q
  · have := j2 k k0 q; omega
  · subst q; omega
  · have := k2 j j0 q; omega
theorem Lt_co {r r' r'' : Int → Int} (h : Lt P r r'') : Lt P r r' ∨ Lt P r' r'' := by
  obtain ⟨k, k0, k1, k2, k3⟩ := h
  rcases fdiff r r' k with q | ⟨i, i0, i1, i2, i3⟩
  · by_cases c : r k < r' k
    · exact Or.inl ⟨k, k0, k1, q, c⟩
    · exact Or.inr ⟨k, k0, k1, fun i a b => by rw [← q i a b]; exact k2 i a b, by omega⟩
  · have e := k2 i i0 i1
    by_cases c : r i < r' i
    · exact Or.inl ⟨i, i0, by omega, i2, c⟩
    · exact Or.inr ⟨i, i0, by omega, fun z a b => by rw [← i2 z a b]; exact k2 z a (by omega), by omega⟩
theorem Lt_an {r r' : Int → Int} (h : ¬ Lt P r r') (h' : ¬ Lt P r' r) : ∀ i, 0 ≤ i → i < P → r i = r' i := by
  rcases fdiff r r' P with q | ⟨k, k0, k1, k2, k3⟩
  · exact q
  · exfalso
    by_cases c : r k < r' k
    · exact h ⟨k, k0, k1, k2, c⟩
    · exact h' ⟨k, k0, k1, fun i a b => (k2 i a b).symm, by omega⟩
theorem bt_as (h : bt P A B) (h' : bt P B A) : False := by
  rcases h with h | ⟨h1, h2⟩
  · rcases h' with h' | ⟨h1', _⟩ <;> omega
  · rcases h' with h' | ⟨_, h2'⟩
    · omega
    · exact Lt_as h2 h2'
theorem bt_co (h : bt P A C) : bt P A B ∨ bt P B C := by
  rcases h with h | ⟨h1, h2⟩
  · by_cases c : vl B < vl A
    · exact Or.inl (Or.inl c)
    · by_cases c2 : vl C < vl B
      · exact Or.inr (Or.inl c2)
      · omega
  · by_cases c : vl B < vl A
    · exact Or.inl (Or.inl c)
    · by_cases c2 : vl C < vl B
      · exact Or.inr (Or.inl c2)
      · rcases Lt_co (r' := B.2.2) h2 with q | q
        · exact Or.inl (Or.inr ⟨by omega, q⟩)
        · exact Or.inr (Or.inr ⟨by omega, q⟩)
theorem bt_an (hA : ok6 A) (hB : ok6 B) (h : ¬ bt P A B) (h' : ¬ bt P B A) : eqv P A B := by
  have e : vl A = vl B := by
    rcases Int.lt_trichotomy (vl A) (vl B) with q | q | q
    · exact absurd (Or.inl q) h'
    · exact q
    · exact absurd (Or.inl q) h
  unfold vl at e
  unfold ok6 at hA hB
  refine ⟨by omega, by omega, Lt_an (fun q => h (Or.inr ⟨by unfold vl; omega, q⟩)) (fun q => h' (Or.inr ⟨by unfold vl; omega, q⟩))⟩
theorem eqv.refl (A : Cd) : eqv P A A := ⟨rfl, rfl, fun _ _ _ => rfl⟩
theorem eqv.symm (h : eqv P A B) : eqv P B A := ⟨h.1.symm, h.2.1.symm, fun i a b => (h.2.2 i a b).symm⟩
theorem eqv.trans (h : eqv P A B) (h' : eqv P B C) : eqv P A C := ⟨h.1.trans h'.1, h.2.1.trans h'.2.1, fun i a b => (h.2.2 i a b).trans (h'.2.2 i a b)⟩
theorem Lt_eq {r r' s s' : Int → Int} (h : ∀ i, 0 ≤ i → i < P → r i = s i) (h' : ∀ i, 0 ≤ i → i < P → r' i = s' i) (q : Lt P r r') : Lt P s s' := by
  obtain ⟨k, k0, k1, k2, k3⟩ := q
  exact ⟨k, k0, k1, fun i a b => by rw [← h i a (by omega), ← h' i a (by omega)]; exact k2 i a b, by rw [← h k k0 k1, ← h' k k0 k1]; exact k3⟩
theorem bt_eq {A' B' : Cd} (h : eqv P A A') (h' : eqv P B B') (q : bt P A B) : bt P A' B' := by
  have e1 : vl A' = vl A := by unfold vl; rw [h.1, h.2.1]
  have e2 : vl B' = vl B := by unfold vl; rw [h'.1, h'.2.1]
  rcases q with q | ⟨q1, q2⟩
  · exact Or.inl (by omega)
  · exact Or.inr ⟨by omega, Lt_eq h.2.2 h'.2.2 q2⟩
/-- F is what stays of B when C comes -/
def Up (P : Int) (B C F : Cd) : Prop := ((B.1 = -1 ∨ bt P C B) → eqv P F C) ∧ (¬ (B.1 = -1 ∨ bt P C B) → eqv P F B)
theorem Up_eq {B' C' F' : Cd} (hB : eqv P B B') (hC : eqv P C C') (hF : eqv P F F') (h : Up P B C F) : Up P B' C' F' := by
  have e : (B'.1 = -1 ∨ bt P C' B') → (B.1 = -1 ∨ bt P C B) := fun q => by
    rcases q with q | q
    · exact Or.inl (by rw [hB.1]; exact q)
    · exact Or.inr (bt_eq hC.symm hB.symm q)
  have e' : (B.1 = -1 ∨ bt P C B) → (B'.1 = -1 ∨ bt P C' B') := fun q => by
    rcases q with q | q
    · exact Or.inl (by rw [← hB.1]; exact q)
    · exact Or.inr (bt_eq hC hB q)
  exact ⟨fun q => (hF.symm.trans (h.1 (e q))).trans hC, fun q => (hF.symm.trans (h.2 (fun z => q (e' z)))).trans hB⟩
/-- F is the best of E and those of the set -/
def Op (P : Int) (E : Cd) (S : Cd → Prop) (F : Cd) : Prop := (eqv P F E ∨ ∃ C, S C ∧ eqv P F C) ∧ (∀ C, S C → F.1 ≠ -1 ∧ ¬ bt P C F) ∧ (E.1 ≠ -1 → F.1 ≠ -1 ∧ ¬ bt P E F)
theorem Op_0 : Op P E (fun _ => False) E := ⟨Or.inl (eqv.refl _), fun _ h => h.elim, fun h => ⟨h, fun q => bt_as q q⟩⟩
theorem Op_u {S : Cd → Prop} {F' : Cd} (hC : C.1 ≠ -1) (h : Op P E S F) (u : Up P F C F') : Op P E (fun Z => S Z ∨ Z = C) F' := by
  obtain ⟨h1, h2, h3⟩ := h
  by_cases q : F.1 = -1 ∨ bt P C F
  · have e := u.1 q
    have n1 : F'.1 ≠ -1 := by rw [e.1]; exact hC
    refine ⟨Or.inr ⟨C, Or.inr rfl, e⟩, fun Z hZ => ⟨n1, fun z => ?_⟩, fun hE => ⟨n1, fun z => ?_⟩⟩
    · replace z := bt_eq (eqv.refl Z) e z
      rcases hZ with hZ | rfl
      · rcases q with q | q
        · exact (h2 Z hZ).1 q
        · rcases bt_co (B := F) z with y | y
          · exact (h2 Z hZ).2 y
          · exact bt_as y q
      · exact bt_as z z
    · replace z := bt_eq (eqv.refl E) e z
      rcases q with q | q
      · exact (h3 hE).1 q
      · rcases bt_co (B := F) z with y | y
        · exact (h3 hE).2 y
        · exact bt_as y q
  · have e := u.2 q
    have n0 : F.1 ≠ -1 := fun z => q (Or.inl z)
    have n1 : F'.1 ≠ -1 := by rw [e.1]; exact n0
    refine ⟨?_, fun Z hZ => ⟨n1, fun z => ?_⟩, fun hE => ⟨n1, fun z => (h3 hE).2 (bt_eq (eqv.refl E) e z)⟩⟩
    · rcases h1 with h1 | ⟨Z, z1, z2⟩
      · exact Or.inl (e.trans h1)
      · exact Or.inr ⟨Z, Or.inl z1, e.trans z2⟩
    · replace z := bt_eq (eqv.refl Z) e z
      rcases hZ with hZ | rfl
      · exact (h2 Z hZ).2 z
      · exact q (Or.inr z)
theorem Op_n {S S' : Cd → Prop} (h : Op P E S F) (e : ∀ Z, S Z ↔ S' Z) : Op P E S' F := by
  have : S = S' := funext fun Z => propext (e Z)
  rw [← this]; exact h
theorem Op_eq {S : Cd → Prop} {F' : Cd} (h : Op P E S F) (e : eqv P F F') : Op P E S F' := by
  obtain ⟨h1, h2, h3⟩ := h
  refine ⟨?_, fun Z hZ => ⟨by rw [← e.1]; exact (h2 Z hZ).1, fun z => (h2 Z hZ).2 (bt_eq (eqv.refl Z) e.symm z)⟩, fun hE => ⟨by rw [← e.1]; exact (h3 hE).1, fun z => (h3 hE).2 (bt_eq (eqv.refl E) e.symm z)⟩⟩
  rcases h1 with h1 | ⟨Z, z1, z2⟩
  · exact Or.inl (e.symm.trans h1)
  · exact Or.inr ⟨Z, z1, e.symm.trans z2⟩
theorem Op_max {S : Cd → Prop} (hS : ∀ Z, S Z → ok6 Z) (hE : E.1 ≠ -1 → ok6 E) (h : Op P E S F) (hM : S M) (hm : ∀ Z, S Z → ¬ bt P Z M) : Up P E M F := by
  obtain ⟨h1, h2, h3⟩ := h
  have toM : ∀ Z, S Z → eqv P F Z → eqv P F M := fun Z hZ e => e.trans (bt_an (hS Z hZ) (hS M hM) (hm Z hZ) (fun z => (h2 M hM).2 (bt_eq (eqv.refl M) e.symm z)))
  refine ⟨fun q => ?_, fun q => ?_⟩
  · rcases h1 with h1 | ⟨Z, z1, z2⟩
    · exfalso
      rcases q with q | q
      · exact (h2 M hM).1 (by rw [h1.1]; exact q)
      · exact (h2 M hM).2 (bt_eq (eqv.refl M) h1.symm q)
    · exact toM Z z1 z2
  · have nE : E.1 ≠ -1 := fun z => q (Or.inl z)
    rcases h1 with h1 | ⟨Z, z1, z2⟩
    · exact h1
    · refine z2.trans (bt_an (hS Z z1) (hE nE) (fun z => ?_) (fun z => (h3 nE).2 (bt_eq (eqv.refl E) z2.symm z)))
      rcases bt_co (B := M) z with y | y
      · exact hm Z z1 y
      · exact q (Or.inr y)
end Or_
