/-! What stands behind a fee or a least: nothing, or a condition; one result for both readers. -/
section Mcr
variable {n : Nat} {A : aA} {D D' : aD} {T : Int → Int} {N a : Int}
/-- from e on: fails at f (none), or ends at f with no condition (some none) or with one -/
def Cr (T : Int → Int) (N e : Int) (r : Option (Option Itm)) (f : Int) : Prop := (¬ Wd T N e wIf ∧ r = some none ∧ f = e) ∨ (Wd T N e wIf ∧ ∃ s, Ad T N 0 (tN T N e) s f ∧ r = s.map some)
theorem Cr_ex (hT : Txt T N) (ht : Tok T N a) : ∃ r f, Cr T N a r f ∧ Tok T N f ∧ a ≤ f := by
  by_cases q : Wd T N a wIf
  · obtain ⟨t1, t2, t3, t4⟩ := tN_tok ht
    obtain ⟨s, f, h⟩ := Cond_ex hT t1
    have h2 := h.2.1
    exact ⟨s.map some, f, Or.inr ⟨q, s, h, rfl⟩, h.1, by omega⟩
  · exact ⟨some none, a, Or.inl ⟨q, rfl, rfl⟩, ht, Int.le_refl _⟩
def CrM (T : Int → Int) (N k : Int) (D D' : aD) (e x f : Int) : Option (Option Itm) → Prop
  | none => x = 0 ∧ D' 70 30 = f
  | some none => x = 1 ∧ Mst T N f D' ∧ D' 98 k = -1 ∧ D' 70 27 = D 70 27
  | some (some v) => x = 1 ∧ Mst T N f D' ∧ D' 98 k = D 70 27 ∧ HN D' 23 (D 70 27) (D' 70 27) v.1 ∧ D 70 27 < D' 70 27 ∧ 25 * (D' 70 27 - D 70 27) ≤ 21 * (f - e) + 8
theorem Cr_m (hT : Txt T N) {k f : Int} {r : Option (Option Itm)} (h : Cr T N a r f) (hk : 0 ≤ k ∧ k < 270) (hm : Mst T N a D) (h27 : 0 ≤ D 70 27) (hp : 25 * D 70 27 ≤ 104000 + 21 * a - 50) : ∃ x D', (0 ≤ x ∧ x ≤ 1) ∧ Ev (n + 1) 37 165 [am_r (some 70), am_i (wz k)] A D (ri x) A D' ∧ Sfr k (D 70 27) D D' ∧ (∀ c, 94 ≤ c → c ≤ 97 → D' c = D c) ∧ CrM T N k D D' a x f r := by
  obtain ⟨c1, c2⟩ := cond_m (n := n) (A := A) hT hk hm h27 hp
  have ht := Mst_tok hT hm
  rcases h with ⟨q, q2, q3⟩ | ⟨q, s, q2, q3⟩
  · obtain ⟨D', e1, e2, e3, e4, e5, e6⟩ := c1 q
    subst q2; subst q3
    exact ⟨1, D', ⟨by decide, by decide⟩, e1, e2, e3, rfl, e4, e5, e6⟩
  · obtain ⟨x, D', e1, e2, e3, e4, e5⟩ := c2 q s f q2
    have wl := (Wd_tn ht q).1
    have wl2 : ((wIf).length : Int) = 2 := rfl
    cases s with
    | none =>
      obtain ⟨z1, z2⟩ := e4 rfl
      subst q3
      exact ⟨x, D', ⟨by omega, by omega⟩, e1, e2, e3, z1, z2⟩
    | some v =>
      obtain ⟨z1, z2, z3, z4, z5, z6⟩ := e5 v rfl
      subst q3
      exact ⟨x, D', ⟨by omega, by omega⟩, e1, e2, e3, z1, z2, z3, z4, z5, by omega⟩
end Mcr
