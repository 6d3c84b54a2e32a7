/-! Unfolding with the dead locals cleared at each stop: equations between stops have one shape. -/
def am_kp (P : Nat → Option am_E) (pc : Nat) : List Nat := match P pc with
  | some e => e.1
  | none => []
theorem am_kill_ln {ks : List Nat} : ∀ {lo : am_L}, (am_kill ks lo).length = lo.length := by
  induction ks with
  | nil => intro lo; rfl
  | cons k ks ih => intro lo; show (am_kill ks (lo.set k none)).length = _; rw [ih, List.length_set]
theorem am_kill_get {ks : List Nat} : ∀ {lo : am_L} {j : Nat}, (am_kill ks lo)[j]? = if j ∈ ks ∧ j < lo.length then some none else lo[j]? := by
  induction ks with
  | nil => intro lo j; simp [am_kill]
  | cons k ks ih =>
    intro lo j
    show (am_kill ks (lo.set k none))[j]? = _
    rw [ih, List.length_set]
    by_cases hj : j < lo.length
    · by_cases h1 : j ∈ ks
      · simp [h1, hj]
      · by_cases h2 : k = j
        · subst h2
          simp [h1, hj]
        · rw [List.getElem?_set_ne h2]
          simp only [List.mem_cons, h1, or_false, false_and, if_false]
          rw [if_neg (fun q => h2 q.1.symm)]
    · have e1 : lo[j]? = none := by simp; omega
      have e2 : (lo.set k none)[j]? = none := by simp; omega
      simp [hj, e1, e2]
theorem am_kill_idem {ks : List Nat} {lo : am_L} : am_kill ks (am_kill ks lo) = am_kill ks lo := by
  apply List.ext_getElem?
  intro j
  rw [am_kill_get, am_kill_get, am_kill_ln]
  by_cases h : j ∈ ks ∧ j < lo.length
  · rw [if_pos h, if_pos h]
  · rw [if_neg h, if_neg h]
section Ug
variable (D : Nat → List am_V) (C : am_Cl) (P : Nat → Option am_E)
theorem am_run_kill (pc : Nat) (lo : am_L) (st : List am_V) (s : am_S) : am_run D C P pc lo st s = am_run D C P pc (am_kill (am_kp P pc) lo) st s := by
  rw [am_run_eq, am_run_eq D C P pc (am_kill (am_kp P pc) lo)]
  unfold am_sx am_kp
  cases hp : P pc with
  | none => rfl
  | some e => simp only [am_kill_idem]
noncomputable def am_ug (stop : Nat → Bool) : Nat → Nat → am_L → List am_V → am_S → Option am_R
  | 0 => am_run D C P
  | n + 1 => am_sx D C P some fun pc lo st s => match stop pc with
    | true => am_run D C P pc (am_kill (am_kp P pc) lo) st s
    | false => am_ug stop n pc lo st s
theorem am_ug_eq (stop : Nat → Bool) (n : Nat) : ∀ (pc : Nat) (lo : am_L) (st : List am_V) (s : am_S), am_run D C P pc lo st s = am_ug D C P stop n pc lo st s := by
  induction n with
  | zero => intro pc lo st s; rfl
  | succ n ih =>
    intro pc lo st s
    rw [am_run_eq]
    show _ = am_sx D C P some (fun pc lo st s => match stop pc with | true => am_run D C P pc (am_kill (am_kp P pc) lo) st s | false => am_ug D C P stop n pc lo st s) pc lo st s
    congr 1
    funext pc lo st s
    cases stop pc with
    | true => exact am_run_kill D C P pc lo st s
    | false => exact ih pc lo st s
end Ug
def am_sp : List Nat → Nat → Bool
  | [], _ => false
  | k :: ks, pc => match Nat.beq k pc with
    | true => true
    | false => am_sp ks pc
