/-! Things that are there. -/
theorem b01 {c : Prop} [Decidable c] {x y : Int} (h1 : c → 0 ≤ x ∧ x ≤ 1) (h2 : ¬ c → 0 ≤ y ∧ y ≤ 1) : 0 ≤ (if c then x else y) ∧ (if c then x else y) ≤ 1 := by
  by_cases h : c
  · rw [if_pos h]; exact h1 h
  · rw [if_neg h]; exact h2 h
theorem rg_c {x y : Int} (h : rg x) (e : x = y) : rg y := e ▸ h
section Fl
variable {n : Nat} {A : aA} {D : aD} {s : am_S}
theorem Rp_fx0_0 (h : Rp n A D s) : D 900 0 = 1 := (Rp_cl h).2.2.2.2.2.2.2.2.2.2.2.1
theorem Rp_fx0_1 (h : Rp n A D s) : D 900 1 = 1 := (Rp_cl h).2.2.2.2.2.2.2.2.2.2.2.2.1
theorem Rp_fx0_2 (h : Rp n A D s) : D 900 2 = 1 := (Rp_cl h).2.2.2.2.2.2.2.2.2.2.2.2.2.1
theorem Rp_fx0_3 (h : Rp n A D s) : D 900 3 = 1 := (Rp_cl h).2.2.2.2.2.2.2.2.2.2.2.2.2.2.1
theorem Rp_fx0_4 (h : Rp n A D s) : D 900 4 = 1 := (Rp_cl h).2.2.2.2.2.2.2.2.2.2.2.2.2.2.2.1
theorem Rp_fx0_5 (h : Rp n A D s) : D 900 5 = 1 := (Rp_cl h).2.2.2.2.2.2.2.2.2.2.2.2.2.2.2.2.1
theorem Rp_fx0_16 (h : Rp n A D s) : D 900 16 = 1 := (Rp_cl h).2.2.2.2.2.2.2.2.2.2.2.2.2.2.2.2.2.1
theorem Rp_fx2_0 (h : Rp n A D s) : D 902 0 = 1 := (Rp_cl h).2.2.2.2.2.2.2.2.2.2.2.2.2.2.2.2.2.2.1
theorem Rp_fx2_1 (h : Rp n A D s) : D 902 1 = 1 := (Rp_cl h).2.2.2.2.2.2.2.2.2.2.2.2.2.2.2.2.2.2.2.1
theorem Rp_fx14_8 (h : Rp n A D s) : D 914 8 = 1 := (Rp_cl h).2.2.2.2.2.2.2.2.2.2.2.2.2.2.2.2.2.2.2.2.1
theorem Rp_fx23_8 (h : Rp n A D s) : D 923 8 = 1 := (Rp_cl h).2.2.2.2.2.2.2.2.2.2.2.2.2.2.2.2.2.2.2.2.2.1
theorem Rp_fx24_8 (h : Rp n A D s) : D 924 8 = 1 := (Rp_cl h).2.2.2.2.2.2.2.2.2.2.2.2.2.2.2.2.2.2.2.2.2.2.1
theorem Rp_fx25_8 (h : Rp n A D s) : D 925 8 = 1 := (Rp_cl h).2.2.2.2.2.2.2.2.2.2.2.2.2.2.2.2.2.2.2.2.2.2.2
theorem Rp_f10_20 {i : Int} (h : Rp n A D s) (f : D 910 i = 1) : D 920 i = 1 := (Rp_cl h).2.2.1 i f
theorem Rp_f11_21 {i : Int} (h : Rp n A D s) (f : D 911 i = 1) : D 921 i = 1 := (Rp_cl h).2.2.2.1 i f
theorem Rp_f13_10 {i : Int} (h : Rp n A D s) (f : D 913 i = 1) : D 910 (D 2300 i) = 1 := ((Rp_cl h).2.2.2.2.1 i f).1
theorem Rp_f13_11 {i : Int} (h : Rp n A D s) (f : D 913 i = 1) : D 911 (D 2301 i) = 1 := ((Rp_cl h).2.2.2.2.1 i f).2
theorem Rp_f14_0 {i : Int} (h : Rp n A D s) (f : D 914 i = 1) : D 900 (8 + i) = 1 := ((Rp_cl h).2.2.2.2.2.1 i f).1
theorem Rp_f14_23 {i : Int} (h : Rp n A D s) (f : D 914 i = 1) : D 923 i = 1 := ((Rp_cl h).2.2.2.2.2.1 i f).2.1
theorem Rp_f14_24 {i : Int} (h : Rp n A D s) (f : D 914 i = 1) : D 924 i = 1 := ((Rp_cl h).2.2.2.2.2.1 i f).2.2.1
theorem Rp_f14_25 {i : Int} (h : Rp n A D s) (f : D 914 i = 1) : D 925 i = 1 := ((Rp_cl h).2.2.2.2.2.1 i f).2.2.2
theorem Rp_f15_10 {i : Int} (h : Rp n A D s) (f : D 915 i = 1) : D 910 (D 2501 i) = 1 := ((Rp_cl h).2.2.2.2.2.2.1 i f).1
theorem Rp_f15_11 {i : Int} (h : Rp n A D s) (f : D 915 i = 1) : D 911 (D 2502 i) = 1 := ((Rp_cl h).2.2.2.2.2.2.1 i f).2
theorem Rp_f16_22 {i : Int} (h : Rp n A D s) (f : D 916 i = 1) : D 2605 i ≠ 0 → D 922 i = 1 := fun q => ((Rp_cl h).2.2.2.2.2.2.2.1 i f).resolve_left q
theorem Rp_ch0 {k : Int} (h : Rp n A D s) (f : 0 ≤ D 1200 k) : D 911 (D 1200 k) = 1 := ((Rp_cl h).2.2.2.2.2.2.2.2.1 k).resolve_left (by omega)
theorem Rp_ch1 {k : Int} (h : Rp n A D s) (f : 0 ≤ D 1201 k) : D 910 (D 1201 k) = 1 := ((Rp_cl h).2.2.2.2.2.2.2.2.2.1 k).resolve_left (by omega)
theorem Rp_el0 {i : Int} (h : Rp n A D s) (f : 0 ≤ i ∧ i < D 1002 0) : D 910 i = 1 := by
  have := (Rp_cl h).2.1 0 i (Rp_fx0_0 h) f.1 f.2
  have e : ebs 0 + i = i := by unfold ebs; rw [if_pos (by decide)]; omega
  rw [e] at this; exact this
theorem Rp_el1 {i : Int} (h : Rp n A D s) (f : 0 ≤ i ∧ i < D 1002 1) : D 911 i = 1 := by
  have := (Rp_cl h).2.1 1 i (Rp_fx0_1 h) f.1 f.2
  have e : ebs 1 + i = i := by unfold ebs; rw [if_pos (by decide)]; omega
  rw [e] at this; exact this
theorem Rp_el2 {i : Int} (h : Rp n A D s) (f : 0 ≤ i ∧ i < D 1002 2) : D 912 i = 1 := by
  have := (Rp_cl h).2.1 2 i (Rp_fx0_2 h) f.1 f.2
  have e : ebs 2 + i = i := by unfold ebs; rw [if_pos (by decide)]; omega
  rw [e] at this; exact this
theorem Rp_el3 {i : Int} (h : Rp n A D s) (f : 0 ≤ i ∧ i < D 1002 3) : D 913 i = 1 := by
  have := (Rp_cl h).2.1 3 i (Rp_fx0_3 h) f.1 f.2
  have e : ebs 3 + i = i := by unfold ebs; rw [if_pos (by decide)]; omega
  rw [e] at this; exact this
theorem Rp_el4 {i : Int} (h : Rp n A D s) (f : 0 ≤ i ∧ i < D 1002 4) : D 914 i = 1 := by
  have := (Rp_cl h).2.1 4 i (Rp_fx0_4 h) f.1 f.2
  have e : ebs 4 + i = i := by unfold ebs; rw [if_pos (by decide)]; omega
  rw [e] at this; exact this
theorem Rp_el5 {i : Int} (h : Rp n A D s) (f : 0 ≤ i ∧ i < D 1002 5) : D 915 i = 1 := by
  have := (Rp_cl h).2.1 5 i (Rp_fx0_5 h) f.1 f.2
  have e : ebs 5 + i = i := by unfold ebs; rw [if_pos (by decide)]; omega
  rw [e] at this; exact this
theorem ebs_b (b i : Int) (h : 0 ≤ b) : ety (8 + b) = 16 ∧ ebs (8 + b) + i = 64 * b + i := by
  unfold ety ebs
  rw [if_neg (by omega), if_neg (by omega), if_neg (by omega), if_neg (by omega), if_neg (by omega), if_neg (by omega), if_neg (by omega)]
  exact ⟨rfl, by omega⟩
end Fl
