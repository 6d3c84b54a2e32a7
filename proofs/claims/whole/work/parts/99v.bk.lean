/-! A new rulebook. -/
section Bk_
variable {n : Nat} {A A' : aA} {D D' : aD} {d : Nat} {s : am_S} {k : Int}
abbrev P_i224 : Nat → Option am_E := am_fy tb_Jxa1e45_init_da8c8
abbrev P_i225 : Nat → Option am_E := am_fy tb_Jxc12de_init_da8c8
abbrev P_i226 : Nat → Option am_E := am_fy tb_Jx4a65c_init_da8c8
abbrev P_i57 : Nat → Option am_E := am_fy tb_X7_init
theorem rw_i224 {a : Nat} {fs : List am_V} (hl : s.1[a]? = some (.inl (0, fs))) : dn (d + 1) 224 [am_r (some a)] s = some (none, s) := by
  rw [dn_s (P := P_i224) (n := 1) (lo := [some (am_r (some a))]) rfl rfl rfl]
  refine (m_aload_n (q := 1) rfl rfl rfl rfl).trans ?_
  refine (x_ob (q := 4) rfl rfl rfl rfl rfl rfl (is_of hl)).trans ?_
  exact m_retv rfl rfl
theorem rw_i225 {a : Nat} {f0 f1 f2 : am_V} (hl : s.1[a]? = some (.inl (0, [f0, f1, f2]))) (h32 : 32 ≤ a) : dn (d + 2) 225 [am_r (some a)] s = some (none, (s.1.set a (.inl (0, [am_i 0, f1, f2])), s.2)) := by
  rw [dn_s (P := P_i225) (n := 1) (lo := [some (am_r (some a))]) rfl rfl rfl]
  refine (m_aload_n (q := 1) rfl rfl rfl rfl).trans ?_
  refine (x_cp (rk := 0) (r := some a) (as := []) (rest := []) (q := 4) rfl rfl rfl rfl rfl rfl rfl rfl rfl rfl (is_of hl)).trans ?_
  rw [rw_i224 hl]
  refine (m_aload_n (P := P_i225) (q := 5) rfl rfl rfl rfl).trans ?_
  refine (m_iconst (q := 6) rfl rfl rfl).trans ?_
  refine (x_pfi (q := 9) rfl rfl rfl (put_of hl h32 (show (0 : Nat) < 3 by decide))).trans ?_
  exact m_retv rfl rfl
theorem rw_i226 {a : Nat} {f0 f1 f2 : am_V} (hl : s.1[a]? = some (.inl (0, [f0, f1, f2]))) (h32 : 32 ≤ a) : dn (d + 3) 226 [am_r (some a)] s = some (none, (s.1.set a (.inl (0, [am_i 0, am_r (some 1), f2])), s.2)) := by
  have hlt := (List.getElem?_eq_some_iff.mp hl).1
  rw [dn_s (P := P_i226) (n := 1) (lo := [some (am_r (some a))]) rfl rfl rfl]
  refine (m_aload_n (q := 1) rfl rfl rfl rfl).trans ?_
  refine (x_cp (rk := 0) (r := some a) (as := []) (rest := []) (q := 4) rfl rfl rfl rfl rfl rfl rfl rfl rfl rfl (is_of hl)).trans ?_
  rw [rw_i225 hl h32]
  refine (m_aload_n (P := P_i226) (q := 5) rfl rfl rfl rfl).trans ?_
  refine (m_getstar (q := 8) rfl rfl rfl).trans ?_
  refine (x_pfr (q := 11) rfl rfl rfl (put_S hlt h32 (show (1 : Nat) < 3 by decide))).trans ?_
  exact m_retv rfl rfl
abbrev l3 : am_Ce := .inl (0, [am_i 0, am_r (some 1), am_i 0])
abbrev l30 : am_Ce := .inl (0, [am_i 0, am_r none, am_i 0])
abbrev r6 : am_Ce := .inr (.inl (0, 6, fun _ => 0))
theorem rw_i57 {a : Nat} {f0 f1 f2 f3 f4 f5 f6 f7 f8 f9 f10 f11 : am_V} {v1 v2 : Int32} (hl : s.1[a]? = some (.inl (8, [f0, f1, f2, f3, f4, f5, f6, f7, f8, f9, f10, f11]))) (h32 : 32 ≤ a) : dn (d + 4) 57 [am_r (some a), am_i v1, am_i v2] s = some (none, ((s.1 ++ [l3] ++ [r6] ++ [r6] ++ [r6]).set a (.inl (8, [am_i v1, am_i v2, am_r (some s.1.length), am_r (some (s.1.length + 1)), am_r (some (s.1.length + 2)), am_r (some (s.1.length + 3)), am_i (wz 30), f7, f8, f9, am_i (wz 3), f11])), s.2 + 3 + 6 + 6 + 6)) := by
  have hlt0 := (List.getElem?_eq_some_iff.mp hl).1
  have hL : 32 ≤ s.1.length := by omega
  rw [dn_s (P := P_i57) (n := 3) (lo := [some (am_r (some a)), some (am_i v1), some (am_i v2)]) rfl rfl rfl]
  refine (m_aload_n (q := 1) rfl rfl rfl rfl).trans ?_
  refine (x_ob (q := 4) rfl rfl rfl rfl rfl rfl (is_of hl)).trans ?_
  refine (m_aload_n (q := 5) rfl rfl rfl rfl).trans ?_
  refine (x_new (q := 8) (fs := [am_i 0, am_r none, am_i 0]) rfl rfl rfl rfl).trans ?_
  refine (m_dup (q := 9) rfl rfl rfl rfl).trans ?_
  refine (x_cp (rk := 0) (r := some s.1.length) (as := []) (rest := [am_r (some s.1.length), am_r (some a)]) (q := 12) rfl rfl rfl rfl rfl rfl rfl rfl rfl rfl (is_of ap_at)).trans ?_
  refine (congrArg (fun z => am_ans 0 z (fun st s => mr (d + 3) P_i57 12 [some (am_r (some a)), some (am_i v1), some (am_i v2)] st s) [am_r (some s.1.length), am_r (some a)]) (rw_i226 (d := d) (s := (s.1 ++ [l30], s.2 + 3)) (f0 := am_i 0) (f1 := am_r none) (f2 := am_i 0) ap_at hL)).trans ?_
  simp only [ap_set]
  have hl1 : (s.1 ++ [l3])[a]? = some (.inl (8, [f0, f1, f2, f3, f4, f5, f6, f7, f8, f9, f10, f11])) := ap_lt hl
  have hlt1 : a < (s.1 ++ [l3]).length := by rw [List.length_append]; omega
  have hlt2 : a < (s.1 ++ [l3] ++ [r6]).length := by rw [List.length_append]; omega
  have hlt3 : a < (s.1 ++ [l3] ++ [r6] ++ [r6]).length := by rw [List.length_append]; omega
  have hlt4 : a < (s.1 ++ [l3] ++ [r6] ++ [r6] ++ [r6]).length := by rw [List.length_append]; omega
  refine (x_pfr (P := P_i57) (q := 15) rfl rfl rfl (put_of hl1 h32 (show (2 : Nat) < 12 by decide))).trans ?_
  refine (m_aload_n (q := 16) rfl rfl rfl rfl).trans ?_
  refine (m_bipush (q := 18) rfl rfl rfl).trans ?_
  refine (x_na (q := 20) rfl rfl rfl ⟨by decide, by decide⟩).trans ?_
  simp only [List.length_set]
  rw [← List.set_append_left _ _ hlt1]
  refine (x_pfr (q := 23) rfl rfl rfl (put_S hlt2 h32 (show (3 : Nat) < 12 by decide))).trans ?_
  refine (m_aload_n (q := 24) rfl rfl rfl rfl).trans ?_
  refine (m_bipush (q := 26) rfl rfl rfl).trans ?_
  refine (x_na (q := 28) rfl rfl rfl ⟨by decide, by decide⟩).trans ?_
  simp only [List.length_set]
  rw [← List.set_append_left _ _ hlt2]
  refine (x_pfr (q := 31) rfl rfl rfl (put_S hlt3 h32 (show (4 : Nat) < 12 by decide))).trans ?_
  refine (m_aload_n (q := 32) rfl rfl rfl rfl).trans ?_
  refine (m_bipush (q := 34) rfl rfl rfl).trans ?_
  refine (x_na (q := 36) rfl rfl rfl ⟨by decide, by decide⟩).trans ?_
  simp only [List.length_set]
  rw [← List.set_append_left _ _ hlt3]
  refine (x_pfr (q := 39) rfl rfl rfl (put_S hlt4 h32 (show (5 : Nat) < 12 by decide))).trans ?_
  refine (m_aload_n (q := 40) rfl rfl rfl rfl).trans ?_
  refine (m_bipush (q := 42) rfl rfl rfl).trans ?_
  refine (x_pfi (q := 45) rfl rfl rfl (put_S hlt4 h32 (show (6 : Nat) < 12 by decide))).trans ?_
  refine (m_aload_n (q := 46) rfl rfl rfl rfl).trans ?_
  refine (m_iconst (q := 47) rfl rfl rfl).trans ?_
  refine (x_pfi (q := 50) rfl rfl rfl (put_S hlt4 h32 (show (10 : Nat) < 12 by decide))).trans ?_
  refine (m_aload_n (q := 51) rfl rfl rfl rfl).trans ?_
  refine (m_iload_n (q := 52) rfl rfl rfl rfl).trans ?_
  refine (x_pfi (q := 55) rfl rfl rfl (put_S hlt4 h32 (show (0 : Nat) < 12 by decide))).trans ?_
  refine (m_aload_n (q := 56) rfl rfl rfl rfl).trans ?_
  refine (m_iload_n (q := 57) rfl rfl rfl rfl).trans ?_
  refine (x_pfi (q := 60) rfl rfl rfl (put_S hlt4 h32 (show (1 : Nat) < 12 by decide))).trans ?_
  refine (m_retv rfl rfl).trans ?_
  simp only [List.length_append, List.length_cons, List.length_nil]
  rfl
end Bk_
