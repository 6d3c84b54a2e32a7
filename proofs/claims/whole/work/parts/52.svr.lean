/-! servant's run from new to the adopted thing. -/
section Sr
variable {n : Nat} {A A' : aA} {D D' : aD} {d : Nat} {P : Nat → Option am_E} {pc q : Nat} {lo : am_L} {st : List am_V} {s : am_S} {ks : List Nat} {ln : Nat}
theorem x_new {i : Nat} {x : am_X} {fs : List am_V} (h : P pc = some (ks, .new i, ln, x)) (hk : am_kill ks lo = lo) (hq : pc + 3 = q) (hf : am_dfl x.1 = fs) : mr d P pc lo st s = mr d P q lo (am_r (some s.1.length) :: st) (s.1 ++ [.inl (x.1, fs)], s.2 + fs.length) := by
  subst hq; subst hf
  rw [mx h hk]; rfl
theorem ap2 {h : List am_Ce} {c c' x : am_Ce} : (h ++ [c] ++ [x]).set h.length c' = h ++ [c', x] := by
  rw [List.append_assoc, List.set_append_right _ _ (Nat.le_refl _), Nat.sub_self]; rfl
abbrev P_sv : Nat → Option am_E := am_fy tb_X11_servant
theorem sv_new {v1 v2 v3 v4 v5 : Int} (hr : Rp n A D s) (h9 : ∀ i, D 901 i = 1 → D 900 i = 1) (hn : D 910 (D 1002 0) ≠ 1 ∧ D 920 (D 1002 0) ≠ 1) (h1 : rg v1) (h2 : rg v2) (h3 : rg v3) (hh : D 950 0 ≤ 1000000000 ∧ D 951 0 ≤ 1000000000) : ∃ s', mr (d + 1) P_sv 70 [some (am_r (some 32)), some (am_i (wz v1)), some (am_i (wz v2)), some (am_i (wz v3)), some (am_i (wz v4)), some (am_i (wz v5))] [] s = mr (d + 1) P_sv 91 [some (am_r (some 32)), some (am_i (wz v1)), some (am_i (wz v2)), some (am_i (wz v3)), some (am_i (wz v4)), some (am_i (wz v5))] [am_r (some s.1.length), am_r (some (A 0 0))] s' ∧ Rp n (svA A (D 1002 0) s.1.length) (svD D (D 1002 0) (D 1002 0) v1 v2 v3) s' := by
  have f0 : D 900 0 = 1 := (Rp_cl hr).2.2.2.2.2.2.2.2.2.2.2.1
  have h950 := Rp_rg hr 950 0
  have h951 := Rp_rg hr 951 0
  unfold rg at h950 h951
  have h135 : 32 ≤ s.1.length := by obtain ⟨_, F, H⟩ := hr; have := Rp0_135 H; omega
  have hg := Rp_grow (cs := [.inl (9, [am_i 0, am_i 0, am_i 0, am_i 0, am_r none])]) (k := 5) hr ⟨by simp only [List.length_singleton]; omega, by simp only [List.length_singleton]; omega⟩ ⟨by omega, by omega⟩
  refine ⟨_, ?_, Rp_sv (a := D 1002 0) (b := v1) (c := v2) (e := v3) hr h9 hn (Rp_rg hr 1002 0) h1 h2 h3 hh⟩
  refine (m_aload_n (q := 71) rfl rfl rfl rfl).trans ?_
  refine (m_gfy (t := 0) (i := 0) (q := 74) rfl rfl rfl hr rfl rfl rfl).trans ?_
  refine (x_new (q := 77) (fs := [am_i 0, am_i 0, am_i 0, am_i 0, am_r none]) rfl rfl rfl rfl).trans ?_
  refine (m_dup (q := 78) rfl rfl rfl rfl).trans ?_
  refine (m_aload_n (q := 79) rfl rfl rfl rfl).trans ?_
  refine (m_gfy (t := 0) (i := 0) (q := 82) rfl rfl rfl hg rfl rfl rfl).trans ?_
  have f0' : (up (up D 950 0 (D 950 0 + (([.inl (9, [am_i 0, am_i 0, am_i 0, am_i 0, am_r none])] : List am_Ce).length : Nat))) 951 0 (D 951 0 + (5 : Nat))) 900 0 = 1 := by
    rw [up_c (by decide), up_c (by decide)]; exact f0
  refine (x_cv (rk := 1) (r := some (A 0 0)) (as := []) (rest := [am_r (some s.1.length), am_r (some s.1.length), am_r (some (A 0 0))]) (q := 85) rfl rfl rfl rfl rfl rfl rfl rfl rfl rfl (is_ty hg rfl f0')).trans ?_
  rw [rw_size 0 hg f0', up_c (by decide), up_c (by decide)]
  refine (m_iload_n (q := 86) rfl rfl rfl rfl).trans ?_
  refine (m_iload_n (q := 87) rfl rfl rfl rfl).trans ?_
  refine (m_iload_n (q := 88) rfl rfl rfl rfl).trans ?_
  refine (x_cp (rk := 0) (r := some s.1.length) (as := [am_i (wz (D 1002 0)), am_i (wz v1), am_i (wz v2), am_i (wz v3)]) (rest := [am_r (some s.1.length), am_r (some (A 0 0))]) (q := 91) rfl rfl rfl rfl rfl rfl rfl rfl rfl rfl (is_of ap_at)).trans ?_
  refine (congrArg (fun z => am_ans 0 z (fun st s => mr (d + 1) P_sv 91 [some (am_r (some 32)), some (am_i (wz v1)), some (am_i (wz v2)), some (am_i (wz v3)), some (am_i (wz v4)), some (am_i (wz v5))] st s) [am_r (some s.1.length), am_r (some (A 0 0))]) (rw_i66 (d := d) (s := (s.1 ++ [.inl (9, [am_i 0, am_i 0, am_i 0, am_i 0, am_r none])], s.2 + 5)) (v1 := wz (D 1002 0)) (v2 := wz v1) (v3 := wz v2) (v4 := wz v3) ap_at h135)).trans ?_
  simp only [ap2, List.length_append, List.length_cons, List.length_nil, Nat.zero_add]
  rfl
end Sr
