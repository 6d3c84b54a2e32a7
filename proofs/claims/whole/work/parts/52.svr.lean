/-! servant's run from new to the adopted thing. -/
section Sr
variable {n : Nat} {A A' : aA} {D D' : aD} {d : Nat} {P : Nat → Option am_E} {pc q : Nat} {lo : am_L} {st : List am_V} {s : am_S} {ks : List Nat} {ln : Nat}
theorem x_new {i : Nat} {x : am_X} {fs : List am_V} (h : P pc = some (ks, .new i, ln, x)) (hk : am_kill ks lo = lo) (hq : pc + 3 = q) (hf : am_dfl x.1 = fs) : mr d P pc lo st s = mr d P q lo (am_r (some s.1.length) :: st) (s.1 ++ [.inl (x.1, fs)], s.2 + fs.length) := by
  subst hq; subst hf
  rw [mx h hk]; rfl
theorem ap2 {h : List am_Ce} {c c' x : am_Ce} : (h ++ [c] ++ [x]).set h.length c' = h ++ [c', x] := by
  rw [List.append_assoc, List.set_append_right _ _ (Nat.le_refl _), Nat.sub_self]; rfl
abbrev P_sv : Nat → Option am_E := am_fy tb_X11_servant
theorem sv_new {v1 v2 v3 v4 v5 : Int} (hr : Rp n A D s) (h9 : ∀ i, D 901 i = 1 → D 900 i = 1) (hn : D 910 (D 1002 0) ≠ 1 ∧ D 920 (D 1002 0) ≠ 1) (h1 : rg v1) (h2 : rg v2) (h3 : rg v3) (hh : D 950 0 ≤ 1000000000 ∧ D 951 0 ≤ 1000000000) : ∃ s', mr (d + 1) P_sv 70 [some (am_r (some 32)), some (am_i (wz v1)), some (am_i (wz v2)), some (am_i (wz v3)), some (am_i (wz v4)), some (am_i (wz v5))] [] s = mr (d + 1) P_sv 91 [some (am_r (some 32)), some (am_i (wz v1)), some (am_i (wz v2)), some (am_i (wz v3)), some (am_i (wz v4)), some (am_i (wz v5))] [am_r (some s.1.length), am_r (some (A 0 0))] s' ∧ Rp n (svA A (D 1002 0) s.1.length) (svD D (D 1002 0) (D 1002 0) v1 v2 v3) s' := by
  have f0 : D 900 0 = 1 := (Rp_cl hr).2.2.2.2.2.2.2.2.2.2.2.1
  have h950 := Rp_rg hr 950 0
  have h951 := Rp_rg hr 951 0
  unfold rg at h950 h951
  have h135 : 32 ≤ s.1.length := by obtain ⟨_, F, H⟩ := hr; have := Rp0_135 H; omega
  have hg := Rp_grow (cs := [.inl (9, [am_i 0, am_i 0, am_i 0, am_i 0, am_r none])]) (k := 5) hr ⟨by simp only [List.length_singleton]; omega, by simp only [List.length_singleton]; omega⟩ ⟨by omega, by omega⟩
  refine ⟨_, ?_, Rp_sv (a := D 1002 0) (b := v1) (c := v2) (e := v3) hr h9 hn (Rp_rg hr 1002 0) h1 h2 h3 hh⟩
  refine (m_aload_n (q := 71) rfl rfl rfl rfl).trans ?_
  refine (m_gfy (t := 0) (i := 0) (q := 74) rfl rfl rfl hr rfl rfl rfl).trans ?_
  refine (x_new (q := 77) (fs := [am_i 0, am_i 0, am_i 0, am_i 0, am_r none]) rfl rfl rfl rfl).trans ?_
  refine (m_dup (q := 78) rfl rfl rfl rfl).trans ?_
  refine (m_aload_n (q := 79) rfl rfl rfl rfl).trans ?_
  refine (m_gfy (t := 0) (i := 0) (q := 82) rfl rfl rfl hg rfl rfl rfl).trans ?_
  have f0' : (up (up D 950 0 (D 950 0 + (([.inl (9, [am_i 0, am_i 0, am_i 0, am_i 0, am_r none])] : List am_Ce).length : Nat))) 951 0 (D 951 0 + (5 : Nat))) 900 0 = 1 := by
    rw [up_c (by decide), up_c (by decide)]; exact f0
  refine (x_cv (rk := 1) (r := some (A 0 0)) (as := []) (rest := [am_r (some s.1.length), am_r (some s.1.length), am_r (some (A 0 0))]) (q := 85) rfl rfl rfl rfl rfl rfl rfl rfl rfl rfl (is_ty hg rfl f0')).trans ?_
  rw [rw_size 0 hg f0', up_c (by decide), up_c (by decide)]
  refine (m_iload_n (q := 86) rfl rfl rfl rfl).trans ?_
  refine (m_iload_n (q := 87) rfl rfl rfl rfl).trans ?_
  refine (m_iload_n (q := 88) rfl rfl rfl rfl).trans ?_
  refine (x_cp (rk := 0) (r := some s.1.length) (as := [am_i (wz (D 1002 0)), am_i (wz v1), am_i (wz v2), am_i (wz v3)]) (rest := [am_r (some s.1.length), am_r (some (A 0 0))]) (q := 91) rfl rfl rfl rfl rfl rfl rfl rfl rfl rfl (is_of ap_at)).trans ?_
  refine (congrArg (fun z => am_ans 0 z (fun st s => mr (d + 1) P_sv 91 [some (am_r (some 32)), some (am_i (wz v1)), some (am_i (wz v2)), some (am_i (wz v3)), some (am_i (wz v4)), some (am_i (wz v5))] st s) [am_r (some s.1.length), am_r (some (A 0 0))]) (rw_i66 (d := d) (s := (s.1 ++ [.inl (9, [am_i 0, am_i 0, am_i 0, am_i 0, am_r none])], s.2 + 5)) (v1 := wz (D 1002 0)) (v2 := wz v1) (v3 := wz v2) (v4 := wz v3) ap_at h135)).trans ?_
  simp only [ap2, List.length_append, List.length_cons, List.length_nil, Nat.zero_add]
  rfl
theorem Rp_len (hr : Rp n A D s) : (D 950 0).toNat = s.1.length := by
  obtain ⟨_, F, H⟩ := hr
  have h := H.2.2.2.2.1.1
  rw [mxx_v rfl] at h; omega
theorem addA_0 {l i : Int} : addA A D l 0 i = A 0 i := by
  unfold addA; split
  · exact upA_t (by decide)
  · rfl
theorem addD_900 {l i : Int} : addD D l 900 i = D 900 i := by
  unfold addD; split
  · exact addX_o 900 i (by omega) (by decide) (by decide)
  · exact addM_o 900 i (by omega)
theorem addD_2 {l : Int} : addD D l 1002 l = D 1002 l + 1 := by
  unfold addD; split
  · exact addX_2
  · exact addM_2
theorem sv_all {v1 v2 v3 v4 v5 : Int} (hr : Rp n A D s) (h9 : ∀ i, D 901 i = 1 → D 900 i = 1) (hn : D 910 (D 1002 0) ≠ 1 ∧ D 920 (D 1002 0) ≠ 1) (hs : D 1002 0 < 1000) (hp : D 901 0 = 1 → 0 < D 1100 0) (h1 : rg v1) (h2 : rg v2) (h3 : rg v3) (hh : D 950 0 ≤ 100000000 ∧ D 951 0 ≤ 100000000) : OK n (mr (d + 6) P_sv 70 [some (am_r (some 32)), some (am_i (wz v1)), some (am_i (wz v2)), some (am_i (wz v3)), some (am_i (wz v4)), some (am_i (wz v5))] [] s) (ri (D 1002 0)) (addA (svA A (D 1002 0) (D 950 0).toNat) (svD D (D 1002 0) (D 1002 0) v1 v2 v3) 0) (addD (svD D (D 1002 0) (D 1002 0) v1 v2 v3) 0) := by
  have f0 : D 900 0 = 1 := (Rp_cl hr).2.2.2.2.2.2.2.2.2.2.2.1
  have hrg := Rp_rg hr 1002 0
  obtain ⟨s1, e1, r1⟩ := sv_new (d := d + 5) (v4 := v4) (v5 := v5) hr h9 hn h1 h2 h3 ⟨by omega, by omega⟩
  rw [e1, Rp_len hr]
  generalize hD1 : svD D (D 1002 0) (D 1002 0) v1 v2 v3 = D1 at r1 ⊢
  generalize hA1 : svA A (D 1002 0) s.1.length = A1 at r1 ⊢
  have k0 : D1 1002 0 = D 1002 0 := by rw [← hD1]; exact svD_o (by decide)
  have k1 : D1 900 0 = 1 := by rw [← hD1]; exact (svD_o (by decide)).trans f0
  have k2 : D1 910 (D 1002 0) = 1 := by rw [← hD1, svD_910, if_pos rfl]
  have k3 : D1 901 0 = 1 → 0 < D1 1100 0 := by rw [← hD1, svD_o (by decide), svD_o (by decide)]; exact hp
  have k4 : D1 950 0 ≤ 1000000000 ∧ D1 951 0 ≤ 1000000000 := by rw [← hD1, svD_h.1, svD_h.2]; omega
  have a0 : A1 0 0 = A 0 0 := by rw [← hA1]; exact svA_o (by omega) (by omega)
  have a1 : A1 10 (D 1002 0) = s.1.length := by rw [← hA1]; exact svA_10
  obtain ⟨s2, e2, r2⟩ := Rp_add (d := d) (l := 0) r1 k1 (by rw [k0]; exact hs) (by rw [k0]; show D1 910 (0 + D 1002 0) = 1; rw [Int.zero_add]; exact k2) k3 k4
  have e2' : dn (d + 6) 233 [am_r (some (A 0 0)), am_r (some s.1.length)] s1 = some (some (am_i (wz 1)), s2) := by
    rw [← a0, ← a1]
    have : A1 (ety 0) (ebs 0 + D1 1002 0) = A1 10 (D 1002 0) := by rw [k0]; show A1 10 (0 + D 1002 0) = _; rw [Int.zero_add]
    rw [← this]; exact e2
  have is1 : am_is s1.1 (some (A 0 0)) 0 = true := by rw [← a0]; exact is_ty r1 rfl k1
  have k1' : addD D1 0 900 0 = 1 := addD_900.trans k1
  have a2 : addA A1 D1 0 0 0 = A 0 0 := addA_0.trans a0
  have k5 : addD D1 0 1002 0 = D 1002 0 + 1 := by rw [addD_2, k0]
  refine ⟨some (am_i (wz (D 1002 0))), s2, ?_, ⟨rfl, hrg⟩, r2⟩
  refine (x_cv (rk := 1) (r := some (A 0 0)) (as := [am_r (some s.1.length)]) (rest := []) (q := 94) rfl rfl rfl rfl rfl rfl rfl rfl rfl rfl is1).trans ?_
  rw [e2']
  refine (m_popi (q := 95) rfl rfl rfl).trans ?_
  refine (m_aload_n (q := 96) rfl rfl rfl rfl).trans ?_
  refine (m_gfy (t := 0) (i := 0) (q := 99) rfl rfl rfl r2 rfl rfl rfl).trans ?_
  refine (x_cv (rk := 1) (r := some (addA A1 D1 0 0 0)) (as := []) (rest := []) (q := 102) rfl rfl rfl rfl rfl rfl rfl rfl rfl rfl (is_ty r2 rfl k1')).trans ?_
  rw [rw_size (d := d + 5) 0 r2 k1', k5]
  refine (m_iconst (q := 103) rfl rfl rfl).trans ?_
  refine (m_isub (q := 104) rfl rfl rfl).trans ?_
  rw [show D 1002 0 + 1 - 1 = D 1002 0 by omega, wr_id hrg.1 hrg.2]
  exact m_reti rfl rfl
end Sr
