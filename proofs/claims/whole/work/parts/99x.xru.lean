/-! The class's rules. -/
section Xru
variable {n c : Nat} {A A' : aA} {D D' : aD} {s : am_S}
abbrev P_X11_rules : Nat → Option am_E := am_fy tb_X11_rules
def K_X11_rules_33 (n : Nat) (c : Nat) (A : aA) (D : aD) (a1 : Int) (x : Int) (A' : aA) (D' : aD) : Prop := Lp n c P_X11_rules 33 [some (am_r (some 32)), some (am_i (wz a1)), none] [] A D (ri x) A' D'
def K_X11_rules_51 (n : Nat) (c : Nat) (A : aA) (D : aD) (a1 : Int) (ti0 : Int) (x : Int) (A' : aA) (D' : aD) : Prop := Lp n c P_X11_rules 51 [some (am_r (some 32)), some (am_i (wz a1)), none] [am_r (some (A 14 ti0))] A D (ri x) A' D'
def K_X11_rules_52 (n : Nat) (c : Nat) (A : aA) (D : aD) (a1 : Int) (i2 : Int) (x : Int) (A' : aA) (D' : aD) : Prop := Lp n c P_X11_rules 52 [some (am_r (some 32)), some (am_i (wz a1)), some (am_r (some (A 14 i2)))] [] A D (ri x) A' D'
def K_X11_rules_61 (n : Nat) (c : Nat) (A : aA) (D : aD) (a1 : Int) (i2 : Int) (ta0 : Int) (x : Int) (A' : aA) (D' : aD) : Prop := Lp n c P_X11_rules 61 [some (am_r (some 32)), some (am_i (wz a1)), some (am_r (some (A 14 i2)))] [am_i (wz ta0)] A D (ri x) A' D'
def K_X11_rules_75 (n : Nat) (c : Nat) (A : aA) (D : aD) (a1 : Int) (i2 : Int) (x : Int) (A' : aA) (D' : aD) : Prop := Lp n c P_X11_rules 75 [some (am_r (some 32)), some (am_i (wz a1)), some (am_r (some (A 14 i2)))] [] A D (ri x) A' D'
set_option maxRecDepth 100000 in
theorem rl_X11_rules {n : Nat} {A A' : aA} {D D' : aD} {c : Nat} (hc : 8 ≤ c) (a1 : Int) (h1 : rg a1) {x : Int} (hp : (if a1 < 0 then (A' = A ∧ x = (-2) ∧ D' = D) else (if a1 ≤ D 47 2 then (if D 1002 4 < 8 then K_X11_rules_33 (n) c A D a1 x A' D' else (A' = A ∧ x = (-3) ∧ D' = D)) else (A' = A ∧ x = (-2) ∧ D' = D)))) : Ev (n) (c + 1) 85 [am_r (some 32), am_i (wz a1)] A D (ri x) A' D' := by
  refine Ev_of (c := c) (P := P_X11_rules) (lo := [some (am_r (some 32)), some (am_i (wz a1)), none]) rfl rfl rfl (fun d hd s hr => ?_)
  refine ok (m_iload_n (q := 1) rfl rfl rfl rfl) ?_
  refine okc (m_iflt (qt := 15) (qf := 4) rfl rfl h1 rfl rfl) (fun c1 => ?_) (fun c1 => ?_)
  · replace hp := ip c1 hp
    refine ok (m_bipush (q := 17) rfl rfl rfl) ?_
    obtain ⟨rfl, hp⟩ := hp
    exact ok (m_reti rfl rfl) (ok_iq hr ⟨by decide, by decide⟩ hp)
  · replace hp := iq c1 hp
    refine ok (m_iload_n (q := 5) rfl rfl rfl rfl) ?_
    refine ok (m_aload_n (q := 6) rfl rfl rfl rfl) ?_
    refine ok (m_gfc (q := 9) rfl rfl rfl hr rfl rfl rfl) ?_
    refine ok (m_gfs (z := 2) (q := 12) rfl rfl rfl hr rfl rfl rfl rfl rfl) ?_
    refine okc (m_cmple (qt := 18) (qf := 15) rfl rfl h1 (Rp_rg hr 47 2) rfl rfl) (fun c2 => ?_) (fun c2 => ?_)
    · replace hp := ip c2 hp
      refine ok (m_aload_n (q := 19) rfl rfl rfl rfl) ?_
      have f_3 := Rp_fx0_4 hr
      refine ok (m_gfy (q := 22) rfl rfl rfl hr rfl rfl rfl) ?_
      refine oke (e_ci (x_cv (q := 25) rfl rfl rfl rfl rfl rfl rfl rfl rfl rfl (is_ty hr rfl f_3)) (ev_size 4 f_3) (Nat.le_trans (by decide) (Nat.le_trans hc hd)) hr) (fun s4 r5 => ?_)
      refine ok (m_bipush (q := 27) rfl rfl rfl) ?_
      refine okc (m_cmplt (qt := 33) (qf := 30) rfl rfl (show rg (D 1002 4) from Rp_rg hr 1002 4) ⟨by decide, by decide⟩ rfl rfl) (fun c6 => ?_) (fun c6 => ?_)
      · replace hp := ip c6 hp
        exact hp d hd _ r5
      · replace hp := iq c6 hp
        refine ok (m_bipush (q := 32) rfl rfl rfl) ?_
        obtain ⟨rfl, hp⟩ := hp
        exact ok (m_reti rfl rfl) (ok_iq r5 ⟨by decide, by decide⟩ hp)
    · replace hp := iq c2 hp
      refine ok (m_bipush (q := 17) rfl rfl rfl) ?_
      obtain ⟨rfl, hp⟩ := hp
      exact ok (m_reti rfl rfl) (ok_iq hr ⟨by decide, by decide⟩ hp)
set_option maxRecDepth 100000 in
theorem rl_X11_rules_51 {n : Nat} {A A' : aA} {D D' : aD} {c : Nat} (hc : 8 ≤ c) (a1 : Int) (ti0 : Int) (h1 : rg a1) (tf0 : D 914 ti0 = 1) {x : Int} (hp : K_X11_rules_52 (n) c A D a1 ti0 x A' D') : K_X11_rules_51 (n) c A D a1 ti0 x A' D' := by
  unfold K_X11_rules_51
  refine fun d hd s hr => ?_
  refine ok (m_astore_n (q := 52) (lo' := [some (am_r (some 32)), some (am_i (wz a1)), some (am_r (some (A 14 ti0)))]) rfl rfl rfl rfl rfl) ?_
  exact hp d hd _ hr
set_option maxRecDepth 100000 in
theorem rl_X11_rules_61 {n : Nat} {A A' : aA} {D D' : aD} {c : Nat} (hc : 8 ≤ c) (a1 : Int) (i2 : Int) (ta0 : Int) (h1 : rg a1) (f2 : D 914 i2 = 1) (th0 : rg ta0) (tb0 : 0 ≤ ta0 ∧ ta0 ≤ 1) {x : Int} (hp : (if ta0 = 0 then (A' = A ∧ x = (-1) ∧ D' = D) else (adK D 4 i2) ∧ K_X11_rules_75 (n) c (addA A D 4) (addD D 4) a1 i2 x A' D')) : K_X11_rules_61 (n) c A D a1 i2 ta0 x A' D' := by
  unfold K_X11_rules_61
  refine fun d hd s hr => ?_
  refine okc (m_ifne (qt := 66) (qf := 64) rfl rfl th0 rfl rfl) (fun c7 => ?_) (fun c7 => ?_)
  · replace hp := ip c7 hp
    refine ok (m_iconst (q := 65) rfl rfl rfl) ?_
    obtain ⟨rfl, hp⟩ := hp
    exact ok (m_reti rfl rfl) (ok_iq hr ⟨by decide, by decide⟩ hp)
  · replace hp := iq c7 hp
    refine ok (m_aload_n (q := 67) rfl rfl rfl rfl) ?_
    have f_8 := Rp_fx0_4 hr
    refine ok (m_gfy (q := 70) rfl rfl rfl hr rfl rfl rfl) ?_
    refine ok (m_aload_n (q := 71) rfl rfl rfl rfl) ?_
    obtain ⟨g11, hp⟩ := hp
    refine oke (e_ci (x_cv (q := 74) rfl rfl rfl rfl rfl rfl rfl rfl rfl rfl (is_ty hr rfl f_8)) (ev_addk (D := D) (l := 4) (e := i2) (t := 14) f_8 f2 rfl g11) (Nat.le_trans (by decide) (Nat.le_trans hc hd)) hr) (fun s9 r10 => ?_)
    refine ok (m_popi (q := 75) rfl rfl rfl) ?_
    exact ok (by first | rfl | (simp (disch := decide) only [addA_n]; rfl) | simp (disch := decide) only [addA_n]) (hp d hd _ r10)
set_option maxRecDepth 100000 in
theorem rl_X11_rules_75 {n : Nat} {A A' : aA} {D D' : aD} {c : Nat} (hc : 8 ≤ c) (a1 : Int) (i2 : Int) (h1 : rg a1) (f2 : D 914 i2 = 1) {x : Int} (hp : (A' = A ∧ x = D 2400 i2 ∧ D' = D)) : K_X11_rules_75 (n) c A D a1 i2 x A' D' := by
  unfold K_X11_rules_75
  refine fun d hd s hr => ?_
  refine ok (m_aload_n (q := 76) rfl rfl rfl rfl) ?_
  refine ok (m_gft (t := 14) (q := 79) rfl rfl rfl hr rfl f2 rfl rfl rfl) ?_
  obtain ⟨rfl, hp⟩ := hp
  exact ok (m_reti rfl rfl) (ok_iq hr (show rg (D 2400 i2) from Rp_rg hr 2400 i2) hp)
theorem ap5 {h : List am_Ce} {c c' x1 x2 x3 x4 : am_Ce} : (h ++ [c] ++ [x1] ++ [x2] ++ [x3] ++ [x4]).set h.length c' = h ++ [c', x1, x2, x3, x4] := by
  rw [List.append_assoc, List.append_assoc, List.append_assoc, List.append_assoc, List.set_append_right _ _ (Nat.le_refl _), Nat.sub_self]; rfl
theorem K_ru33 {a1 k x : Int} (hc : 8 ≤ c) (hk : D 1002 4 = k ∧ 0 ≤ k ∧ k < 8) (h9 : ∀ i, D 901 i = 1 → D 900 i = 1) (hn : D 914 k ≠ 1 ∧ D 900 (8 + k) ≠ 1 ∧ D 923 k ≠ 1 ∧ D 924 k ≠ 1 ∧ D 925 k ≠ 1) (hh : D 950 0 ≤ 900000000 ∧ D 951 0 ≤ 900000000) (H : K_X11_rules_51 2 c (bkA A k (D 950 0).toNat) (bkD D k (D 32 14)) a1 k x A' D') : K_X11_rules_33 2 c A D a1 x A' D' := by
  intro d hd s hr
  obtain ⟨e, rfl⟩ : ∃ e, d = e + 4 := ⟨d - 4, by omega⟩
  refine oke (n := 2) (A1 := bkA A k (D 950 0).toNat) (D1 := bkD D k (D 32 14)) ?_ (fun s' hr' => H (e + 4) hd s' hr')
  have f4 : D 900 4 = 1 := (Rp_cl hr).2.2.2.2.2.2.2.2.2.2.2.2.2.2.2.1
  have h950 := Rp_rg hr 950 0
  have h951 := Rp_rg hr 951 0
  unfold rg at h950 h951
  have h135 : 32 ≤ s.1.length := by obtain ⟨_, F, H⟩ := hr; have := Rp0_135 H; omega
  have hg := Rp_grow (cs := [.inl (8, [am_i 0, am_i 0, am_r none, am_r none, am_r none, am_r none, am_i 0, am_i 0, am_i 0, am_i 0, am_i 0, am_i 0])]) (k := 12) hr ⟨by simp only [List.length_singleton]; omega, by simp only [List.length_singleton]; omega⟩ ⟨by omega, by omega⟩
  have f4' : (up (up D 950 0 (D 950 0 + (([.inl (8, [am_i 0, am_i 0, am_r none, am_r none, am_r none, am_r none, am_i 0, am_i 0, am_i 0, am_i 0, am_i 0, am_i 0])] : List am_Ce).length : Nat))) 951 0 (D 951 0 + (12 : Nat))) 900 4 = 1 := by
    rw [up_c (by decide), up_c (by decide)]; exact f4
  have hA14 : bkA A k (D 950 0).toNat 14 k = s.1.length := by rw [Rp_len hr]; unfold bkA; rw [if_pos ⟨rfl, rfl⟩]
  rw [hA14, Rp_len hr]
  have hr2 := Rp2.mp hr
  refine ⟨_, ?_, Rp2.mpr ⟨rg_bk hr2.1 (hr2.1 32 14) hk.2 ⟨by omega, by omega⟩, Rp0_bk hk.2 hr2.2 h9 hn⟩⟩
  refine (x_new (q := 36) (fs := [am_i 0, am_i 0, am_r none, am_r none, am_r none, am_r none, am_i 0, am_i 0, am_i 0, am_i 0, am_i 0, am_i 0]) rfl rfl rfl rfl).trans ?_
  refine (m_dup (q := 37) rfl rfl rfl rfl).trans ?_
  refine (m_aload_n (q := 38) rfl rfl rfl rfl).trans ?_
  refine (m_gfy (t := 0) (i := 4) (q := 41) rfl rfl rfl hg rfl rfl rfl).trans ?_
  refine (x_cv (rk := 1) (r := some (A 0 4)) (as := []) (rest := [am_r (some s.1.length), am_r (some s.1.length)]) (q := 44) rfl rfl rfl rfl rfl rfl rfl rfl rfl rfl (is_ty hg rfl f4')).trans ?_
  rw [rw_size 4 hg f4', up_c (by decide), up_c (by decide), hk.1]
  refine (m_aload_n (q := 45) rfl rfl rfl rfl).trans ?_
  refine (m_gfs (z := 14) (q := 48) (w := D 32 14) rfl rfl rfl hg rfl rfl rfl rfl (by rw [up_c (by decide), up_c (by decide)])).trans ?_
  refine (x_cp (rk := 0) (r := some s.1.length) (as := [am_i (wz k), am_i (wz (D 32 14))]) (rest := [am_r (some s.1.length)]) (q := 51) rfl rfl rfl rfl rfl rfl rfl rfl rfl rfl (is_of ap_at)).trans ?_
  refine (congrArg (fun z => am_ans 0 z (fun st s => mr (e + 4) P_X11_rules 51 [some (am_r (some 32)), some (am_i (wz a1)), none] st s) [am_r (some s.1.length)]) (rw_i57 (d := e) (s := (s.1 ++ [.inl (8, [am_i 0, am_i 0, am_r none, am_r none, am_r none, am_r none, am_i 0, am_i 0, am_i 0, am_i 0, am_i 0, am_i 0])], s.2 + 12)) (v1 := wz k) (v2 := wz (D 32 14)) ap_at h135)).trans ?_
  simp only [ap5, List.length_append, List.length_cons, List.length_nil, Nat.zero_add]
  rfl
theorem K_ru52 {m : Nat} {a1 i2 x x' : Int} {A1 : aA} {D1 : aD} (hc : m ≤ c) (H : Ev 2 m 42 [am_r (some 47), am_r (some (A 14 i2)), am_i (wz a1)] A D (ri x') A1 D1) (hA : A1 14 i2 = A 14 i2) (K : K_X11_rules_61 2 c A1 D1 a1 i2 x' x A' D') : K_X11_rules_52 2 c A D a1 i2 x A' D' := by
  intro d hd s hr
  refine ok (m_aload_n (q := 53) rfl rfl rfl rfl) ?_
  refine ok (m_gfc (q := 56) rfl rfl rfl hr rfl rfl rfl) ?_
  refine ok (m_aload_n (q := 57) rfl rfl rfl rfl) ?_
  refine ok (m_iload_n (q := 58) rfl rfl rfl rfl) ?_
  refine oke (e_ci (x_cv (q := 61) (rest := []) rfl rfl rfl rfl rfl rfl rfl rfl rfl rfl (is_st hr rfl rfl)) H (Nat.le_trans hc hd) hr) (fun s' hr' => ?_)
  have := K d hd s' hr'
  rw [hA] at this
  exact this
end Xru
