/-! Steps. -/
section St5
variable {n : Nat} {A : aA} {D : aD}
abbrev P_X7_wayTo : Nat → Option am_E := am_fy tb_X7_wayTo
def K_X7_wayTo_2 (n : Nat) (A : aA) (D : aD) (i0 : Int) (a1 : Int) (a3 : Int) (x : Int) (D' : aD) : Prop := Lp n 4 P_X7_wayTo 2 [some (am_r (some (A 14 i0))), some (am_i (wz a1)), some (am_r (some 52)), some (am_i (wz a3)), none, none] [] A D (ri x) A D'
def K_X7_wayTo_34 (n : Nat) (A : aA) (D : aD) (i0 : Int) (a1 : Int) (a3 : Int) (x : Int) (D' : aD) : Prop := Lp n 4 P_X7_wayTo 34 [some (am_r (some (A 14 i0))), some (am_i (wz a1)), some (am_r (some 52)), some (am_i (wz a3)), none, none] [] A D (ri x) A D'
def K_X7_wayTo_43 (n : Nat) (A : aA) (D : aD) (i0 : Int) (a1 : Int) (a3 : Int) (a4 : Int) (x : Int) (D' : aD) : Prop := Lp n 4 P_X7_wayTo 43 [some (am_r (some (A 14 i0))), some (am_i (wz a1)), some (am_r (some 52)), some (am_i (wz a3)), some (am_i (wz a4)), none] [] A D (ri x) A D'
set_option maxRecDepth 100000 in
theorem rl_X7_wayTo {n : Nat} {A : aA} {D D' : aD} (i0 : Int) (a1 : Int) (f0 : D 914 i0 = 1) (h1 : rg a1) {x : Int} (hp : K_X7_wayTo_2 (n + 1) A D i0 a1 0 x D') : Ev (n + 1) (5) 61 [am_r (some (A 14 i0)), am_i (wz a1), am_r (some 52)] A D (ri x) A D' := by
  refine Ev_of (c := 4) (P := P_X7_wayTo) (lo := [some (am_r (some (A 14 i0))), some (am_i (wz a1)), some (am_r (some 52)), none, none, none]) rfl rfl rfl (fun d hd s hr => ?_)
  refine ok (m_iconst (q := 1) rfl rfl rfl) ?_
  refine ok (m_istore_n (q := 2) (lo' := [some (am_r (some (A 14 i0))), some (am_i (wz a1)), some (am_r (some 52)), some (am_i (wz 0)), none, none]) rfl rfl rfl rfl rfl) ?_
  exact hp d hd _ hr
set_option maxRecDepth 100000 in
theorem rl_X7_wayTo_2 {n : Nat} {A : aA} {D D' : aD} (i0 : Int) (a1 : Int) (a3 : Int) (f0 : D 914 i0 = 1) (h1 : rg a1) (h3 : rg a3) {x : Int} (hp : (if 6 ≤ a3 then K_X7_wayTo_34 (n + 1) A D i0 a1 0 x D' else (0 ≤ a3 ∧ a3 < 6) ∧ (if D 52 a3 ≤ 0 then (0 ≤ a3 ∧ a3 < D 3500 i0) ∧ K_X7_wayTo_2 (n + 1) A (up D 3501 (1024 * i0 + a3) 1000000000) i0 a1 (wr (a3 + 1)) x D' else (0 ≤ a3 ∧ a3 < D 3500 i0) ∧ K_X7_wayTo_2 (n + 1) A (up D 3501 (1024 * i0 + a3) 0) i0 a1 (wr (a3 + 1)) x D'))) : K_X7_wayTo_2 (n + 1) A D i0 a1 a3 x D' := by
  unfold K_X7_wayTo_2
  refine fun d hd s hr => ?_
  refine ok (m_iload_n (q := 3) rfl rfl rfl rfl) ?_
  refine ok (m_bipush (q := 5) rfl rfl rfl) ?_
  refine okc (m_cmpge (qt := 32) (qf := 8) rfl rfl h3 ⟨by decide, by decide⟩ rfl rfl) (fun c1 => ?_) (fun c1 => ?_)
  · replace hp := ip c1 hp
    refine ok (m_iconst (q := 33) rfl rfl rfl) ?_
    refine ok (m_istore_n (q := 34) (lo' := [some (am_r (some (A 14 i0))), some (am_i (wz a1)), some (am_r (some 52)), some (am_i (wz 0)), none, none]) rfl rfl rfl rfl rfl) ?_
    exact hp d hd _ hr
  · replace hp := iq c1 hp
    refine ok (m_aload_n (q := 9) rfl rfl rfl rfl) ?_
    have f_2 := Rp_f14_25 (D := D) (i := i0) hr f0
    refine ok (m_gfx (t := 14) (q := 12) (r := some (A 25 i0)) rfl rfl rfl hr rfl f0 rfl rfl rfl) ?_
    refine ok (m_iload_n (q := 13) rfl rfl rfl rfl) ?_
    refine ok (m_aload_n (q := 14) rfl rfl rfl rfl) ?_
    refine ok (m_iload_n (q := 15) rfl rfl rfl rfl) ?_
    obtain ⟨g3, hp⟩ := hp
    refine ok (m_ials (q := 16) rfl rfl rfl hr rfl rfl g3 rfl) ?_
    refine okc (m_ifle (qt := 23) (qf := 19) rfl rfl (Rp_rg hr 52 a3) rfl rfl) (fun c4 => ?_) (fun c4 => ?_)
    · replace hp := ip c4 hp
      refine ok (m_ldci (q := 25) rfl rfl rfl) ?_
      obtain ⟨g7, hp⟩ := hp
      refine oke (e_iat (t := 25) (q := 26) rfl rfl rfl hr rfl f_2 rfl rfl rfl g7 ⟨by decide, by decide⟩) (fun s6 r5 => ?_)
      refine ok (m_iinc (q := 29) (lo' := [some (am_r (some (A 14 i0))), some (am_i (wz a1)), some (am_r (some 52)), some (am_i (wz (wr (a3 + 1)))), none, none]) rfl rfl rfl rfl rfl rfl rfl) ?_
      refine ok (m_goto (q := 2) rfl rfl rfl) ?_
      exact hp d hd _ r5
    · replace hp := iq c4 hp
      refine ok (m_iconst (q := 20) rfl rfl rfl) ?_
      refine ok (m_goto (q := 25) rfl rfl rfl) ?_
      obtain ⟨g10, hp⟩ := hp
      refine oke (e_iat (t := 25) (q := 26) rfl rfl rfl hr rfl f_2 rfl rfl rfl g10 ⟨by decide, by decide⟩) (fun s9 r8 => ?_)
      refine ok (m_iinc (q := 29) (lo' := [some (am_r (some (A 14 i0))), some (am_i (wz a1)), some (am_r (some 52)), some (am_i (wz (wr (a3 + 1)))), none, none]) rfl rfl rfl rfl rfl rfl rfl) ?_
      refine ok (m_goto (q := 2) rfl rfl rfl) ?_
      exact hp d hd _ r8
set_option maxRecDepth 100000 in
theorem rl_X7_wayTo_34 {n : Nat} {A : aA} {D D' : aD} (i0 : Int) (a1 : Int) (a3 : Int) (f0 : D 914 i0 = 1) (h1 : rg a1) (h3 : rg a3) {x : Int} (hp : (if 6 < a3 then (0 ≤ a1 ∧ a1 < D 3500 i0) ∧ (x = D 3501 (1024 * i0 + a1) ∧ D' = D) else K_X7_wayTo_43 (n + 1) A D i0 a1 a3 0 x D')) : K_X7_wayTo_34 (n + 1) A D i0 a1 a3 x D' := by
  unfold K_X7_wayTo_34
  refine fun d hd s hr => ?_
  refine ok (m_iload_n (q := 35) rfl rfl rfl rfl) ?_
  refine ok (m_bipush (q := 37) rfl rfl rfl) ?_
  refine okc (m_cmpgt (qt := 121) (qf := 40) rfl rfl h3 ⟨by decide, by decide⟩ rfl rfl) (fun c11 => ?_) (fun c11 => ?_)
  · replace hp := ip c11 hp
    refine ok (m_aload_n (q := 122) rfl rfl rfl rfl) ?_
    have f_12 := Rp_f14_25 (D := D) (i := i0) hr f0
    refine ok (m_gfx (t := 14) (q := 125) (r := some (A 25 i0)) rfl rfl rfl hr rfl f0 rfl rfl rfl) ?_
    refine ok (m_iload_n (q := 126) rfl rfl rfl rfl) ?_
    obtain ⟨g13, hp⟩ := hp
    refine ok (m_ialt (t := 25) (q := 127) rfl rfl rfl hr rfl f_12 rfl rfl rfl g13 rfl) ?_
    exact ok (m_reti rfl rfl) (ok_iq hr (show rg (D 3501 (1024 * i0 + a1)) from Rp_rg hr 3501 (1024 * i0 + a1)) hp)
  · replace hp := iq c11 hp
    refine ok (m_iconst (q := 41) rfl rfl rfl) ?_
    refine ok (m_istore (q := 43) (lo' := [some (am_r (some (A 14 i0))), some (am_i (wz a1)), some (am_r (some 52)), some (am_i (wz a3)), some (am_i (wz 0)), none]) rfl rfl rfl rfl rfl) ?_
    exact hp d hd _ hr
set_option maxRecDepth 100000 in
theorem rl_X7_wayTo_43 {n : Nat} {A : aA} {D D' : aD} (i0 : Int) (a1 : Int) (a3 : Int) (a4 : Int) (f0 : D 914 i0 = 1) (h1 : rg a1) (h3 : rg a3) (h4 : rg a4) {x : Int} (hp : (if D 1002 (8 + i0) ≤ a4 then K_X7_wayTo_34 (n + 1) A D i0 a1 (wr (a3 + 1)) x D' else (0 ≤ a4 ∧ a4 < D 1002 (8 + i0)) ∧ (0 ≤ i0) ∧ (if D 2600 (64 * i0 + a4) = 6 then (0 ≤ D 2602 (64 * i0 + a4) ∧ D 2602 (64 * i0 + a4) < D 3500 i0) ∧ (p_X7_wayBy D i0 (64 * i0 + a4)) ∧ K_X7_wayTo_43 (n + 1) A (up D 3501 (1024 * i0 + (D 2602 (64 * i0 + a4))) (min (D 3501 (1024 * i0 + (D 2602 (64 * i0 + a4)))) (v_X7_wayBy D i0 (64 * i0 + a4)))) i0 a1 a3 (wr (a4 + 1)) x D' else K_X7_wayTo_43 (n + 1) A D i0 a1 a3 (wr (a4 + 1)) x D'))) : K_X7_wayTo_43 (n + 1) A D i0 a1 a3 a4 x D' := by
  unfold K_X7_wayTo_43
  refine fun d hd s hr => ?_
  refine ok (m_iload (q := 45) rfl rfl rfl rfl) ?_
  refine ok (m_aload_n (q := 46) rfl rfl rfl rfl) ?_
  have f_14 := Rp_f14_0 (D := D) (i := i0) hr f0
  refine ok (m_gfx (t := 14) (q := 49) (r := some (A 0 (8 + i0))) rfl rfl rfl hr rfl f0 rfl rfl rfl) ?_
  refine oke (e_ci (x_cv (q := 52) rfl rfl rfl rfl rfl rfl rfl rfl rfl rfl (is_ty hr rfl f_14)) (ev_size (8 + i0) f_14) (Nat.le_trans (by decide) hd) hr) (fun s15 r16 => ?_)
  refine okc (m_cmpge (qt := 115) (qf := 55) rfl rfl h4 (show rg (D 1002 (8 + i0)) from Rp_rg hr 1002 (8 + i0)) rfl rfl) (fun c17 => ?_) (fun c17 => ?_)
  · replace hp := ip c17 hp
    refine ok (m_iinc (q := 118) (lo' := [some (am_r (some (A 14 i0))), some (am_i (wz a1)), some (am_r (some 52)), some (am_i (wz (wr (a3 + 1)))), some (am_i (wz a4)), none]) rfl rfl rfl rfl rfl rfl rfl) ?_
    refine ok (m_goto (q := 34) rfl rfl rfl) ?_
    refine ok (mk rfl (lo' := [some (am_r (some (A 14 i0))), some (am_i (wz a1)), some (am_r (some 52)), some (am_i (wz (wr (a3 + 1)))), none, none]) rfl) ?_
    exact hp d hd _ r16
  · replace hp := iq c17 hp
    refine ok (m_aload_n (q := 56) rfl rfl rfl rfl) ?_
    have f_18 := Rp_f14_0 (D := D) (i := i0) r16 f0
    refine ok (m_gfx (t := 14) (q := 59) (r := some (A 0 (8 + i0))) rfl rfl rfl r16 rfl f0 rfl rfl rfl) ?_
    refine ok (m_iload (q := 61) rfl rfl rfl rfl) ?_
    obtain ⟨g21, hp⟩ := hp
    obtain ⟨g22, hp⟩ := hp
    have f_23 := Rp_elb (D := D) r16 g22 f_18 g21
    refine oke (e_cr (x_cv (q := 64) rfl rfl rfl rfl rfl rfl rfl rfl rfl rfl (is_ty r16 rfl f_18)) (ev_getb i0 a4 g22 f_18 g21) (Nat.le_trans (by decide) hd) r16) (fun s19 r20 => ?_)
    refine ok (m_cast (q := 67) rfl rfl rfl (isN_ty r20 rfl f_23)) ?_
    refine ok (m_astore (q := 69) (lo' := [some (am_r (some (A 14 i0))), some (am_i (wz a1)), some (am_r (some 52)), some (am_i (wz a3)), some (am_i (wz a4)), some (am_r (some (A 16 (64 * i0 + a4))))]) rfl rfl rfl rfl rfl) ?_
    refine ok (m_aload (q := 71) rfl rfl rfl rfl) ?_
    refine ok (m_gft (t := 16) (q := 74) rfl rfl rfl r20 rfl f_23 rfl rfl rfl) ?_
    refine ok (m_bipush (q := 76) rfl rfl rfl) ?_
    refine okc (m_cmpne (qt := 109) (qf := 79) rfl rfl (show rg (D 2600 (64 * i0 + a4)) from Rp_rg r20 2600 (64 * i0 + a4)) ⟨by decide, by decide⟩ rfl rfl) (fun c24 => ?_) (fun c24 => ?_)
    · replace hp := ip c24 hp
      refine ok (m_aload_n (q := 80) rfl rfl rfl rfl) ?_
      have f_25 := Rp_f14_25 (D := D) (i := i0) r20 f0
      refine ok (m_gfx (t := 14) (q := 83) (r := some (A 25 i0)) rfl rfl rfl r20 rfl f0 rfl rfl rfl) ?_
      refine ok (m_aload (q := 85) rfl rfl rfl rfl) ?_
      refine ok (m_gft (t := 16) (q := 88) rfl rfl rfl r20 rfl f_23 rfl rfl rfl) ?_
      refine ok (m_aload_n (q := 89) rfl rfl rfl rfl) ?_
      have f_26 := Rp_f14_25 (D := D) (i := i0) r20 f0
      refine ok (m_gfx (t := 14) (q := 92) (r := some (A 25 i0)) rfl rfl rfl r20 rfl f0 rfl rfl rfl) ?_
      refine ok (m_aload (q := 94) rfl rfl rfl rfl) ?_
      refine ok (m_gft (t := 16) (q := 97) rfl rfl rfl r20 rfl f_23 rfl rfl rfl) ?_
      obtain ⟨g27, hp⟩ := hp
      refine ok (m_ialt (t := 25) (q := 98) rfl rfl rfl r20 rfl f_26 rfl rfl rfl g27 rfl) ?_
      refine ok (m_aload_n (q := 99) rfl rfl rfl rfl) ?_
      refine ok (m_aload (q := 101) rfl rfl rfl rfl) ?_
      refine ok (m_aload_n (q := 102) rfl rfl rfl rfl) ?_
      obtain ⟨g30, hp⟩ := hp
      refine oke (e_ci (x_cv (q := 105) rfl rfl rfl rfl rfl rfl rfl rfl rfl rfl (is_ty r20 rfl f0)) (ev_X7_wayBy (D := D) i0 (64 * i0 + a4) f0 f_23 g30) (Nat.le_trans (by decide) hd) r20) (fun s28 r29 => ?_)
      refine ok (m_min (q := 108) rfl rfl rfl (show rg (D 3501 (1024 * i0 + (D 2602 (64 * i0 + a4)))) from Rp_rg r20 3501 (1024 * i0 + (D 2602 (64 * i0 + a4)))) (Ev_rg (ev_X7_wayBy (D := D) i0 (64 * i0 + a4) f0 f_23 g30) r20) rfl) ?_
      refine oke (e_iat (t := 25) (q := 109) rfl rfl rfl r29 rfl f_25 rfl rfl rfl g27 (rg_min (show rg (D 3501 (1024 * i0 + (D 2602 (64 * i0 + a4)))) from Rp_rg r20 3501 (1024 * i0 + (D 2602 (64 * i0 + a4)))) (Ev_rg (ev_X7_wayBy (D := D) i0 (64 * i0 + a4) f0 f_23 g30) r20))) (fun s32 r31 => ?_)
      refine ok (m_iinc (q := 112) (lo' := [some (am_r (some (A 14 i0))), some (am_i (wz a1)), some (am_r (some 52)), some (am_i (wz a3)), some (am_i (wz (wr (a4 + 1)))), some (am_r (some (A 16 (64 * i0 + a4))))]) rfl rfl rfl rfl rfl rfl rfl) ?_
      refine ok (m_goto (q := 43) rfl rfl rfl) ?_
      refine ok (mk rfl (lo' := [some (am_r (some (A 14 i0))), some (am_i (wz a1)), some (am_r (some 52)), some (am_i (wz a3)), some (am_i (wz (wr (a4 + 1)))), none]) rfl) ?_
      exact hp d hd _ r31
    · replace hp := iq c24 hp
      refine ok (m_iinc (q := 112) (lo' := [some (am_r (some (A 14 i0))), some (am_i (wz a1)), some (am_r (some 52)), some (am_i (wz a3)), some (am_i (wz (wr (a4 + 1)))), some (am_r (some (A 16 (64 * i0 + a4))))]) rfl rfl rfl rfl rfl rfl rfl) ?_
      refine ok (m_goto (q := 43) rfl rfl rfl) ?_
      refine ok (mk rfl (lo' := [some (am_r (some (A 14 i0))), some (am_i (wz a1)), some (am_r (some 52)), some (am_i (wz a3)), some (am_i (wz (wr (a4 + 1)))), none]) rfl) ?_
      exact hp d hd _ r20
/-- the class's rows of ways -/
def wrow (D : aD) (b : Int) (g : Int → Int) : aD := fun c i => if c = 3501 ∧ 1024 * b ≤ i ∧ i < 1024 * b + 6 then g (i - 1024 * b) else D c i
theorem wrow_c {b : Int} {g : Int → Int} {c : Nat} (h : c ≠ 3501) : wrow D b g c = D c := by funext i; exact if_neg (fun z => h z.1)
theorem wrow_i {b : Int} {g : Int → Int} {p : Int} (h0 : 0 ≤ p) (h1 : p < 6) : wrow D b g 3501 (1024 * b + p) = g p := by
  show (if _ then g (1024 * b + p - 1024 * b) else _) = _
  rw [if_pos ⟨rfl, by omega, by omega⟩, show 1024 * b + p - 1024 * b = p by omega]
theorem wrow_up {b : Int} {g : Int → Int} {p v : Int} (h0 : 0 ≤ p) (h1 : p < 6) : up (wrow D b g) 3501 (1024 * b + p) v = wrow D b (fun q => if q = p then v else g q) := by
  funext c i
  show (if c = 3501 ∧ i = 1024 * b + p then v else if c = 3501 ∧ 1024 * b ≤ i ∧ i < 1024 * b + 6 then g (i - 1024 * b) else D c i) = if c = 3501 ∧ 1024 * b ≤ i ∧ i < 1024 * b + 6 then (if i - 1024 * b = p then v else g (i - 1024 * b)) else D c i
  by_cases c1 : c = 3501 ∧ i = 1024 * b + p
  · rw [if_pos c1, if_pos ⟨c1.1, by omega, by omega⟩, if_pos (by omega)]
  · rw [if_neg c1]
    by_cases c2 : c = 3501 ∧ 1024 * b ≤ i ∧ i < 1024 * b + 6
    · rw [if_pos c2, if_pos c2, if_neg (fun z => c1 ⟨c2.1, by omega⟩)]
    · rw [if_neg c2, if_neg c2]
theorem wrow_cg {b : Int} {g g' : Int → Int} (h : ∀ p, 0 ≤ p → p < 6 → g p = g' p) : wrow D b g = wrow D b g' := by
  funext c i
  show (if c = 3501 ∧ 1024 * b ≤ i ∧ i < 1024 * b + 6 then g (i - 1024 * b) else D c i) = if c = 3501 ∧ 1024 * b ≤ i ∧ i < 1024 * b + 6 then g' (i - 1024 * b) else D c i
  by_cases c2 : c = 3501 ∧ 1024 * b ≤ i ∧ i < 1024 * b + 6
  · rw [if_pos c2, if_pos c2, h _ (by omega) (by omega)]
  · rw [if_neg c2, if_neg c2]
theorem wrow_self {b : Int} : wrow D b (fun p => D 3501 (1024 * b + p)) = D := by
  funext c i
  show (if c = 3501 ∧ 1024 * b ≤ i ∧ i < 1024 * b + 6 then D 3501 (1024 * b + (i - 1024 * b)) else D c i) = D c i
  by_cases c2 : c = 3501 ∧ 1024 * b ≤ i ∧ i < 1024 * b + 6
  · rw [if_pos c2, show 1024 * b + (i - 1024 * b) = i by omega, c2.1]
  · rw [if_neg c2]
def wby (tf ta sv g : Int → Int) (j : Int) : Int := if 0 < ta j - sv (tf j) then (if g (tf j) = 1000000000 then 1000000000 else g (tf j) + 1000000 + (ta j - sv (tf j))) else 0
def wst (kd tf tt ta sv : Int → Int) (g : Int → Int) (j : Int) : Int → Int := if kd j = 6 then (fun q => if q = tt j then min (g (tt j)) (wby tf ta sv g j) else g q) else g
def wrd (kd tf tt ta sv : Int → Int) (N : Int) : Nat → Int → Int
  | 0 => fun p => if sv p ≤ 0 then 1000000000 else 0
  | r + 1 => foi (wst kd tf tt ta sv) (wrd kd tf tt ta sv N r) N
section Pu
variable {kd tf tt ta sv : Int → Int} {N : Int} (hN : 0 ≤ N ∧ N ≤ 30) (hed : ∀ j, 0 ≤ j → j < N → kd j = 6 → (0 ≤ tf j ∧ tf j < 6) ∧ (0 ≤ tt j ∧ tt j < 6) ∧ 0 ≤ ta j ∧ ta j ≤ 9999) (hsv : ∀ p, 0 ≤ sv p ∧ sv p ≤ 1000)
def wbd (m : Int) (g : Int → Int) : Prop := ∀ p, 0 ≤ p → p < 6 → g p = 1000000000 ∨ (0 ≤ g p ∧ g p ≤ 1009999 * m)
theorem wst_bd {g : Int → Int} {j m : Int} (j0 : 0 ≤ j) (j1 : j < N) (hm : 0 ≤ m) (hed : ∀ j, 0 ≤ j → j < N → kd j = 6 → (0 ≤ tf j ∧ tf j < 6) ∧ (0 ≤ tt j ∧ tt j < 6) ∧ 0 ≤ ta j ∧ ta j ≤ 9999) (hsv : ∀ p, 0 ≤ sv p ∧ sv p ≤ 1000) (h : wbd m g) : wbd (m + 1) (wst kd tf tt ta sv g j) := by
  intro p p0 p1
  unfold wst
  by_cases c : kd j = 6
  · rw [if_pos c]
    have he := hed j j0 j1 c
    have hs := hsv (tf j)
    have hf := h (tf j) he.1.1 he.1.2
    have ht := h (tt j) he.2.1.1 he.2.1.2
    have hp := h p p0 p1
    show (if p = tt j then _ else _) = _ ∨ _
    by_cases c2 : p = tt j
    · simp only [if_pos c2]
      unfold wby
      by_cases c3 : 0 < ta j - sv (tf j)
      · simp only [if_pos c3]
        by_cases c4 : g (tf j) = 1000000000
        · simp only [if_pos c4]; omega
        · simp only [if_neg c4]; omega
      · simp only [if_neg c3]; omega
    · simp only [if_neg c2]; omega
  · rw [if_neg c]; have := h p p0 p1; omega
theorem wst_le {g : Int → Int} {j p : Int} : wst kd tf tt ta sv g j p ≤ g p := by
  unfold wst
  split
  · show (if p = tt j then _ else _) ≤ _
    split
    · rename_i c; rw [c]; omega
    · exact Int.le_refl _
  · exact Int.le_refl _
theorem wby_mono {g g' : Int → Int} {j : Int} (h : g' (tf j) ≤ g (tf j)) (hi : g (tf j) ≤ 1000000000) (hb : g' (tf j) = 1000000000 ∨ g' (tf j) + 1000000 + (ta j - sv (tf j)) ≤ 1000000000) : wby tf ta sv g' j ≤ wby tf ta sv g j := by
  unfold wby
  split
  · split
    · split
      · exact Int.le_refl _
      · omega
    · split
      · omega
      · omega
  · exact Int.le_refl _
/-- a round: bounds, never worse, each step done -/
theorem wrd_inv {g : Int → Int} {m : Int} (hm : 0 ≤ m ∧ m ≤ 900) (hN : 0 ≤ N ∧ N ≤ 30) (hed : ∀ j, 0 ≤ j → j < N → kd j = 6 → (0 ≤ tf j ∧ tf j < 6) ∧ (0 ≤ tt j ∧ tt j < 6) ∧ 0 ≤ ta j ∧ ta j ≤ 9999) (hsv : ∀ p, 0 ≤ sv p ∧ sv p ≤ 1000) (h : wbd m g) : ∀ j, 0 ≤ j → j ≤ N → wbd (m + j) (foi (wst kd tf tt ta sv) g j) ∧ (∀ p, foi (wst kd tf tt ta sv) g j p ≤ g p) ∧ ∀ i, 0 ≤ i → i < j → kd i = 6 → foi (wst kd tf tt ta sv) g j (tt i) ≤ wby tf ta sv g i := by
  refine foi_ind (f := wst kd tf tt ta sv) (b := g) (Q := fun j x => wbd (m + j) x ∧ (∀ p, x p ≤ g p) ∧ ∀ i, 0 ≤ i → i < j → kd i = 6 → x (tt i) ≤ wby tf ta sv g i) ⟨by rw [Int.add_zero]; exact h, fun p => Int.le_refl _, fun i i0 i1 => by omega⟩ (fun j x j0 j1 q => ?_)
  obtain ⟨q1, q2, q3⟩ := q
  refine ⟨?_, fun p => Int.le_trans wst_le (q2 p), fun i i0 i1 hk => ?_⟩
  · have := wst_bd (kd := kd) (tt := tt) (N := N) j0 j1 (by omega : 0 ≤ m + j) hed hsv q1
    rw [Int.add_assoc] at this; exact this
  · by_cases e : i = j
    · subst e
      have he := hed i i0 j1 hk
      have hs := hsv (tf i)
      have hf := q1 (tf i) he.1.1 he.1.2
      have hg := h (tf i) he.1.1 he.1.2
      have e1 : wst kd tf tt ta sv x i (tt i) = min (x (tt i)) (wby tf ta sv x i) := by
        unfold wst; rw [if_pos hk]; exact if_pos rfl
      rw [e1]
      have := wby_mono (tf := tf) (ta := ta) (sv := sv) (j := i) (q2 (tf i)) (by omega) (by omega)
      omega
    · exact Int.le_trans wst_le (q3 i i0 (by omega) hk)
theorem wrd_bd (hN : 0 ≤ N ∧ N ≤ 30) (hed : ∀ j, 0 ≤ j → j < N → kd j = 6 → (0 ≤ tf j ∧ tf j < 6) ∧ (0 ≤ tt j ∧ tt j < 6) ∧ 0 ≤ ta j ∧ ta j ≤ 9999) (hsv : ∀ p, 0 ≤ sv p ∧ sv p ≤ 1000) : ∀ r : Nat, r ≤ 7 → wbd (30 * r) (wrd kd tf tt ta sv N r) := by
  intro r
  induction r with
  | zero => intro _ p p0 p1; unfold wrd; split <;> omega
  | succ r ih =>
    intro hr
    have := (wrd_inv (m := 30 * r) (by omega) hN hed hsv (ih (by omega)) N hN.1 (Int.le_refl _)).1
    intro p p0 p1
    have := this p p0 p1
    have e : wrd kd tf tt ta sv N (r + 1) p = foi (wst kd tf tt ta sv) (wrd kd tf tt ta sv N r) N p := rfl
    rw [e]
    omega
theorem wrd_up (hN : 0 ≤ N ∧ N ≤ 30) (hed : ∀ j, 0 ≤ j → j < N → kd j = 6 → (0 ≤ tf j ∧ tf j < 6) ∧ (0 ≤ tt j ∧ tt j < 6) ∧ 0 ≤ ta j ∧ ta j ≤ 9999) (hsv : ∀ p, 0 ≤ sv p ∧ sv p ≤ 1000) : ∀ r : Nat, r ≤ 6 → ∀ p, 0 ≤ p → p < 6 → wrd kd tf tt ta sv N (r + 1) p ≤ wT kd tf tt ta sv N 1000000 1000000000 r p := by
  have h0 := wT_0 kd tf tt ta sv N 1000000 1000000000 hN.1 (by decide) (by decide)
  have hI := wT_I kd tf tt ta sv N 1000000 1000000000 hN.1 (by decide)
  intro r
  induction r with
  | zero =>
    intro _ p p0 p1
    have hb := wrd_bd hN hed hsv 0 (by decide)
    obtain ⟨q1, q2, q3⟩ := wrd_inv (m := 0) (by omega) hN hed hsv hb N hN.1 (Int.le_refl _)
    show foi (wst kd tf tt ta sv) (wrd kd tf tt ta sv N 0) N p ≤ _
    unfold wT
    by_cases c : wzr kd tf tt ta sv N p
    · rw [@if_pos _ (Classical.propDecidable _) c]
      rcases c with c | ⟨j, j0, j1, j2, j3, j4⟩
      · have := q2 p
        have e : wrd kd tf tt ta sv N 0 p = 0 := by unfold wrd; exact if_neg (by omega)
        omega
      · have := q3 j j0 j1 j2
        rw [j3] at this
        have e : wby tf ta sv (wrd kd tf tt ta sv N 0) j = 0 := by unfold wby; exact if_neg (by omega)
        omega
    · rw [@if_neg _ (Classical.propDecidable _) c]
      have := q1 p p0 p1
      omega
  | succ r ih =>
    intro hr p p0 p1
    have i1 := ih (by omega)
    have hb := wrd_bd hN hed hsv (r + 1) (by omega)
    obtain ⟨q1, q2, q3⟩ := wrd_inv (m := 30 * ((r + 1 : Nat) : Int)) (by omega) hN hed hsv hb N hN.1 (Int.le_refl _)
    show foi (wst kd tf tt ta sv) (wrd kd tf tt ta sv N (r + 1)) N p ≤ _
    rcases wT_at kd tf tt ta sv N 1000000 1000000000 r p hN.1 with e | ⟨j, j0, j1, j2, j3, e⟩
    · rw [e]; exact Int.le_trans (q2 p) (i1 p p0 p1)
    · rw [e]
      have he := hed j j0 j1 j2
      have hq := q3 j j0 j1 j2
      rw [j3] at hq
      have hqp := q1 p p0 p1
      have hf := i1 (tf j) he.1.1 he.1.2
      have hT := h0 r (tf j)
      have hbf := hb (tf j) he.1.1 he.1.2
      unfold wext
      unfold wby at hq
      by_cases c1 : wT kd tf tt ta sv N 1000000 1000000000 r (tf j) = 1000000000
      · rw [if_pos c1]; omega
      · have := hI r (tf j)
        rw [if_neg c1]
        by_cases c2 : 0 < ta j - sv (tf j)
        · rw [if_pos c2, if_neg (by omega)] at hq; omega
        · rw [if_neg c2] at hq; omega
theorem wrd_lo (hN : 0 ≤ N ∧ N ≤ 30) (hed : ∀ j, 0 ≤ j → j < N → kd j = 6 → (0 ≤ tf j ∧ tf j < 6) ∧ (0 ≤ tt j ∧ tt j < 6) ∧ 0 ≤ ta j ∧ ta j ≤ 9999) (hsv : ∀ p, 0 ≤ sv p ∧ sv p ≤ 1000) : ∀ r : Nat, ∀ p, 0 ≤ p → p < 6 → wT kd tf tt ta sv N 1000000 1000000000 5 p ≤ wrd kd tf tt ta sv N r p := by
  have h0 := wT_0 kd tf tt ta sv N 1000000 1000000000 hN.1 (by decide) (by decide)
  have hI := wT_I kd tf tt ta sv N 1000000 1000000000 hN.1 (by decide)
  intro r
  induction r with
  | zero =>
    intro p p0 p1
    unfold wrd
    show _ ≤ if sv p ≤ 0 then _ else _
    by_cases c : sv p ≤ 0
    · rw [if_pos c]; exact hI 5 p
    · rw [if_neg c, wT_z kd tf tt ta sv N 1000000 1000000000 hN.1 (Or.inl (by omega)) h0 5]; exact Int.le_refl _
  | succ r ih =>
    show ∀ p, 0 ≤ p → p < 6 → _ ≤ foi (wst kd tf tt ta sv) (wrd kd tf tt ta sv N r) N p
    refine foi_ind (f := wst kd tf tt ta sv) (b := wrd kd tf tt ta sv N r) (Q := fun j x => ∀ p, 0 ≤ p → p < 6 → wT kd tf tt ta sv N 1000000 1000000000 5 p ≤ x p) ih (fun j x j0 j1 q p p0 p1 => ?_) N hN.1 (Int.le_refl _)
    unfold wst
    by_cases c : kd j = 6
    · rw [if_pos c]
      show _ ≤ if p = tt j then _ else _
      by_cases c2 : p = tt j
      · rw [if_pos c2]
        have he := hed j j0 j1 c
        have hv := wV_lo kd tf tt ta sv N 1000000 1000000000 hN.1 (by decide) (by decide) (fun j a b c => (hed j a b c).1) (fun j a b c => (hed j a b c).2.1) j j0 j1 c
        have hq := q (tf j) he.1.1 he.1.2
        have hp := q p p0 p1
        rw [c2] at hp ⊢
        have hz : ¬ 0 < ta j - sv (tf j) → wT kd tf tt ta sv N 1000000 1000000000 5 (tt j) = 0 := fun z => wT_z kd tf tt ta sv N 1000000 1000000000 hN.1 (Or.inr ⟨j, j0, j1, c, rfl, by omega⟩) h0 5
        have hI5 := hI 5 (tt j)
        have hI6 := hI 5 (tf j)
        unfold wext at hv
        unfold wby
        by_cases c3 : 0 < ta j - sv (tf j)
        · rw [if_pos c3]
          by_cases c4 : x (tf j) = 1000000000
          · rw [if_pos c4]; omega
          · rw [if_neg c4]
            by_cases c5 : wT kd tf tt ta sv N 1000000 1000000000 5 (tf j) = 1000000000
            · rw [if_pos c5] at hv; omega
            · rw [if_neg c5] at hv; omega
        · rw [if_neg c3, hz c3]; rw [hz c3] at hp; omega
      · rw [if_neg c2]; exact q p p0 p1
    · rw [if_neg c]; exact q p p0 p1
theorem wrd_V (hN : 0 ≤ N ∧ N ≤ 30) (hed : ∀ j, 0 ≤ j → j < N → kd j = 6 → (0 ≤ tf j ∧ tf j < 6) ∧ (0 ≤ tt j ∧ tt j < 6) ∧ 0 ≤ ta j ∧ ta j ≤ 9999) (hsv : ∀ p, 0 ≤ sv p ∧ sv p ≤ 1000) (p : Int) (p0 : 0 ≤ p) (p1 : p < 6) : wrd kd tf tt ta sv N 7 p = wT kd tf tt ta sv N 1000000 1000000000 5 p := by
  have h1 := wrd_up hN hed hsv 6 (by decide) p p0 p1
  have h2 := wrd_lo hN hed hsv 7 p p0 p1
  have h3 := wT_5 kd tf tt ta sv N 1000000 1000000000 hN.1 (by decide) (wT_I kd tf tt ta sv N 1000000 1000000000 hN.1 (by decide)) (fun j a b c => (hed j a b c).1) p p0 p1
  have h4 : wrd kd tf tt ta sv N (6 + 1) p = wrd kd tf tt ta sv N 7 p := rfl
  omega
end Pu
def kdD (D : aD) (r j : Int) : Int := D 94 (30 * r + j)
def tfD (D : aD) (r j : Int) : Int := D 95 (30 * r + j)
def ttD (D : aD) (r j : Int) : Int := D 97 (30 * r + j)
def taD (D : aD) (r j : Int) : Int := D 96 (30 * r + j)
def nD (D : aD) (r : Int) : Int := if r = -1 then 0 else D 92 r
def sc6 (f : Int → Int) (p : Int) : Int := if 0 ≤ p ∧ p < 6 then f p else 0
theorem sc6_b {f : Int → Int} (h : ∀ p, 0 ≤ p → p < 6 → 0 ≤ f p ∧ f p ≤ 1000) : ∀ p, 0 ≤ sc6 f p ∧ sc6 f p ≤ 1000 := fun p => by
  unfold sc6; split
  · rename_i c; exact h p c.1 c.2
  · omega
theorem sc6_i {f : Int → Int} {p : Int} (h0 : 0 ≤ p) (h1 : p < 6) : sc6 f p = f p := if_pos ⟨h0, h1⟩
theorem nD_b (hI : Inv D) {r : Int} (h : r = -1 ∨ (0 ≤ r ∧ r < D 70 26)) : 0 ≤ nD D r ∧ nD D r ≤ 30 := by
  unfold nD
  split
  · omega
  · have := (hI.rb.2.2.1 r (by omega) (by omega)).2.2.2.1; omega
theorem edD (hI : Inv D) {r : Int} (h : r = -1 ∨ (0 ≤ r ∧ r < D 70 26)) : ∀ j, 0 ≤ j → j < nD D r → kdD D r j = 6 → (0 ≤ tfD D r j ∧ tfD D r j < 6) ∧ (0 ≤ ttD D r j ∧ ttD D r j < 6) ∧ 0 ≤ taD D r j ∧ taD D r j ≤ 9999 := by
  intro j j0 j1 hk
  unfold nD at j1
  by_cases c : r = -1
  · rw [if_pos c] at j1; omega
  · rw [if_neg c] at j1
    have hs := stm hI (by omega) (by omega) j0 j1
    unfold kdD at hk
    unfold tfD ttD taD
    have h1 := hs.2.2.2.2.1 (by omega)
    have h2 := hs.2.2.2.2.2.2.2.2.1 hk
    have h3 := hs.2.2.2.1
    omega
def wX (D : aD) (b : Int) : Nat → Int → Int := wrd (kdD D (rr_ b)) (tfD D (rr_ b)) (ttD D (rr_ b)) (taD D (rr_ b)) (sc6 (D 52)) (nD D (rr_ b))
def w_wayTo (D : aD) (b post : Int) : Int := wX D b 7 post
def u_wayTo (D : aD) (b _ : Int) : aD := wrow D b (wX D b 7)
def p_wayTo (D : aD) (b post : Int) : Prop := Inv D ∧ (0 ≤ b ∧ (b < D 70 26 ∨ b = 8)) ∧ (0 ≤ post ∧ post < 6) ∧ ∀ p, 0 ≤ p → p < 6 → 0 ≤ D 52 p ∧ D 52 p ≤ 1000
theorem rr_r (hI : Inv D) {b : Int} (hb : 0 ≤ b ∧ (b < D 70 26 ∨ b = 8)) : rr_ b = -1 ∨ (0 ≤ rr_ b ∧ rr_ b < D 70 26) := by
  have hc := hI.rb.1
  unfold rr_; split
  · exact Or.inl rfl
  · exact Or.inr ⟨by omega, by omega⟩
theorem ev_X7_wayTo (b post : Int) (f0 : D 914 b = 1) (h1 : rg post) (hp : p_wayTo D b post) : Ev (n + 1) 5 61 [am_r (some (A 14 b)), am_i (wz post), am_r (some 52)] A D (ri (w_wayTo D b post)) A (u_wayTo D b post) := by
  obtain ⟨hI, hb, hpo, hs⟩ := hp
  have hB := bok_hd hI hb
  have hr := rr_r hI hb
  have hN := nD_b hI hr
  have hed := edD hI hr
  have hsv := sc6_b hs
  have h35 : D 3500 b = 6 := hB.1.2.2.2.2
  have hNb : D 1002 (8 + b) = nD D (rr_ b) := by
    unfold nD
    by_cases c : rr_ b = -1
    · rw [if_pos c]; exact (hB.2.2 c).2
    · rw [if_neg c, (hB.2.1 c).1]; exact (hB.2.1 c).2.2.2.1
  have hSt : ∀ j, 0 ≤ j → j < nD D (rr_ b) → D 2600 (64 * b + j) = kdD D (rr_ b) j ∧ D 2601 (64 * b + j) = tfD D (rr_ b) j ∧ (kdD D (rr_ b) j = 6 → D 2602 (64 * b + j) = ttD D (rr_ b) j ∧ D 2603 (64 * b + j) = taD D (rr_ b) j) := by
    intro j j0 j1
    unfold nD at j1
    by_cases c : rr_ b = -1
    · rw [if_pos c] at j1; omega
    · rw [if_neg c] at j1
      have e := (hB.2.1 c).1
      have hst := stm hI (r := rr_ b) (by omega) (by omega) j0 j1
      rw [e] at hst ⊢
      exact ⟨hst.1, hst.2.1, fun q => ⟨(hst.2.2.2.2.2.2.2.2.1 q).1, hst.2.2.2.2.2.1 (by unfold kdD at q; omega) (by unfold kdD at q; omega)⟩⟩
  have hbd : ∀ r : Nat, r ≤ 7 → wbd (30 * r) (wX D b r) := wrd_bd hN hed hsv
  refine rl_X7_wayTo b post f0 h1 ?_
  have fl : ∀ g, wrow D b g 914 b = 1 := fun g => by rw [wrow_c (by decide)]; exact f0
  -- the statements of a round
  have K43 : ∀ (r : Nat), r ≤ 6 → K_X7_wayTo_34 (n + 1) A (wrow D b (wX D b (r + 1))) b post ((r : Int) + 1) (w_wayTo D b post) (u_wayTo D b post) → K_X7_wayTo_34 (n + 1) A (wrow D b (wX D b r)) b post r (w_wayTo D b post) (u_wayTo D b post) := by
    intro r hr6 H
    refine rl_X7_wayTo_34 _ _ _ (fl _) h1 (rgb (by omega) (by omega)) ?_
    rw [if_neg (by omega)]
    refine dn_ind (K := fun j => K_X7_wayTo_43 (n + 1) A (wrow D b (foi (wst (kdD D (rr_ b)) (tfD D (rr_ b)) (ttD D (rr_ b)) (taD D (rr_ b)) (sc6 (D 52))) (wX D b r) j)) b post r j (w_wayTo D b post) (u_wayTo D b post)) (lo := 0) (N := nD D (rr_ b)) ?_ ?_ 0 (by omega) (by omega)
    · refine rl_X7_wayTo_43 _ _ _ _ (fl _) h1 (rgb (by omega) (by omega)) (rgb (by omega) (by omega)) ?_
      rw [wrow_c (by decide), if_pos (by omega), wr_id (by omega) (by omega)]
      exact H
    · intro j j0 j1 ih
      have hq := (wrd_inv (kd := kdD D (rr_ b)) (tt := ttD D (rr_ b)) (m := 30 * (r : Int)) (by omega) hN hed hsv (hbd r (by omega)) j j0 (by omega)).1
      rw [foi_s j0] at ih
      generalize foi (wst (kdD D (rr_ b)) (tfD D (rr_ b)) (ttD D (rr_ b)) (taD D (rr_ b)) (sc6 (D 52))) (wX D b r) j = g at *
      have hst := hSt j j0 j1
      refine rl_X7_wayTo_43 _ _ _ _ (fl _) h1 (rgb (by omega) (by omega)) (rgb (by omega) (by omega)) ?_
      unfold p_X7_wayBy v_X7_wayBy
      rw [wrow_c (c := 1002) (by decide), wrow_c (c := 2600) (by decide), wrow_c (c := 2601) (by decide), wrow_c (c := 2602) (by decide), wrow_c (c := 2603) (by decide), wrow_c (c := 3500) (by decide), wrow_c (c := 52) (by decide), if_neg (by omega), wr1 j0 j1 (by omega), hst.1, hst.2.1, h35]
      refine ⟨by omega, hb.1, ?_⟩
      unfold wst at ih
      by_cases c : kdD D (rr_ b) j = 6
      · rw [if_pos c] at ih ⊢
        have he := hed j j0 j1 c
        have hv := hst.2.2 c
        rw [hv.1, hv.2]
        have hs1 := hs (tfD D (rr_ b) j) he.1.1 he.1.2
        have hgf := hq (tfD D (rr_ b) j) he.1.1 he.1.2
        rw [wr_id (z := taD D (rr_ b) j - D 52 (tfD D (rr_ b) j)) (by omega) (by omega), wrow_i he.1.1 he.1.2, wrow_i he.2.1.1 he.2.1.2, wrow_up he.2.1.1 he.2.1.2]
        refine ⟨he.2.1, ⟨he.1, ?_⟩, ?_⟩
        · split
          · exact he.1
          · trivial
        · refine Eq.mp ?_ ih
          congr 2
          funext q
          by_cases cq : q = ttD D (rr_ b) j
          · rw [if_pos cq, if_pos cq]
            congr 1
            unfold wby
            rw [sc6_i he.1.1 he.1.2]
            by_cases c3 : 0 < taD D (rr_ b) j - D 52 (tfD D (rr_ b) j)
            · rw [if_pos c3, if_pos c3]
              by_cases c4 : g (tfD D (rr_ b) j) = 1000000000
              · rw [if_pos c4, if_pos c4]
              · rw [if_neg c4, if_neg c4, wr_id (z := g (tfD D (rr_ b) j) + 1000000) (by omega) (by omega), wr_id (by omega) (by omega)]
            · rw [if_neg c3, if_neg c3]
          · rw [if_neg cq, if_neg cq]
      · rw [if_neg c] at ih ⊢; exact ih
  have Kend : K_X7_wayTo_34 (n + 1) A (wrow D b (wX D b 7)) b post 7 (w_wayTo D b post) (u_wayTo D b post) := by
    refine rl_X7_wayTo_34 _ _ _ (fl _) h1 (rgb (by omega) (by omega)) ?_
    rw [if_pos (by decide), wrow_c (c := 3500) (by decide), h35, wrow_i hpo.1 hpo.2]
    exact ⟨hpo, rfl, rfl⟩
  have K0 : K_X7_wayTo_34 (n + 1) A (wrow D b (wX D b 0)) b post 0 (w_wayTo D b post) (u_wayTo D b post) :=
    K43 0 (by decide) (K43 1 (by decide) (K43 2 (by decide) (K43 3 (by decide) (K43 4 (by decide) (K43 5 (by decide) (K43 6 (by decide) Kend))))))
  have K := dn_ind (K := fun j => K_X7_wayTo_2 (n + 1) A (wrow D b (fun q => if q < j then wX D b 0 q else D 3501 (1024 * b + q))) b post j (w_wayTo D b post) (u_wayTo D b post)) (lo := 0) (N := 6) ?_ ?_ 0 (by omega) (by omega)
  · rw [show wrow D b (fun q => if q < 0 then wX D b 0 q else D 3501 (1024 * b + q)) = D from (wrow_cg (fun p p0 p1 => if_neg (by omega))).trans wrow_self] at K
    exact K
  · refine rl_X7_wayTo_2 _ _ _ (fl _) h1 (rgb (by omega) (by omega)) ?_
    rw [if_pos (by decide), show wrow D b (fun q => if q < 6 then wX D b 0 q else D 3501 (1024 * b + q)) = wrow D b (wX D b 0) from wrow_cg (fun p p0 p1 => if_pos (by omega))]
    exact K0
  · intro j j0 j1 ih
    have hsj := hs j j0 j1
    refine rl_X7_wayTo_2 _ _ _ (fl _) h1 (rgb (by omega) (by omega)) ?_
    rw [if_neg (by omega), wrow_c (c := 52) (by decide), wrow_c (c := 3500) (by decide), h35, wr1 j0 j1 (by omega), wrow_up j0 j1, wrow_up j0 j1]
    refine ⟨by omega, ?_⟩
    have ex : ∀ v, v = wX D b 0 j → wrow D b (fun q => if q = j then v else if q < j then wX D b 0 q else D 3501 (1024 * b + q)) = wrow D b (fun q => if q < j + 1 then wX D b 0 q else D 3501 (1024 * b + q)) := fun v hv => wrow_cg (fun p p0 p1 => by
      by_cases c1 : p = j
      · rw [if_pos c1, if_pos (by omega), hv, c1]
      · rw [if_neg c1]
        by_cases c2 : p < j
        · rw [if_pos c2, if_pos (by omega)]
        · rw [if_neg c2, if_neg (by omega)])
    by_cases c : D 52 j ≤ 0
    · rw [if_pos c, ex _ (by unfold wX wrd; rw [sc6_i j0 j1]; exact (if_pos c).symm)]; exact ⟨by omega, ih⟩
    · rw [if_neg c, ex _ (by unfold wX wrd; rw [sc6_i j0 j1]; exact (if_neg c).symm)]; exact ⟨by omega, ih⟩
theorem fl_wayTo (D : aD) (b post : Int) (t : Nat) (i : Int) (ht : Nat.ble t 49 = true) : u_wayTo D b post (900 + t) i = D (900 + t) i := by
  unfold u_wayTo; rw [wrow_c (fl_ne rfl ht)]
abbrev P_X11_steps : Nat → Option am_E := am_fy tb_X11_steps
def v_X11_steps (D : aD) (a1 : Int) (a2 : Int) (a3 : Int) : Int := if v_X11_isServant D a1 = 0 then (-1) else if v_X11_between D a2 0 5 = 0 then (-1) else if v_X11_between D a3 0 1 = 0 then (-1) else if w_wayTo (u_tally D a1 (D 32 14)) (w_bookOf (u_tally D a1 (D 32 14)) ((u_tally D a1 (D 32 14)) 32 14)) a2 = 1000000000 then (-1) else if a3 = 0 then wr ((w_wayTo (u_tally D a1 (D 32 14)) (w_bookOf (u_tally D a1 (D 32 14)) ((u_tally D a1 (D 32 14)) 32 14)) a2).tdiv 1000000) else (w_wayTo (u_tally D a1 (D 32 14)) (w_bookOf (u_tally D a1 (D 32 14)) ((u_tally D a1 (D 32 14)) 32 14)) a2).tmod 1000000
def u_X11_steps (D : aD) (a1 : Int) (a2 : Int) (a3 : Int) : aD := if v_X11_isServant D a1 = 0 then D else if v_X11_between D a2 0 5 = 0 then D else if v_X11_between D a3 0 1 = 0 then D else if w_wayTo (u_tally D a1 (D 32 14)) (w_bookOf (u_tally D a1 (D 32 14)) ((u_tally D a1 (D 32 14)) 32 14)) a2 = 1000000000 then (u_wayTo (u_tally D a1 (D 32 14)) (w_bookOf (u_tally D a1 (D 32 14)) ((u_tally D a1 (D 32 14)) 32 14)) a2) else if a3 = 0 then (u_wayTo (u_tally D a1 (D 32 14)) (w_bookOf (u_tally D a1 (D 32 14)) ((u_tally D a1 (D 32 14)) 32 14)) a2) else (u_wayTo (u_tally D a1 (D 32 14)) (w_bookOf (u_tally D a1 (D 32 14)) ((u_tally D a1 (D 32 14)) 32 14)) a2)
def p_X11_steps (D : aD) (a1 : Int) (a2 : Int) (a3 : Int) : Prop := (if v_X11_isServant D a1 = 0 then True else (if v_X11_between D a2 0 5 = 0 then True else (if v_X11_between D a3 0 1 = 0 then True else (p_tally D a1 (D 32 14)) ∧ (p_inv1 (u_tally D a1 (D 32 14)) ((u_tally D a1 (D 32 14)) 32 14)) ∧ (p_wayTo (u_tally D a1 (D 32 14)) (w_bookOf (u_tally D a1 (D 32 14)) ((u_tally D a1 (D 32 14)) 32 14)) a2))))
set_option maxRecDepth 100000 in
theorem ev_X11_steps {n : Nat} {A : aA} {D : aD} (a1 : Int) (a2 : Int) (a3 : Int) (h1 : rg a1) (h2 : rg a2) (h3 : rg a3) (hp : p_X11_steps D a1 a2 a3) : Ev (n + 1) 7 97 [am_r (some 32), am_i (wz a1), am_i (wz a2), am_i (wz a3)] A D (ri (v_X11_steps D a1 a2 a3)) A (u_X11_steps D a1 a2 a3) := by
  unfold p_X11_steps at hp
  unfold v_X11_steps u_X11_steps
  refine Ev_of (c := 6) (P := P_X11_steps) (lo := [some (am_r (some 32)), some (am_i (wz a1)), some (am_i (wz a2)), some (am_i (wz a3)), none]) rfl rfl rfl (fun d hd s hr => ?_)
  refine ok (m_aload_n (q := 1) rfl rfl rfl rfl) ?_
  refine ok (m_iload_n (q := 2) rfl rfl rfl rfl) ?_
  refine oke (e_ci (x_cv (q := 5) rfl rfl rfl rfl rfl rfl rfl rfl rfl rfl (is_st hr rfl rfl)) (ev_X11_isServant (D := D) a1 h1) (Nat.le_trans (by decide) hd) hr) (fun s1 r2 => ?_)
  refine okf (m_ifeq (qt := 26) (qf := 8) rfl rfl (Ev_rg (ev_X11_isServant (D := D) a1 h1) hr) rfl rfl) (fun c3 => ?_) (fun c3 => ?_)
  · refine ok (m_iconst (q := 27) rfl rfl rfl) ?_
    exact ok (m_reti rfl rfl) (ok_i r2 ⟨by decide, by decide⟩)
  · replace hp := iq c3 hp
    refine ok (m_iload_n (q := 9) rfl rfl rfl rfl) ?_
    refine ok (m_iconst (q := 10) rfl rfl rfl) ?_
    refine ok (m_iconst (q := 11) rfl rfl rfl) ?_
    refine oke (e_ci (x_cs (q := 14) rfl rfl rfl rfl rfl rfl rfl rfl rfl) (ev_X11_between (D := D) a2 0 5 h2 ⟨by decide, by decide⟩ ⟨by decide, by decide⟩) (Nat.le_trans (by decide) hd) r2) (fun s4 r5 => ?_)
    refine okf (m_ifeq (qt := 26) (qf := 17) rfl rfl (Ev_rg (ev_X11_between (D := D) a2 0 5 h2 ⟨by decide, by decide⟩ ⟨by decide, by decide⟩) r2) rfl rfl) (fun c6 => ?_) (fun c6 => ?_)
    · refine ok (m_iconst (q := 27) rfl rfl rfl) ?_
      exact ok (m_reti rfl rfl) (ok_i r5 ⟨by decide, by decide⟩)
    · replace hp := iq c6 hp
      refine ok (m_iload_n (q := 18) rfl rfl rfl rfl) ?_
      refine ok (m_iconst (q := 19) rfl rfl rfl) ?_
      refine ok (m_iconst (q := 20) rfl rfl rfl) ?_
      refine oke (e_ci (x_cs (q := 23) rfl rfl rfl rfl rfl rfl rfl rfl rfl) (ev_X11_between (D := D) a3 0 1 h3 ⟨by decide, by decide⟩ ⟨by decide, by decide⟩) (Nat.le_trans (by decide) hd) r5) (fun s7 r8 => ?_)
      refine okf (m_ifne (qt := 28) (qf := 26) rfl rfl (Ev_rg (ev_X11_between (D := D) a3 0 1 h3 ⟨by decide, by decide⟩ ⟨by decide, by decide⟩) r5) rfl rfl) (fun c9 => ?_) (fun c9 => ?_)
      · refine ok (m_iconst (q := 27) rfl rfl rfl) ?_
        exact ok (m_reti rfl rfl) (ok_i r8 ⟨by decide, by decide⟩)
      · replace hp := iq c9 hp
        refine ok (m_aload_n (q := 29) rfl rfl rfl rfl) ?_
        refine ok (m_gfc (q := 32) rfl rfl rfl r8 rfl rfl rfl) ?_
        refine ok (m_iload_n (q := 33) rfl rfl rfl rfl) ?_
        refine ok (m_aload_n (q := 34) rfl rfl rfl rfl) ?_
        refine ok (m_gfs (z := 14) (q := 37) rfl rfl rfl r8 rfl rfl rfl rfl rfl) ?_
        obtain ⟨g12, hp⟩ := hp
        refine oke (e_cvd (x_cv (q := 40) rfl rfl rfl rfl rfl rfl rfl rfl rfl rfl (is_st r8 rfl rfl)) (ev_X3_tallyServed (D := D) a1 (D 32 14) h1 (Rp_rg r8 32 14) g12) (Nat.le_trans (by decide) hd) r8) (fun s10 r11 => ?_)
        refine ok (m_aload_n (q := 41) rfl rfl rfl rfl) ?_
        refine ok (m_aload_n (q := 42) rfl rfl rfl rfl) ?_
        refine ok (m_gfs (z := 14) (q := 45) rfl rfl rfl r11 rfl rfl rfl rfl rfl) ?_
        obtain ⟨g15, hp⟩ := hp
        refine oke (e_cr (x_cv (q := 48) rfl rfl rfl rfl rfl rfl rfl rfl rfl rfl (is_st r11 rfl rfl)) (ev_X11_bookOf (D := (u_tally D a1 (D 32 14))) ((u_tally D a1 (D 32 14)) 32 14) (Rp_rg r11 32 14) g15) (Nat.le_trans (by decide) hd) r11) (fun s13 r14 => ?_)
        refine ok (m_iload_n (q := 49) rfl rfl rfl rfl) ?_
        refine ok (m_aload_n (q := 50) rfl rfl rfl rfl) ?_
        refine ok (m_gfc (q := 53) rfl rfl rfl r14 rfl rfl rfl) ?_
        refine ok (m_gfc (q := 56) rfl rfl rfl r14 rfl rfl rfl) ?_
        have g18 := hp
        refine oke (e_ci (x_cv (q := 59) rfl rfl rfl rfl rfl rfl rfl rfl rfl rfl (is_ty r14 rfl (fg_bookOf (D := (u_tally D a1 (D 32 14))) ((u_tally D a1 (D 32 14)) 32 14) (Rp_rg r11 32 14) g15 r11))) (ev_X7_wayTo (D := (u_tally D a1 (D 32 14))) (w_bookOf (u_tally D a1 (D 32 14)) ((u_tally D a1 (D 32 14)) 32 14)) a2 (fg_bookOf (D := (u_tally D a1 (D 32 14))) ((u_tally D a1 (D 32 14)) 32 14) (Rp_rg r11 32 14) g15 r11) h2 g18) (Nat.le_trans (by decide) hd) r14) (fun s16 r17 => ?_)
        refine ok (m_istore (q := 61) (lo' := [some (am_r (some 32)), some (am_i (wz a1)), some (am_i (wz a2)), some (am_i (wz a3)), some (am_i (wz (w_wayTo (u_tally D a1 (D 32 14)) (w_bookOf (u_tally D a1 (D 32 14)) ((u_tally D a1 (D 32 14)) 32 14)) a2)))]) rfl rfl rfl rfl rfl) ?_
        refine ok (m_iload (q := 63) rfl rfl rfl rfl) ?_
        refine ok (m_ldc_w (q := 66) rfl rfl rfl) ?_
        refine okf (m_cmpne (qt := 71) (qf := 69) rfl rfl (Ev_rg (ev_X7_wayTo (D := (u_tally D a1 (D 32 14))) (w_bookOf (u_tally D a1 (D 32 14)) ((u_tally D a1 (D 32 14)) 32 14)) a2 (fg_bookOf (D := (u_tally D a1 (D 32 14))) ((u_tally D a1 (D 32 14)) 32 14) (Rp_rg r11 32 14) g15 r11) h2 g18) r14) ⟨by decide, by decide⟩ rfl rfl) (fun c19 => ?_) (fun c19 => ?_)
        · refine ok (m_iconst (q := 70) rfl rfl rfl) ?_
          exact ok (m_reti rfl rfl) (ok_i r17 ⟨by decide, by decide⟩)
        · refine ok (m_iload_n (q := 72) rfl rfl rfl rfl) ?_
          refine okf (m_ifne (qt := 84) (qf := 75) rfl rfl h3 rfl rfl) (fun c20 => ?_) (fun c20 => ?_)
          · refine ok (m_iload (q := 77) rfl rfl rfl rfl) ?_
            refine ok (m_ldc_w (q := 80) rfl rfl rfl) ?_
            refine ok (m_idiv (q := 81) rfl rfl (Ev_rg (ev_X7_wayTo (D := (u_tally D a1 (D 32 14))) (w_bookOf (u_tally D a1 (D 32 14)) ((u_tally D a1 (D 32 14)) 32 14)) a2 (fg_bookOf (D := (u_tally D a1 (D 32 14))) ((u_tally D a1 (D 32 14)) 32 14) (Rp_rg r11 32 14) g15 r11) h2 g18) r14) ⟨by decide, by decide⟩ (by decide) rfl) ?_
            refine ok (m_goto (q := 90) rfl rfl rfl) ?_
            exact ok (m_reti rfl rfl) (ok_i r17 (rg_wr _))
          · refine ok (m_iload (q := 86) rfl rfl rfl rfl) ?_
            refine ok (m_ldc_w (q := 89) rfl rfl rfl) ?_
            refine ok (m_irem (q := 90) rfl rfl (Ev_rg (ev_X7_wayTo (D := (u_tally D a1 (D 32 14))) (w_bookOf (u_tally D a1 (D 32 14)) ((u_tally D a1 (D 32 14)) 32 14)) a2 (fg_bookOf (D := (u_tally D a1 (D 32 14))) ((u_tally D a1 (D 32 14)) 32 14) (Rp_rg r11 32 14) g15 r11) h2 g18) r14) ⟨by decide, by decide⟩ (by decide) rfl) ?_
            exact ok (m_reti rfl rfl) (ok_i r17 (rg_tmod (Ev_rg (ev_X7_wayTo (D := (u_tally D a1 (D 32 14))) (w_bookOf (u_tally D a1 (D 32 14)) ((u_tally D a1 (D 32 14)) 32 14)) a2 (fg_bookOf (D := (u_tally D a1 (D 32 14))) ((u_tally D a1 (D 32 14)) 32 14) (Rp_rg r11 32 14) g15 r11) h2 g18) r14) ⟨by decide, by decide⟩))
theorem fl_X11_steps (D : aD) (a1 : Int) (a2 : Int) (a3 : Int) (t : Nat) (i : Int) (ht : Nat.ble t 49 = true) : u_X11_steps D a1 a2 a3 (900 + t) i = D (900 + t) i := fl_if (rfl) (fl_if (rfl) (fl_if (rfl) (fl_if ((fl_wayTo (u_tally D a1 (D 32 14)) (w_bookOf (u_tally D a1 (D 32 14)) ((u_tally D a1 (D 32 14)) 32 14)) a2 t i ht).trans ((fl_tally D a1 (D 32 14) t i ht).trans (rfl))) (fl_if ((fl_wayTo (u_tally D a1 (D 32 14)) (w_bookOf (u_tally D a1 (D 32 14)) ((u_tally D a1 (D 32 14)) 32 14)) a2 t i ht).trans ((fl_tally D a1 (D 32 14) t i ht).trans (rfl))) ((fl_wayTo (u_tally D a1 (D 32 14)) (w_bookOf (u_tally D a1 (D 32 14)) ((u_tally D a1 (D 32 14)) 32 14)) a2 t i ht).trans ((fl_tally D a1 (D 32 14) t i ht).trans (rfl)))))))
abbrev P_X12_steps : Nat → Option am_E := am_fy tb_X12_steps
def K_X12_steps_31 (n : Nat) (A : aA) (D : aD) (a1 : Int) (a2 : Int) (a3 : Int) (a4 : Int) (x : Int) (D' : aD) : Prop := Lp n 2 P_X12_steps 31 [some (am_r (some 70)), some (am_i (wz a1)), some (am_i (wz a2)), some (am_i (wz a3)), some (am_i (wz a4)), none, none, none] [] A D (ri x) A D'
def K_X12_steps_55 (n : Nat) (A : aA) (D : aD) (a1 : Int) (a2 : Int) (a3 : Int) (a4 : Int) (x : Int) (D' : aD) : Prop := Lp n 2 P_X12_steps 55 [some (am_r (some 70)), some (am_i (wz a1)), some (am_i (wz a2)), some (am_i (wz a3)), some (am_i (wz a4)), none, none, none] [] A D (ri x) A D'
def K_X12_steps_123 (n : Nat) (A : aA) (D : aD) (a2 : Int) (a3 : Int) (a4 : Int) (a5 : Int) (x : Int) (D' : aD) : Prop := Lp n 2 P_X12_steps 123 [some (am_r (some 70)), none, some (am_i (wz a2)), some (am_i (wz a3)), some (am_i (wz a4)), some (am_i (wz a5)), none, none] [] A D (ri x) A D'
def K_X12_steps_167 (n : Nat) (A : aA) (D : aD) (a2 : Int) (a3 : Int) (a4 : Int) (a5 : Int) (x : Int) (D' : aD) : Prop := Lp n 2 P_X12_steps 167 [some (am_r (some 70)), none, some (am_i (wz a2)), some (am_i (wz a3)), some (am_i (wz a4)), some (am_i (wz a5)), none, none] [] A D (ri x) A D'
def K_X12_steps_257 (n : Nat) (A : aA) (D : aD) (a2 : Int) (a3 : Int) (a4 : Int) (a5 : Int) (x : Int) (D' : aD) : Prop := Lp n 2 P_X12_steps 257 [some (am_r (some 70)), none, some (am_i (wz a2)), some (am_i (wz a3)), some (am_i (wz a4)), some (am_i (wz a5)), none, none] [] A D (ri x) A D'
def K_X12_steps_272 (n : Nat) (A : aA) (D : aD) (a2 : Int) (a3 : Int) (a4 : Int) (a5 : Int) (a6 : Int) (x : Int) (D' : aD) : Prop := Lp n 2 P_X12_steps 272 [some (am_r (some 70)), none, some (am_i (wz a2)), some (am_i (wz a3)), some (am_i (wz a4)), some (am_i (wz a5)), some (am_i (wz a6)), none] [] A D (ri x) A D'
set_option maxRecDepth 100000 in
theorem rl_X12_steps {n : Nat} {A : aA} {D D' : aD} (a1 : Int) (a2 : Int) (a3 : Int) (h1 : rg a1) (h2 : rg a2) (h3 : rg a3) {x : Int} (hp : (if v_X12_isServant D a1 = 0 then (x = (-1) ∧ D' = D) else (if v_X12_isIn D a2 0 5 = 0 then (x = (-1) ∧ D' = D) else (if v_X12_isIn D a3 0 1 = 0 then (x = (-1) ∧ D' = D) else K_X12_steps_31 (n + 1) A D a1 a2 a3 0 x D')))) : Ev (n + 1) (3) 198 [am_r (some 70), am_i (wz a1), am_i (wz a2), am_i (wz a3)] A D (ri x) A D' := by
  refine Ev_of (c := 2) (P := P_X12_steps) (lo := [some (am_r (some 70)), some (am_i (wz a1)), some (am_i (wz a2)), some (am_i (wz a3)), none, none, none, none]) rfl rfl rfl (fun d hd s hr => ?_)
  refine ok (m_aload_n (q := 1) rfl rfl rfl rfl) ?_
  refine ok (m_iload_n (q := 2) rfl rfl rfl rfl) ?_
  refine oke (e_ci (x_cv (q := 5) rfl rfl rfl rfl rfl rfl rfl rfl rfl rfl (is_st hr rfl rfl)) (ev_X12_isServant (D := D) a1 h1) (Nat.le_trans (by decide) hd) hr) (fun s1 r2 => ?_)
  refine okc (m_ifeq (qt := 26) (qf := 8) rfl rfl (Ev_rg (ev_X12_isServant (D := D) a1 h1) hr) rfl rfl) (fun c3 => ?_) (fun c3 => ?_)
  · replace hp := ip c3 hp
    refine ok (m_iconst (q := 27) rfl rfl rfl) ?_
    exact ok (m_reti rfl rfl) (ok_iq r2 ⟨by decide, by decide⟩ hp)
  · replace hp := iq c3 hp
    refine ok (m_iload_n (q := 9) rfl rfl rfl rfl) ?_
    refine ok (m_iconst (q := 10) rfl rfl rfl) ?_
    refine ok (m_iconst (q := 11) rfl rfl rfl) ?_
    refine oke (e_ci (x_cs (q := 14) rfl rfl rfl rfl rfl rfl rfl rfl rfl) (ev_X12_isIn (D := D) a2 0 5 h2 ⟨by decide, by decide⟩ ⟨by decide, by decide⟩) (Nat.le_trans (by decide) hd) r2) (fun s4 r5 => ?_)
    refine okc (m_ifeq (qt := 26) (qf := 17) rfl rfl (Ev_rg (ev_X12_isIn (D := D) a2 0 5 h2 ⟨by decide, by decide⟩ ⟨by decide, by decide⟩) r2) rfl rfl) (fun c6 => ?_) (fun c6 => ?_)
    · replace hp := ip c6 hp
      refine ok (m_iconst (q := 27) rfl rfl rfl) ?_
      exact ok (m_reti rfl rfl) (ok_iq r5 ⟨by decide, by decide⟩ hp)
    · replace hp := iq c6 hp
      refine ok (m_iload_n (q := 18) rfl rfl rfl rfl) ?_
      refine ok (m_iconst (q := 19) rfl rfl rfl) ?_
      refine ok (m_iconst (q := 20) rfl rfl rfl) ?_
      refine oke (e_ci (x_cs (q := 23) rfl rfl rfl rfl rfl rfl rfl rfl rfl) (ev_X12_isIn (D := D) a3 0 1 h3 ⟨by decide, by decide⟩ ⟨by decide, by decide⟩) (Nat.le_trans (by decide) hd) r5) (fun s7 r8 => ?_)
      refine okc (m_ifne (qt := 28) (qf := 26) rfl rfl (Ev_rg (ev_X12_isIn (D := D) a3 0 1 h3 ⟨by decide, by decide⟩ ⟨by decide, by decide⟩) r5) rfl rfl) (fun c9 => ?_) (fun c9 => ?_)
      · replace hp := ip c9 hp
        refine ok (m_iconst (q := 27) rfl rfl rfl) ?_
        exact ok (m_reti rfl rfl) (ok_iq r8 ⟨by decide, by decide⟩ hp)
      · replace hp := iq c9 hp
        refine ok (m_iconst (q := 29) rfl rfl rfl) ?_
        refine ok (m_istore (q := 31) (lo' := [some (am_r (some 70)), some (am_i (wz a1)), some (am_i (wz a2)), some (am_i (wz a3)), some (am_i (wz 0)), none, none, none]) rfl rfl rfl rfl rfl) ?_
        exact hp d hd _ r8
set_option maxRecDepth 100000 in
theorem rl_X12_steps_31 {n : Nat} {A : aA} {D D' : aD} (a1 : Int) (a2 : Int) (a3 : Int) (a4 : Int) (h1 : rg a1) (h2 : rg a2) (h3 : rg a3) (h4 : rg a4) {x : Int} (hp : (if 6 ≤ a4 then K_X12_steps_55 (n + 1) A D a1 a2 a3 0 x D' else (0 ≤ a4 ∧ a4 < 6) ∧ K_X12_steps_31 (n + 1) A (up D 122 a4 0) a1 a2 a3 (wr (a4 + 1)) x D')) : K_X12_steps_31 (n + 1) A D a1 a2 a3 a4 x D' := by
  unfold K_X12_steps_31
  refine fun d hd s hr => ?_
  refine ok (m_iload (q := 33) rfl rfl rfl rfl) ?_
  refine ok (m_bipush (q := 35) rfl rfl rfl) ?_
  refine okc (m_cmpge (qt := 52) (qf := 38) rfl rfl h4 ⟨by decide, by decide⟩ rfl rfl) (fun c10 => ?_) (fun c10 => ?_)
  · replace hp := ip c10 hp
    refine ok (m_iconst (q := 53) rfl rfl rfl) ?_
    refine ok (m_istore (q := 55) (lo' := [some (am_r (some 70)), some (am_i (wz a1)), some (am_i (wz a2)), some (am_i (wz a3)), some (am_i (wz 0)), none, none, none]) rfl rfl rfl rfl rfl) ?_
    exact hp d hd _ hr
  · replace hp := iq c10 hp
    refine ok (m_aload_n (q := 39) rfl rfl rfl rfl) ?_
    refine ok (m_gfc (q := 42) rfl rfl rfl hr rfl rfl rfl) ?_
    refine ok (m_iload (q := 44) rfl rfl rfl rfl) ?_
    refine ok (m_iconst (q := 45) rfl rfl rfl) ?_
    obtain ⟨g13, hp⟩ := hp
    refine oke (e_ias (q := 46) rfl rfl rfl hr rfl rfl g13 ⟨by decide, by decide⟩) (fun s12 r11 => ?_)
    refine ok (m_iinc (q := 49) (lo' := [some (am_r (some 70)), some (am_i (wz a1)), some (am_i (wz a2)), some (am_i (wz a3)), some (am_i (wz (wr (a4 + 1)))), none, none, none]) rfl rfl rfl rfl rfl rfl rfl) ?_
    refine ok (m_goto (q := 31) rfl rfl rfl) ?_
    exact hp d hd _ r11
set_option maxRecDepth 100000 in
theorem rl_X12_steps_55 {n : Nat} {A : aA} {D D' : aD} (a1 : Int) (a2 : Int) (a3 : Int) (a4 : Int) (h1 : rg a1) (h2 : rg a2) (h3 : rg a3) (h4 : rg a4) {x : Int} (hp : (if D 70 0 < a4 then (p_inv1 D (D 70 0)) ∧ K_X12_steps_123 (n + 1) A D a2 a3 (w_inForce D (D 70 0)) 0 x D' else (p_inOf D a1 a4 (D 70 0)) ∧ (if w_inOf D a1 a4 (D 70 0) = (-1) then K_X12_steps_55 (n + 1) A D a1 a2 a3 (wr (a4 + 1)) x D' else (0 ≤ w_inOf D a1 a4 (D 70 0) ∧ w_inOf D a1 a4 (D 70 0) < 60) ∧ (0 ≤ D 84 (w_inOf D a1 a4 (D 70 0)) ∧ D 84 (w_inOf D a1 a4 (D 70 0)) < 30) ∧ (0 ≤ D 78 (D 84 (w_inOf D a1 a4 (D 70 0))) ∧ D 78 (D 84 (w_inOf D a1 a4 (D 70 0))) < 6) ∧ K_X12_steps_55 (n + 1) A (up D 122 (D 78 (D 84 (w_inOf D a1 a4 (D 70 0)))) (wr ((D 122 (D 78 (D 84 (w_inOf D a1 a4 (D 70 0))))) + 1))) a1 a2 a3 (wr (a4 + 1)) x D'))) : K_X12_steps_55 (n + 1) A D a1 a2 a3 a4 x D' := by
  unfold K_X12_steps_55
  refine fun d hd s hr => ?_
  refine ok (m_iload (q := 57) rfl rfl rfl rfl) ?_
  refine ok (m_aload_n (q := 58) rfl rfl rfl rfl) ?_
  refine ok (m_gfs (z := 0) (q := 61) rfl rfl rfl hr rfl rfl rfl rfl rfl) ?_
  refine okc (m_cmpgt (qt := 110) (qf := 64) rfl rfl h4 (Rp_rg hr 70 0) rfl rfl) (fun c14 => ?_) (fun c14 => ?_)
  · replace hp := ip c14 hp
    refine ok (m_aload_n (q := 111) rfl rfl rfl rfl) ?_
    refine ok (m_aload_n (q := 112) rfl rfl rfl rfl) ?_
    refine ok (m_gfs (z := 0) (q := 115) rfl rfl rfl hr rfl rfl rfl rfl rfl) ?_
    obtain ⟨g17, hp⟩ := hp
    refine oke (e_ci (x_cv (q := 118) rfl rfl rfl rfl rfl rfl rfl rfl rfl rfl (is_st hr rfl rfl)) (ev_X12_inForce (D := D) (D 70 0) (Rp_rg hr 70 0) g17) (Nat.le_trans (by decide) hd) hr) (fun s15 r16 => ?_)
    refine ok (m_istore (q := 120) (lo' := [some (am_r (some 70)), some (am_i (wz a1)), some (am_i (wz a2)), some (am_i (wz a3)), some (am_i (wz (w_inForce D (D 70 0)))), none, none, none]) rfl rfl rfl rfl rfl) ?_
    refine ok (m_iconst (q := 121) rfl rfl rfl) ?_
    refine ok (m_istore (q := 123) (lo' := [some (am_r (some 70)), some (am_i (wz a1)), some (am_i (wz a2)), some (am_i (wz a3)), some (am_i (wz (w_inForce D (D 70 0)))), some (am_i (wz 0)), none, none]) rfl rfl rfl rfl rfl) ?_
    refine ok (mk rfl (lo' := [some (am_r (some 70)), none, some (am_i (wz a2)), some (am_i (wz a3)), some (am_i (wz (w_inForce D (D 70 0)))), some (am_i (wz 0)), none, none]) rfl) ?_
    exact hp d hd _ r16
  · replace hp := iq c14 hp
    refine ok (m_aload_n (q := 65) rfl rfl rfl rfl) ?_
    refine ok (m_iload_n (q := 66) rfl rfl rfl rfl) ?_
    refine ok (m_iload (q := 68) rfl rfl rfl rfl) ?_
    refine ok (m_aload_n (q := 69) rfl rfl rfl rfl) ?_
    refine ok (m_gfs (z := 0) (q := 72) rfl rfl rfl hr rfl rfl rfl rfl rfl) ?_
    obtain ⟨g20, hp⟩ := hp
    refine oke (e_ci (x_cv (q := 75) rfl rfl rfl rfl rfl rfl rfl rfl rfl rfl (is_st hr rfl rfl)) (ev_X12_inOf (D := D) a1 a4 (D 70 0) h1 h4 (Rp_rg hr 70 0) g20) (Nat.le_trans (by decide) hd) hr) (fun s18 r19 => ?_)
    refine ok (m_istore (q := 77) (lo' := [some (am_r (some 70)), some (am_i (wz a1)), some (am_i (wz a2)), some (am_i (wz a3)), some (am_i (wz a4)), some (am_i (wz (w_inOf D a1 a4 (D 70 0)))), none, none]) rfl rfl rfl rfl rfl) ?_
    refine ok (m_iload (q := 79) rfl rfl rfl rfl) ?_
    refine ok (m_iconst (q := 80) rfl rfl rfl) ?_
    refine okc (m_cmpeq (qt := 104) (qf := 83) rfl rfl (Ev_rg (ev_X12_inOf (D := D) a1 a4 (D 70 0) h1 h4 (Rp_rg hr 70 0) g20) hr) ⟨by decide, by decide⟩ rfl rfl) (fun c21 => ?_) (fun c21 => ?_)
    · replace hp := ip c21 hp
      refine ok (m_iinc (q := 107) (lo' := [some (am_r (some 70)), some (am_i (wz a1)), some (am_i (wz a2)), some (am_i (wz a3)), some (am_i (wz (wr (a4 + 1)))), some (am_i (wz (w_inOf D a1 a4 (D 70 0)))), none, none]) rfl rfl rfl rfl rfl rfl rfl) ?_
      refine ok (m_goto (q := 55) rfl rfl rfl) ?_
      refine ok (mk rfl (lo' := [some (am_r (some 70)), some (am_i (wz a1)), some (am_i (wz a2)), some (am_i (wz a3)), some (am_i (wz (wr (a4 + 1)))), none, none, none]) rfl) ?_
      exact hp d hd _ r19
    · replace hp := iq c21 hp
      refine ok (m_aload_n (q := 84) rfl rfl rfl rfl) ?_
      refine ok (m_gfc (q := 87) rfl rfl rfl r19 rfl rfl rfl) ?_
      refine ok (m_aload_n (q := 88) rfl rfl rfl rfl) ?_
      refine ok (m_gfc (q := 91) rfl rfl rfl r19 rfl rfl rfl) ?_
      refine ok (m_aload_n (q := 92) rfl rfl rfl rfl) ?_
      refine ok (m_gfc (q := 95) rfl rfl rfl r19 rfl rfl rfl) ?_
      refine ok (m_iload (q := 97) rfl rfl rfl rfl) ?_
      obtain ⟨g22, hp⟩ := hp
      refine ok (m_ials (q := 98) rfl rfl rfl r19 rfl rfl g22 rfl) ?_
      obtain ⟨g23, hp⟩ := hp
      refine ok (m_ials (q := 99) rfl rfl rfl r19 rfl rfl g23 rfl) ?_
      refine ok (m_dup2 (q := 100) rfl rfl rfl rfl rfl) ?_
      obtain ⟨g24, hp⟩ := hp
      refine ok (m_ials (q := 101) rfl rfl rfl r19 rfl rfl g24 rfl) ?_
      refine ok (m_iconst (q := 102) rfl rfl rfl) ?_
      refine ok (m_iadd (q := 103) rfl rfl rfl) ?_
      refine oke (e_ias (q := 104) rfl rfl rfl r19 rfl rfl g24 (rg_wr _)) (fun s26 r25 => ?_)
      refine ok (m_iinc (q := 107) (lo' := [some (am_r (some 70)), some (am_i (wz a1)), some (am_i (wz a2)), some (am_i (wz a3)), some (am_i (wz (wr (a4 + 1)))), some (am_i (wz (w_inOf D a1 a4 (D 70 0)))), none, none]) rfl rfl rfl rfl rfl rfl rfl) ?_
      refine ok (m_goto (q := 55) rfl rfl rfl) ?_
      refine ok (mk rfl (lo' := [some (am_r (some 70)), some (am_i (wz a1)), some (am_i (wz a2)), some (am_i (wz a3)), some (am_i (wz (wr (a4 + 1)))), none, none, none]) rfl) ?_
      exact hp d hd _ r25
set_option maxRecDepth 100000 in
theorem rl_X12_steps_123 {n : Nat} {A : aA} {D D' : aD} (a2 : Int) (a3 : Int) (a4 : Int) (a5 : Int) (h2 : rg a2) (h3 : rg a3) (h4 : rg a4) (h5 : rg a5) {x : Int} (hp : (if 6 ≤ a5 then K_X12_steps_167 (n + 1) A D a2 a3 a4 (wr (30 * a4)) x D' else (0 ≤ a5 ∧ a5 < 6) ∧ (if D 122 a5 ≤ 0 then K_X12_steps_123 (n + 1) A (up D 123 a5 100000000) a2 a3 a4 (wr (a5 + 1)) x D' else K_X12_steps_123 (n + 1) A (up D 123 a5 0) a2 a3 a4 (wr (a5 + 1)) x D'))) : K_X12_steps_123 (n + 1) A D a2 a3 a4 a5 x D' := by
  unfold K_X12_steps_123
  refine fun d hd s hr => ?_
  refine ok (m_iload (q := 125) rfl rfl rfl rfl) ?_
  refine ok (m_bipush (q := 127) rfl rfl rfl) ?_
  refine okc (m_cmpge (qt := 160) (qf := 130) rfl rfl h5 ⟨by decide, by decide⟩ rfl rfl) (fun c27 => ?_) (fun c27 => ?_)
  · replace hp := ip c27 hp
    refine ok (m_bipush (q := 162) rfl rfl rfl) ?_
    refine ok (m_iload (q := 164) rfl rfl rfl rfl) ?_
    refine ok (m_imul (q := 165) rfl rfl rfl) ?_
    refine ok (m_istore (q := 167) (lo' := [some (am_r (some 70)), none, some (am_i (wz a2)), some (am_i (wz a3)), some (am_i (wz a4)), some (am_i (wz (wr (30 * a4)))), none, none]) rfl rfl rfl rfl rfl) ?_
    exact hp d hd _ hr
  · replace hp := iq c27 hp
    refine ok (m_aload_n (q := 131) rfl rfl rfl rfl) ?_
    refine ok (m_gfc (q := 134) rfl rfl rfl hr rfl rfl rfl) ?_
    refine ok (m_iload (q := 136) rfl rfl rfl rfl) ?_
    refine ok (m_aload_n (q := 137) rfl rfl rfl rfl) ?_
    refine ok (m_gfc (q := 140) rfl rfl rfl hr rfl rfl rfl) ?_
    refine ok (m_iload (q := 142) rfl rfl rfl rfl) ?_
    obtain ⟨g28, hp⟩ := hp
    refine ok (m_ials (q := 143) rfl rfl rfl hr rfl rfl g28 rfl) ?_
    refine okc (m_ifle (qt := 150) (qf := 146) rfl rfl (Rp_rg hr 122 a5) rfl rfl) (fun c29 => ?_) (fun c29 => ?_)
    · replace hp := ip c29 hp
      refine ok (m_ldc_w (q := 153) rfl rfl rfl) ?_
      refine oke (e_ias (q := 154) rfl rfl rfl hr rfl rfl g28 ⟨by decide, by decide⟩) (fun s31 r30 => ?_)
      refine ok (m_iinc (q := 157) (lo' := [some (am_r (some 70)), none, some (am_i (wz a2)), some (am_i (wz a3)), some (am_i (wz a4)), some (am_i (wz (wr (a5 + 1)))), none, none]) rfl rfl rfl rfl rfl rfl rfl) ?_
      refine ok (m_goto (q := 123) rfl rfl rfl) ?_
      exact hp d hd _ r30
    · replace hp := iq c29 hp
      refine ok (m_iconst (q := 147) rfl rfl rfl) ?_
      refine ok (m_goto (q := 153) rfl rfl rfl) ?_
      refine oke (e_ias (q := 154) rfl rfl rfl hr rfl rfl g28 ⟨by decide, by decide⟩) (fun s33 r32 => ?_)
      refine ok (m_iinc (q := 157) (lo' := [some (am_r (some 70)), none, some (am_i (wz a2)), some (am_i (wz a3)), some (am_i (wz a4)), some (am_i (wz (wr (a5 + 1)))), none, none]) rfl rfl rfl rfl rfl rfl rfl) ?_
      refine ok (m_goto (q := 123) rfl rfl rfl) ?_
      exact hp d hd _ r32
set_option maxRecDepth 100000 in
theorem rl_X12_steps_167 {n : Nat} {A : aA} {D D' : aD} (a2 : Int) (a3 : Int) (a4 : Int) (a5 : Int) (h2 : rg a2) (h3 : rg a3) (h4 : rg a4) (h5 : rg a5) {x : Int} (hp : (if a4 = (-1) then (if a4 = (-1) then K_X12_steps_257 (n + 1) A D a2 a3 a4 0 x D' else K_X12_steps_257 (n + 1) A D a2 a3 a4 1 x D') else (0 ≤ a4 ∧ a4 < 9) ∧ (if wr ((wr (30 * a4)) + (D 92 a4)) ≤ a5 then (if a4 = (-1) then K_X12_steps_257 (n + 1) A D a2 a3 a4 0 x D' else K_X12_steps_257 (n + 1) A D a2 a3 a4 1 x D') else (0 ≤ a5 ∧ a5 < 270) ∧ (if D 94 a5 = 6 then (0 ≤ D 95 a5 ∧ D 95 a5 < 6) ∧ (if D 122 (D 95 a5) < D 96 a5 then K_X12_steps_167 (n + 1) A D a2 a3 a4 (wr (a5 + 1)) x D' else (0 ≤ D 97 a5 ∧ D 97 a5 < 6) ∧ K_X12_steps_167 (n + 1) A (up D 123 (D 97 a5) 0) a2 a3 a4 (wr (a5 + 1)) x D') else K_X12_steps_167 (n + 1) A D a2 a3 a4 (wr (a5 + 1)) x D')))) : K_X12_steps_167 (n + 1) A D a2 a3 a4 a5 x D' := by
  unfold K_X12_steps_167
  refine fun d hd s hr => ?_
  refine ok (m_iload (q := 169) rfl rfl rfl rfl) ?_
  refine ok (m_iconst (q := 170) rfl rfl rfl) ?_
  refine okc (m_cmpeq (qt := 244) (qf := 173) rfl rfl h4 ⟨by decide, by decide⟩ rfl rfl) (fun c34 => ?_) (fun c34 => ?_)
  · replace hp := ip c34 hp
    refine ok (m_iload (q := 246) rfl rfl rfl rfl) ?_
    refine ok (m_iconst (q := 247) rfl rfl rfl) ?_
    refine okc (m_cmpeq (qt := 254) (qf := 250) rfl rfl h4 ⟨by decide, by decide⟩ rfl rfl) (fun c35 => ?_) (fun c35 => ?_)
    · replace hp := ip c35 hp
      refine ok (m_iconst (q := 255) rfl rfl rfl) ?_
      refine ok (m_istore (q := 257) (lo' := [some (am_r (some 70)), none, some (am_i (wz a2)), some (am_i (wz a3)), some (am_i (wz a4)), some (am_i (wz 0)), none, none]) rfl rfl rfl rfl rfl) ?_
      exact hp d hd _ hr
    · replace hp := iq c35 hp
      refine ok (m_iconst (q := 251) rfl rfl rfl) ?_
      refine ok (m_goto (q := 255) rfl rfl rfl) ?_
      refine ok (m_istore (q := 257) (lo' := [some (am_r (some 70)), none, some (am_i (wz a2)), some (am_i (wz a3)), some (am_i (wz a4)), some (am_i (wz 1)), none, none]) rfl rfl rfl rfl rfl) ?_
      exact hp d hd _ hr
  · replace hp := iq c34 hp
    refine ok (m_iload (q := 175) rfl rfl rfl rfl) ?_
    refine ok (m_bipush (q := 177) rfl rfl rfl) ?_
    refine ok (m_iload (q := 179) rfl rfl rfl rfl) ?_
    refine ok (m_imul (q := 180) rfl rfl rfl) ?_
    refine ok (m_aload_n (q := 181) rfl rfl rfl rfl) ?_
    refine ok (m_gfc (q := 184) rfl rfl rfl hr rfl rfl rfl) ?_
    refine ok (m_iload (q := 186) rfl rfl rfl rfl) ?_
    obtain ⟨g36, hp⟩ := hp
    refine ok (m_ials (q := 187) rfl rfl rfl hr rfl rfl g36 rfl) ?_
    refine ok (m_iadd (q := 188) rfl rfl rfl) ?_
    refine okc (m_cmpge (qt := 244) (qf := 191) rfl rfl h5 (rg_wr _) rfl rfl) (fun c37 => ?_) (fun c37 => ?_)
    · replace hp := ip c37 hp
      refine ok (m_iload (q := 246) rfl rfl rfl rfl) ?_
      refine ok (m_iconst (q := 247) rfl rfl rfl) ?_
      refine okc (m_cmpeq (qt := 254) (qf := 250) rfl rfl h4 ⟨by decide, by decide⟩ rfl rfl) (fun c38 => ?_) (fun c38 => ?_)
      · replace hp := ip c38 hp
        refine ok (m_iconst (q := 255) rfl rfl rfl) ?_
        refine ok (m_istore (q := 257) (lo' := [some (am_r (some 70)), none, some (am_i (wz a2)), some (am_i (wz a3)), some (am_i (wz a4)), some (am_i (wz 0)), none, none]) rfl rfl rfl rfl rfl) ?_
        exact hp d hd _ hr
      · replace hp := iq c38 hp
        refine ok (m_iconst (q := 251) rfl rfl rfl) ?_
        refine ok (m_goto (q := 255) rfl rfl rfl) ?_
        refine ok (m_istore (q := 257) (lo' := [some (am_r (some 70)), none, some (am_i (wz a2)), some (am_i (wz a3)), some (am_i (wz a4)), some (am_i (wz 1)), none, none]) rfl rfl rfl rfl rfl) ?_
        exact hp d hd _ hr
    · replace hp := iq c37 hp
      refine ok (m_aload_n (q := 192) rfl rfl rfl rfl) ?_
      refine ok (m_gfc (q := 195) rfl rfl rfl hr rfl rfl rfl) ?_
      refine ok (m_iload (q := 197) rfl rfl rfl rfl) ?_
      obtain ⟨g39, hp⟩ := hp
      refine ok (m_ials (q := 198) rfl rfl rfl hr rfl rfl g39 rfl) ?_
      refine ok (m_bipush (q := 200) rfl rfl rfl) ?_
      refine okc (m_cmpne (qt := 238) (qf := 203) rfl rfl (Rp_rg hr 94 a5) ⟨by decide, by decide⟩ rfl rfl) (fun c40 => ?_) (fun c40 => ?_)
      · replace hp := ip c40 hp
        refine ok (m_aload_n (q := 204) rfl rfl rfl rfl) ?_
        refine ok (m_gfc (q := 207) rfl rfl rfl hr rfl rfl rfl) ?_
        refine ok (m_aload_n (q := 208) rfl rfl rfl rfl) ?_
        refine ok (m_gfc (q := 211) rfl rfl rfl hr rfl rfl rfl) ?_
        refine ok (m_iload (q := 213) rfl rfl rfl rfl) ?_
        refine ok (m_ials (q := 214) rfl rfl rfl hr rfl rfl g39 rfl) ?_
        obtain ⟨g41, hp⟩ := hp
        refine ok (m_ials (q := 215) rfl rfl rfl hr rfl rfl g41 rfl) ?_
        refine ok (m_aload_n (q := 216) rfl rfl rfl rfl) ?_
        refine ok (m_gfc (q := 219) rfl rfl rfl hr rfl rfl rfl) ?_
        refine ok (m_iload (q := 221) rfl rfl rfl rfl) ?_
        refine ok (m_ials (q := 222) rfl rfl rfl hr rfl rfl g39 rfl) ?_
        refine okc (m_cmplt (qt := 238) (qf := 225) rfl rfl (Rp_rg hr 122 (D 95 a5)) (Rp_rg hr 96 a5) rfl rfl) (fun c42 => ?_) (fun c42 => ?_)
        · replace hp := ip c42 hp
          refine ok (m_iinc (q := 241) (lo' := [some (am_r (some 70)), none, some (am_i (wz a2)), some (am_i (wz a3)), some (am_i (wz a4)), some (am_i (wz (wr (a5 + 1)))), none, none]) rfl rfl rfl rfl rfl rfl rfl) ?_
          refine ok (m_goto (q := 167) rfl rfl rfl) ?_
          exact hp d hd _ hr
        · replace hp := iq c42 hp
          refine ok (m_aload_n (q := 226) rfl rfl rfl rfl) ?_
          refine ok (m_gfc (q := 229) rfl rfl rfl hr rfl rfl rfl) ?_
          refine ok (m_aload_n (q := 230) rfl rfl rfl rfl) ?_
          refine ok (m_gfc (q := 233) rfl rfl rfl hr rfl rfl rfl) ?_
          refine ok (m_iload (q := 235) rfl rfl rfl rfl) ?_
          refine ok (m_ials (q := 236) rfl rfl rfl hr rfl rfl g39 rfl) ?_
          refine ok (m_iconst (q := 237) rfl rfl rfl) ?_
          obtain ⟨g45, hp⟩ := hp
          refine oke (e_ias (q := 238) rfl rfl rfl hr rfl rfl g45 ⟨by decide, by decide⟩) (fun s44 r43 => ?_)
          refine ok (m_iinc (q := 241) (lo' := [some (am_r (some 70)), none, some (am_i (wz a2)), some (am_i (wz a3)), some (am_i (wz a4)), some (am_i (wz (wr (a5 + 1)))), none, none]) rfl rfl rfl rfl rfl rfl rfl) ?_
          refine ok (m_goto (q := 167) rfl rfl rfl) ?_
          exact hp d hd _ r43
      · replace hp := iq c40 hp
        refine ok (m_iinc (q := 241) (lo' := [some (am_r (some 70)), none, some (am_i (wz a2)), some (am_i (wz a3)), some (am_i (wz a4)), some (am_i (wz (wr (a5 + 1)))), none, none]) rfl rfl rfl rfl rfl rfl rfl) ?_
        refine ok (m_goto (q := 167) rfl rfl rfl) ?_
        exact hp d hd _ hr
set_option maxRecDepth 100000 in
theorem rl_X12_steps_257 {n : Nat} {A : aA} {D D' : aD} (a2 : Int) (a3 : Int) (a4 : Int) (a5 : Int) (h2 : rg a2) (h3 : rg a3) (h4 : rg a4) (h5 : rg a5) (b5 : 0 ≤ a5 ∧ a5 ≤ 1) {x : Int} (hp : (if a5 = 0 then (0 ≤ a2 ∧ a2 < 6) ∧ (if D 123 a2 = 100000000 then (x = (-1) ∧ D' = D) else (if a3 = 0 then (x = wr ((D 123 a2).tdiv 100000) ∧ D' = D) else (x = (D 123 a2).tmod 100000 ∧ D' = D))) else K_X12_steps_272 (n + 1) A D a2 a3 a4 0 (wr (30 * a4)) x D')) : K_X12_steps_257 (n + 1) A D a2 a3 a4 a5 x D' := by
  unfold K_X12_steps_257
  refine fun d hd s hr => ?_
  refine ok (m_iload (q := 259) rfl rfl rfl rfl) ?_
  refine okc (m_ifeq (qt := 412) (qf := 262) rfl rfl h5 rfl rfl) (fun c46 => ?_) (fun c46 => ?_)
  · replace hp := ip c46 hp
    refine ok (m_aload_n (q := 413) rfl rfl rfl rfl) ?_
    refine ok (m_gfc (q := 416) rfl rfl rfl hr rfl rfl rfl) ?_
    refine ok (m_iload_n (q := 417) rfl rfl rfl rfl) ?_
    obtain ⟨g47, hp⟩ := hp
    refine ok (m_ials (q := 418) rfl rfl rfl hr rfl rfl g47 rfl) ?_
    refine ok (m_ldc_w (q := 421) rfl rfl rfl) ?_
    refine okc (m_cmpne (qt := 428) (qf := 424) rfl rfl (Rp_rg hr 123 a2) ⟨by decide, by decide⟩ rfl rfl) (fun c48 => ?_) (fun c48 => ?_)
    · replace hp := ip c48 hp
      refine ok (m_iconst (q := 425) rfl rfl rfl) ?_
      refine ok (m_goto (q := 455) rfl rfl rfl) ?_
      exact ok (m_reti rfl rfl) (ok_iq hr ⟨by decide, by decide⟩ hp)
    · replace hp := iq c48 hp
      refine ok (m_iload_n (q := 429) rfl rfl rfl rfl) ?_
      refine okc (m_ifne (qt := 445) (qf := 432) rfl rfl h3 rfl rfl) (fun c49 => ?_) (fun c49 => ?_)
      · replace hp := ip c49 hp
        refine ok (m_aload_n (q := 433) rfl rfl rfl rfl) ?_
        refine ok (m_gfc (q := 436) rfl rfl rfl hr rfl rfl rfl) ?_
        refine ok (m_iload_n (q := 437) rfl rfl rfl rfl) ?_
        refine ok (m_ials (q := 438) rfl rfl rfl hr rfl rfl g47 rfl) ?_
        refine ok (m_ldc_w (q := 441) rfl rfl rfl) ?_
        refine ok (m_idiv (q := 442) rfl rfl (Rp_rg hr 123 a2) ⟨by decide, by decide⟩ (by decide) rfl) ?_
        refine ok (m_goto (q := 455) rfl rfl rfl) ?_
        exact ok (m_reti rfl rfl) (ok_iq hr (rg_wr _) hp)
      · replace hp := iq c49 hp
        refine ok (m_aload_n (q := 446) rfl rfl rfl rfl) ?_
        refine ok (m_gfc (q := 449) rfl rfl rfl hr rfl rfl rfl) ?_
        refine ok (m_iload_n (q := 450) rfl rfl rfl rfl) ?_
        refine ok (m_ials (q := 451) rfl rfl rfl hr rfl rfl g47 rfl) ?_
        refine ok (m_ldc_w (q := 454) rfl rfl rfl) ?_
        refine ok (m_irem (q := 455) rfl rfl (Rp_rg hr 123 a2) ⟨by decide, by decide⟩ (by decide) rfl) ?_
        exact ok (m_reti rfl rfl) (ok_iq hr (rg_tmod (Rp_rg hr 123 a2) ⟨by decide, by decide⟩) hp)
  · replace hp := iq c46 hp
    refine ok (m_iconst (q := 263) rfl rfl rfl) ?_
    refine ok (m_istore (q := 265) (lo' := [some (am_r (some 70)), none, some (am_i (wz a2)), some (am_i (wz a3)), some (am_i (wz a4)), some (am_i (wz 0)), none, none]) rfl rfl rfl rfl rfl) ?_
    refine ok (m_bipush (q := 267) rfl rfl rfl) ?_
    refine ok (m_iload (q := 269) rfl rfl rfl rfl) ?_
    refine ok (m_imul (q := 270) rfl rfl rfl) ?_
    refine ok (m_istore (q := 272) (lo' := [some (am_r (some 70)), none, some (am_i (wz a2)), some (am_i (wz a3)), some (am_i (wz a4)), some (am_i (wz 0)), some (am_i (wz (wr (30 * a4)))), none]) rfl rfl rfl rfl rfl) ?_
    exact hp d hd _ hr
set_option maxRecDepth 100000 in
theorem rl_X12_steps_272 {n : Nat} {A : aA} {D D' : aD} (a2 : Int) (a3 : Int) (a4 : Int) (a5 : Int) (a6 : Int) (h2 : rg a2) (h3 : rg a3) (h4 : rg a4) (h5 : rg a5) (b5 : 0 ≤ a5 ∧ a5 ≤ 1) (h6 : rg a6) {x : Int} (hp : (0 ≤ a4 ∧ a4 < 9) ∧ (if wr ((wr (30 * a4)) + (D 92 a4)) ≤ a6 then K_X12_steps_257 (n + 1) A D a2 a3 a4 a5 x D' else (0 ≤ a6 ∧ a6 < 270) ∧ (if D 94 a6 = 6 then (0 ≤ D 95 a6 ∧ D 95 a6 < 6) ∧ (if D 123 (D 95 a6) = 100000000 then K_X12_steps_272 (n + 1) A D a2 a3 a4 a5 (wr (a6 + 1)) x D' else (0 ≤ D 97 a6 ∧ D 97 a6 < 6) ∧ (if wr ((wr ((D 123 (D 95 a6)) + 100000)) + (max 0 (wr ((D 96 a6) - (D 122 (D 95 a6)))))) < D 123 (D 97 a6) then K_X12_steps_272 (n + 1) A (up D 123 (D 97 a6) (wr ((wr ((D 123 (D 95 a6)) + 100000)) + (max 0 (wr ((D 96 a6) - (D 122 (D 95 a6)))))))) a2 a3 a4 1 (wr (a6 + 1)) x D' else K_X12_steps_272 (n + 1) A D a2 a3 a4 a5 (wr (a6 + 1)) x D')) else K_X12_steps_272 (n + 1) A D a2 a3 a4 a5 (wr (a6 + 1)) x D'))) : K_X12_steps_272 (n + 1) A D a2 a3 a4 a5 a6 x D' := by
  unfold K_X12_steps_272
  refine fun d hd s hr => ?_
  refine ok (m_iload (q := 274) rfl rfl rfl rfl) ?_
  refine ok (m_bipush (q := 276) rfl rfl rfl) ?_
  refine ok (m_iload (q := 278) rfl rfl rfl rfl) ?_
  refine ok (m_imul (q := 279) rfl rfl rfl) ?_
  refine ok (m_aload_n (q := 280) rfl rfl rfl rfl) ?_
  refine ok (m_gfc (q := 283) rfl rfl rfl hr rfl rfl rfl) ?_
  refine ok (m_iload (q := 285) rfl rfl rfl rfl) ?_
  obtain ⟨g50, hp⟩ := hp
  refine ok (m_ials (q := 286) rfl rfl rfl hr rfl rfl g50 rfl) ?_
  refine ok (m_iadd (q := 287) rfl rfl rfl) ?_
  refine okc (m_cmpge (qt := 409) (qf := 290) rfl rfl h6 (rg_wr _) rfl rfl) (fun c51 => ?_) (fun c51 => ?_)
  · replace hp := ip c51 hp
    refine ok (m_goto (q := 257) rfl rfl rfl) ?_
    refine ok (mk rfl (lo' := [some (am_r (some 70)), none, some (am_i (wz a2)), some (am_i (wz a3)), some (am_i (wz a4)), some (am_i (wz a5)), none, none]) rfl) ?_
    exact hp d hd _ hr
  · replace hp := iq c51 hp
    refine ok (m_aload_n (q := 291) rfl rfl rfl rfl) ?_
    refine ok (m_gfc (q := 294) rfl rfl rfl hr rfl rfl rfl) ?_
    refine ok (m_iload (q := 296) rfl rfl rfl rfl) ?_
    obtain ⟨g52, hp⟩ := hp
    refine ok (m_ials (q := 297) rfl rfl rfl hr rfl rfl g52 rfl) ?_
    refine ok (m_bipush (q := 299) rfl rfl rfl) ?_
    refine okc (m_cmpne (qt := 403) (qf := 302) rfl rfl (Rp_rg hr 94 a6) ⟨by decide, by decide⟩ rfl rfl) (fun c53 => ?_) (fun c53 => ?_)
    · replace hp := ip c53 hp
      refine ok (m_aload_n (q := 303) rfl rfl rfl rfl) ?_
      refine ok (m_gfc (q := 306) rfl rfl rfl hr rfl rfl rfl) ?_
      refine ok (m_aload_n (q := 307) rfl rfl rfl rfl) ?_
      refine ok (m_gfc (q := 310) rfl rfl rfl hr rfl rfl rfl) ?_
      refine ok (m_iload (q := 312) rfl rfl rfl rfl) ?_
      refine ok (m_ials (q := 313) rfl rfl rfl hr rfl rfl g52 rfl) ?_
      obtain ⟨g54, hp⟩ := hp
      refine ok (m_ials (q := 314) rfl rfl rfl hr rfl rfl g54 rfl) ?_
      refine ok (m_ldc_w (q := 317) rfl rfl rfl) ?_
      refine okc (m_cmpne (qt := 323) (qf := 320) rfl rfl (Rp_rg hr 123 (D 95 a6)) ⟨by decide, by decide⟩ rfl rfl) (fun c55 => ?_) (fun c55 => ?_)
      · replace hp := ip c55 hp
        refine ok (m_goto (q := 403) rfl rfl rfl) ?_
        refine ok (m_iinc (q := 406) (lo' := [some (am_r (some 70)), none, some (am_i (wz a2)), some (am_i (wz a3)), some (am_i (wz a4)), some (am_i (wz a5)), some (am_i (wz (wr (a6 + 1)))), none]) rfl rfl rfl rfl rfl rfl rfl) ?_
        refine ok (m_goto (q := 272) rfl rfl rfl) ?_
        exact hp d hd _ hr
      · replace hp := iq c55 hp
        refine ok (m_aload_n (q := 324) rfl rfl rfl rfl) ?_
        refine ok (m_gfc (q := 327) rfl rfl rfl hr rfl rfl rfl) ?_
        refine ok (m_aload_n (q := 328) rfl rfl rfl rfl) ?_
        refine ok (m_gfc (q := 331) rfl rfl rfl hr rfl rfl rfl) ?_
        refine ok (m_iload (q := 333) rfl rfl rfl rfl) ?_
        refine ok (m_ials (q := 334) rfl rfl rfl hr rfl rfl g52 rfl) ?_
        refine ok (m_ials (q := 335) rfl rfl rfl hr rfl rfl g54 rfl) ?_
        refine ok (m_ldc_w (q := 338) rfl rfl rfl) ?_
        refine ok (m_iadd (q := 339) rfl rfl rfl) ?_
        refine ok (m_iconst (q := 340) rfl rfl rfl) ?_
        refine ok (m_aload_n (q := 341) rfl rfl rfl rfl) ?_
        refine ok (m_gfc (q := 344) rfl rfl rfl hr rfl rfl rfl) ?_
        refine ok (m_iload (q := 346) rfl rfl rfl rfl) ?_
        refine ok (m_ials (q := 347) rfl rfl rfl hr rfl rfl g52 rfl) ?_
        refine ok (m_aload_n (q := 348) rfl rfl rfl rfl) ?_
        refine ok (m_gfc (q := 351) rfl rfl rfl hr rfl rfl rfl) ?_
        refine ok (m_aload_n (q := 352) rfl rfl rfl rfl) ?_
        refine ok (m_gfc (q := 355) rfl rfl rfl hr rfl rfl rfl) ?_
        refine ok (m_iload (q := 357) rfl rfl rfl rfl) ?_
        refine ok (m_ials (q := 358) rfl rfl rfl hr rfl rfl g52 rfl) ?_
        refine ok (m_ials (q := 359) rfl rfl rfl hr rfl rfl g54 rfl) ?_
        refine ok (m_isub (q := 360) rfl rfl rfl) ?_
        refine ok (m_max (q := 363) rfl rfl rfl ⟨by decide, by decide⟩ (rg_wr _) rfl) ?_
        refine ok (m_iadd (q := 364) rfl rfl rfl) ?_
        refine ok (m_istore (q := 366) (lo' := [some (am_r (some 70)), none, some (am_i (wz a2)), some (am_i (wz a3)), some (am_i (wz a4)), some (am_i (wz a5)), some (am_i (wz a6)), some (am_i (wz (wr ((wr ((D 123 (D 95 a6)) + 100000)) + (max 0 (wr ((D 96 a6) - (D 122 (D 95 a6)))))))))]) rfl rfl rfl rfl rfl) ?_
        refine ok (m_iload (q := 368) rfl rfl rfl rfl) ?_
        refine ok (m_aload_n (q := 369) rfl rfl rfl rfl) ?_
        refine ok (m_gfc (q := 372) rfl rfl rfl hr rfl rfl rfl) ?_
        refine ok (m_aload_n (q := 373) rfl rfl rfl rfl) ?_
        refine ok (m_gfc (q := 376) rfl rfl rfl hr rfl rfl rfl) ?_
        refine ok (m_iload (q := 378) rfl rfl rfl rfl) ?_
        refine ok (m_ials (q := 379) rfl rfl rfl hr rfl rfl g52 rfl) ?_
        obtain ⟨g56, hp⟩ := hp
        refine ok (m_ials (q := 380) rfl rfl rfl hr rfl rfl g56 rfl) ?_
        refine okc (m_cmplt (qt := 386) (qf := 383) rfl rfl (rg_wr _) (Rp_rg hr 123 (D 97 a6)) rfl rfl) (fun c57 => ?_) (fun c57 => ?_)
        · replace hp := ip c57 hp
          refine ok (m_aload_n (q := 387) rfl rfl rfl rfl) ?_
          refine ok (m_gfc (q := 390) rfl rfl rfl hr rfl rfl rfl) ?_
          refine ok (m_aload_n (q := 391) rfl rfl rfl rfl) ?_
          refine ok (m_gfc (q := 394) rfl rfl rfl hr rfl rfl rfl) ?_
          refine ok (m_iload (q := 396) rfl rfl rfl rfl) ?_
          refine ok (m_ials (q := 397) rfl rfl rfl hr rfl rfl g52 rfl) ?_
          refine ok (m_iload (q := 399) rfl rfl rfl rfl) ?_
          refine oke (e_ias (q := 400) rfl rfl rfl hr rfl rfl g56 (rg_wr _)) (fun s59 r58 => ?_)
          refine ok (m_iconst (q := 401) rfl rfl rfl) ?_
          refine ok (m_istore (q := 403) (lo' := [some (am_r (some 70)), none, some (am_i (wz a2)), some (am_i (wz a3)), some (am_i (wz a4)), some (am_i (wz 1)), some (am_i (wz a6)), some (am_i (wz (wr ((wr ((D 123 (D 95 a6)) + 100000)) + (max 0 (wr ((D 96 a6) - (D 122 (D 95 a6)))))))))]) rfl rfl rfl rfl rfl) ?_
          refine ok (m_iinc (q := 406) (lo' := [some (am_r (some 70)), none, some (am_i (wz a2)), some (am_i (wz a3)), some (am_i (wz a4)), some (am_i (wz 1)), some (am_i (wz (wr (a6 + 1)))), some (am_i (wz (wr ((wr ((D 123 (D 95 a6)) + 100000)) + (max 0 (wr ((D 96 a6) - (D 122 (D 95 a6)))))))))]) rfl rfl rfl rfl rfl rfl rfl) ?_
          refine ok (m_goto (q := 272) rfl rfl rfl) ?_
          refine ok (mk rfl (lo' := [some (am_r (some 70)), none, some (am_i (wz a2)), some (am_i (wz a3)), some (am_i (wz a4)), some (am_i (wz 1)), some (am_i (wz (wr (a6 + 1)))), none]) rfl) ?_
          exact hp d hd _ r58
        · replace hp := iq c57 hp
          refine ok (m_goto (q := 403) rfl rfl rfl) ?_
          refine ok (m_iinc (q := 406) (lo' := [some (am_r (some 70)), none, some (am_i (wz a2)), some (am_i (wz a3)), some (am_i (wz a4)), some (am_i (wz a5)), some (am_i (wz (wr (a6 + 1)))), some (am_i (wz (wr ((wr ((D 123 (D 95 a6)) + 100000)) + (max 0 (wr ((D 96 a6) - (D 122 (D 95 a6)))))))))]) rfl rfl rfl rfl rfl rfl rfl) ?_
          refine ok (m_goto (q := 272) rfl rfl rfl) ?_
          refine ok (mk rfl (lo' := [some (am_r (some 70)), none, some (am_i (wz a2)), some (am_i (wz a3)), some (am_i (wz a4)), some (am_i (wz a5)), some (am_i (wz (wr (a6 + 1)))), none]) rfl) ?_
          exact hp d hd _ hr
    · replace hp := iq c53 hp
      refine ok (m_iinc (q := 406) (lo' := [some (am_r (some 70)), none, some (am_i (wz a2)), some (am_i (wz a3)), some (am_i (wz a4)), some (am_i (wz a5)), some (am_i (wz (wr (a6 + 1)))), none]) rfl rfl rfl rfl rfl rfl rfl) ?_
      refine ok (m_goto (q := 272) rfl rfl rfl) ?_
      exact hp d hd _ hr
end St5
