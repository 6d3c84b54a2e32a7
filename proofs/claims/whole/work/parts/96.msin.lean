/-! The reference reads a single condition. -/
section Msi
variable {n : Nat} {A : aA} {D D' : aD} {T : Int → Int} {N a : Int}
abbrev P_X12_any : Nat → Option am_E := am_fy tb_X12_any
def K_X12_any_8 (n : Nat) (c : Nat) (A : aA) (D : aD) (a1 : Int) (a2 : Int) (x : Int) (D' : aD) : Prop := Lp n c P_X12_any 8 [some (am_r (some 70)), some (am_i (wz a1)), some (am_i (wz a2)), none] [] A D (ri x) A D'
set_option maxRecDepth 100000 in
theorem rl_X12_any {n : Nat} {A : aA} {D D' : aD} {c : Nat} (hc : 3 ≤ c) {x : Int} (hp : (p_X12_node D 0) ∧ K_X12_any_8 (n + 1) c A (u_X12_node D 0) (v_X12_node D 0) (-1) x D') : Ev (n + 1) (c + 1) 160 [am_r (some 70)] A D (ri x) A D' := by
  refine Ev_of (c := c) (P := P_X12_any) (lo := [some (am_r (some 70)), none, none, none]) rfl rfl rfl (fun d hd s hr => ?_)
  refine ok (m_aload_n (q := 1) rfl rfl rfl rfl) ?_
  refine ok (m_iconst (q := 2) rfl rfl rfl) ?_
  obtain ⟨g3, hp⟩ := hp
  refine oke (e_ci (x_cv (q := 5) rfl rfl rfl rfl rfl rfl rfl rfl rfl rfl (is_st hr rfl rfl)) (ev_X12_node (D := D) 0 ⟨by decide, by decide⟩ g3) (Nat.le_trans (by decide) (Nat.le_trans hc hd)) hr) (fun s1 r2 => ?_)
  refine ok (m_istore_n (q := 6) (lo' := [some (am_r (some 70)), some (am_i (wz (v_X12_node D 0))), none, none]) rfl rfl rfl rfl rfl) ?_
  refine ok (m_iconst (q := 7) rfl rfl rfl) ?_
  refine ok (m_istore_n (q := 8) (lo' := [some (am_r (some 70)), some (am_i (wz (v_X12_node D 0))), some (am_i (wz (-1))), none]) rfl rfl rfl rfl rfl) ?_
  exact hp d hd _ r2
set_option maxRecDepth 100000 in
theorem rl_X12_any_8 {n : Nat} {A : aA} {D D' : aD} {c : Nat} (hc : 3 ≤ c) (a1 : Int) (a2 : Int) (h1 : rg a1) (h2 : rg a2) {x : Int} (hp : (∃ x6 : Int, ∃ D7 : aD, Ev (n + 1) c 161 [am_r (some 70)] A D (ri x6) A D7 ∧ (if x6 = (-1) then (x = (-1) ∧ D' = D7) else (if a2 = (-1) then (0 ≤ a1 ∧ a1 < 5200) ∧ (p_X12_takes (up D7 100 a1 x6) (28530 : Int64)) ∧ (if w_tk (up D7 100 a1 x6) (28530 : Int64) = 0 then (x = a1 ∧ D' = (u_tk (up D7 100 a1 x6) (28530 : Int64))) else K_X12_any_8 (n + 1) c A (u_tk (up D7 100 a1 x6) (28530 : Int64)) a1 x6 x D') else (0 ≤ a2 ∧ a2 < 5200) ∧ (p_X12_takes (up D7 101 a2 x6) (28530 : Int64)) ∧ (if w_tk (up D7 101 a2 x6) (28530 : Int64) = 0 then (x = a1 ∧ D' = (u_tk (up D7 101 a2 x6) (28530 : Int64))) else K_X12_any_8 (n + 1) c A (u_tk (up D7 101 a2 x6) (28530 : Int64)) a1 x6 x D'))))) : K_X12_any_8 (n + 1) c A D a1 a2 x D' := by
  unfold K_X12_any_8
  refine fun d hd s hr => ?_
  refine ok (m_aload_n (q := 9) rfl rfl rfl rfl) ?_
  obtain ⟨x6, D7, e8, hp⟩ := hp
  refine oke (e_ci (x_cv (q := 12) rfl rfl rfl rfl rfl rfl rfl rfl rfl rfl (is_st hr rfl rfl)) e8 hd hr) (fun s4 r5 => ?_)
  refine ok (m_istore_n (q := 13) (lo' := [some (am_r (some 70)), some (am_i (wz a1)), some (am_i (wz a2)), some (am_i (wz x6))]) rfl rfl rfl rfl rfl) ?_
  refine ok (m_iload_n (q := 14) rfl rfl rfl rfl) ?_
  refine ok (m_iconst (q := 15) rfl rfl rfl) ?_
  refine okc (m_cmpne (qt := 20) (qf := 18) rfl rfl (Ev_rg e8 hr) ⟨by decide, by decide⟩ rfl rfl) (fun c9 => ?_) (fun c9 => ?_)
  · replace hp := ip c9 hp
    refine ok (m_iconst (q := 19) rfl rfl rfl) ?_
    exact ok (m_reti rfl rfl) (ok_iq r5 ⟨by decide, by decide⟩ hp)
  · replace hp := iq c9 hp
    refine ok (m_iload_n (q := 21) rfl rfl rfl rfl) ?_
    refine ok (m_iconst (q := 22) rfl rfl rfl) ?_
    refine okc (m_cmpne (qt := 35) (qf := 25) rfl rfl h2 ⟨by decide, by decide⟩ rfl rfl) (fun c10 => ?_) (fun c10 => ?_)
    · replace hp := ip c10 hp
      refine ok (m_aload_n (q := 26) rfl rfl rfl rfl) ?_
      refine ok (m_gfc (q := 29) rfl rfl rfl r5 rfl rfl rfl) ?_
      refine ok (m_iload_n (q := 30) rfl rfl rfl rfl) ?_
      refine ok (m_iload_n (q := 31) rfl rfl rfl rfl) ?_
      obtain ⟨g13, hp⟩ := hp
      refine oke (e_ias (q := 32) rfl rfl rfl r5 rfl rfl g13 (Ev_rg e8 hr)) (fun s12 r11 => ?_)
      refine ok (m_goto (q := 42) rfl rfl rfl) ?_
      refine ok (m_iload_n (q := 43) rfl rfl rfl rfl) ?_
      refine ok (m_istore_n (q := 44) (lo' := [some (am_r (some 70)), some (am_i (wz a1)), some (am_i (wz x6)), some (am_i (wz x6))]) rfl rfl rfl rfl rfl) ?_
      refine ok (m_aload_n (q := 45) rfl rfl rfl rfl) ?_
      refine ok (m_ldc2_w (q := 48) rfl rfl rfl) ?_
      obtain ⟨g16, hp⟩ := hp
      refine oke (e_ci (x_cv (q := 51) rfl rfl rfl rfl rfl rfl rfl rfl rfl rfl (is_st r11 rfl rfl)) (ev_tk (D := (up D7 100 a1 x6)) (28530 : Int64) g16) (Nat.le_trans (by decide) (Nat.le_trans hc hd)) r11) (fun s14 r15 => ?_)
      refine okc (m_ifne (qt := 8) (qf := 54) rfl rfl (Ev_rg (ev_tk (D := (up D7 100 a1 x6)) (28530 : Int64) g16) r11) rfl rfl) (fun c17 => ?_) (fun c17 => ?_)
      · replace hp := ip c17 hp
        refine ok (m_iload_n (q := 55) rfl rfl rfl rfl) ?_
        exact ok (m_reti rfl rfl) (ok_iq r15 h1 hp)
      · replace hp := iq c17 hp
        refine ok (mk rfl (lo' := [some (am_r (some 70)), some (am_i (wz a1)), some (am_i (wz x6)), none]) rfl) ?_
        exact hp d hd _ r15
    · replace hp := iq c10 hp
      refine ok (m_aload_n (q := 36) rfl rfl rfl rfl) ?_
      refine ok (m_gfc (q := 39) rfl rfl rfl r5 rfl rfl rfl) ?_
      refine ok (m_iload_n (q := 40) rfl rfl rfl rfl) ?_
      refine ok (m_iload_n (q := 41) rfl rfl rfl rfl) ?_
      obtain ⟨g20, hp⟩ := hp
      refine oke (e_ias (q := 42) rfl rfl rfl r5 rfl rfl g20 (Ev_rg e8 hr)) (fun s19 r18 => ?_)
      refine ok (m_iload_n (q := 43) rfl rfl rfl rfl) ?_
      refine ok (m_istore_n (q := 44) (lo' := [some (am_r (some 70)), some (am_i (wz a1)), some (am_i (wz x6)), some (am_i (wz x6))]) rfl rfl rfl rfl rfl) ?_
      refine ok (m_aload_n (q := 45) rfl rfl rfl rfl) ?_
      refine ok (m_ldc2_w (q := 48) rfl rfl rfl) ?_
      obtain ⟨g23, hp⟩ := hp
      refine oke (e_ci (x_cv (q := 51) rfl rfl rfl rfl rfl rfl rfl rfl rfl rfl (is_st r18 rfl rfl)) (ev_tk (D := (up D7 101 a2 x6)) (28530 : Int64) g23) (Nat.le_trans (by decide) (Nat.le_trans hc hd)) r18) (fun s21 r22 => ?_)
      refine okc (m_ifne (qt := 8) (qf := 54) rfl rfl (Ev_rg (ev_tk (D := (up D7 101 a2 x6)) (28530 : Int64) g23) r18) rfl rfl) (fun c24 => ?_) (fun c24 => ?_)
      · replace hp := ip c24 hp
        refine ok (m_iload_n (q := 55) rfl rfl rfl rfl) ?_
        exact ok (m_reti rfl rfl) (ok_iq r22 h1 hp)
      · replace hp := iq c24 hp
        refine ok (mk rfl (lo' := [some (am_r (some 70)), some (am_i (wz a1)), some (am_i (wz x6)), none]) rfl) ?_
        exact hp d hd _ r22
abbrev P_X12_all : Nat → Option am_E := am_fy tb_X12_all
def K_X12_all_8 (n : Nat) (c : Nat) (A : aA) (D : aD) (a1 : Int) (a2 : Int) (x : Int) (D' : aD) : Prop := Lp n c P_X12_all 8 [some (am_r (some 70)), some (am_i (wz a1)), some (am_i (wz a2)), none] [] A D (ri x) A D'
set_option maxRecDepth 100000 in
theorem rl_X12_all {n : Nat} {A : aA} {D D' : aD} {c : Nat} (hc : 3 ≤ c) {x : Int} (hp : (p_X12_node D 1) ∧ K_X12_all_8 (n + 1) c A (u_X12_node D 1) (v_X12_node D 1) (-1) x D') : Ev (n + 1) (c + 1) 161 [am_r (some 70)] A D (ri x) A D' := by
  refine Ev_of (c := c) (P := P_X12_all) (lo := [some (am_r (some 70)), none, none, none]) rfl rfl rfl (fun d hd s hr => ?_)
  refine ok (m_aload_n (q := 1) rfl rfl rfl rfl) ?_
  refine ok (m_iconst (q := 2) rfl rfl rfl) ?_
  obtain ⟨g3, hp⟩ := hp
  refine oke (e_ci (x_cv (q := 5) rfl rfl rfl rfl rfl rfl rfl rfl rfl rfl (is_st hr rfl rfl)) (ev_X12_node (D := D) 1 ⟨by decide, by decide⟩ g3) (Nat.le_trans (by decide) (Nat.le_trans hc hd)) hr) (fun s1 r2 => ?_)
  refine ok (m_istore_n (q := 6) (lo' := [some (am_r (some 70)), some (am_i (wz (v_X12_node D 1))), none, none]) rfl rfl rfl rfl rfl) ?_
  refine ok (m_iconst (q := 7) rfl rfl rfl) ?_
  refine ok (m_istore_n (q := 8) (lo' := [some (am_r (some 70)), some (am_i (wz (v_X12_node D 1))), some (am_i (wz (-1))), none]) rfl rfl rfl rfl rfl) ?_
  exact hp d hd _ r2
set_option maxRecDepth 100000 in
theorem rl_X12_all_8 {n : Nat} {A : aA} {D D' : aD} {c : Nat} (hc : 3 ≤ c) (a1 : Int) (a2 : Int) (h1 : rg a1) (h2 : rg a2) {x : Int} (hp : (∃ x6 : Int, ∃ D7 : aD, Ev (n + 1) c 163 [am_r (some 70)] A D (ri x6) A D7 ∧ (if x6 = (-1) then (x = (-1) ∧ D' = D7) else (if a2 = (-1) then (0 ≤ a1 ∧ a1 < 5200) ∧ (p_X12_takes (up D7 100 a1 x6) (6385252 : Int64)) ∧ (if w_tk (up D7 100 a1 x6) (6385252 : Int64) = 0 then (x = a1 ∧ D' = (u_tk (up D7 100 a1 x6) (6385252 : Int64))) else K_X12_all_8 (n + 1) c A (u_tk (up D7 100 a1 x6) (6385252 : Int64)) a1 x6 x D') else (0 ≤ a2 ∧ a2 < 5200) ∧ (p_X12_takes (up D7 101 a2 x6) (6385252 : Int64)) ∧ (if w_tk (up D7 101 a2 x6) (6385252 : Int64) = 0 then (x = a1 ∧ D' = (u_tk (up D7 101 a2 x6) (6385252 : Int64))) else K_X12_all_8 (n + 1) c A (u_tk (up D7 101 a2 x6) (6385252 : Int64)) a1 x6 x D'))))) : K_X12_all_8 (n + 1) c A D a1 a2 x D' := by
  unfold K_X12_all_8
  refine fun d hd s hr => ?_
  refine ok (m_aload_n (q := 9) rfl rfl rfl rfl) ?_
  obtain ⟨x6, D7, e8, hp⟩ := hp
  refine oke (e_ci (x_cv (q := 12) rfl rfl rfl rfl rfl rfl rfl rfl rfl rfl (is_st hr rfl rfl)) e8 hd hr) (fun s4 r5 => ?_)
  refine ok (m_istore_n (q := 13) (lo' := [some (am_r (some 70)), some (am_i (wz a1)), some (am_i (wz a2)), some (am_i (wz x6))]) rfl rfl rfl rfl rfl) ?_
  refine ok (m_iload_n (q := 14) rfl rfl rfl rfl) ?_
  refine ok (m_iconst (q := 15) rfl rfl rfl) ?_
  refine okc (m_cmpne (qt := 20) (qf := 18) rfl rfl (Ev_rg e8 hr) ⟨by decide, by decide⟩ rfl rfl) (fun c9 => ?_) (fun c9 => ?_)
  · replace hp := ip c9 hp
    refine ok (m_iconst (q := 19) rfl rfl rfl) ?_
    exact ok (m_reti rfl rfl) (ok_iq r5 ⟨by decide, by decide⟩ hp)
  · replace hp := iq c9 hp
    refine ok (m_iload_n (q := 21) rfl rfl rfl rfl) ?_
    refine ok (m_iconst (q := 22) rfl rfl rfl) ?_
    refine okc (m_cmpne (qt := 35) (qf := 25) rfl rfl h2 ⟨by decide, by decide⟩ rfl rfl) (fun c10 => ?_) (fun c10 => ?_)
    · replace hp := ip c10 hp
      refine ok (m_aload_n (q := 26) rfl rfl rfl rfl) ?_
      refine ok (m_gfc (q := 29) rfl rfl rfl r5 rfl rfl rfl) ?_
      refine ok (m_iload_n (q := 30) rfl rfl rfl rfl) ?_
      refine ok (m_iload_n (q := 31) rfl rfl rfl rfl) ?_
      obtain ⟨g13, hp⟩ := hp
      refine oke (e_ias (q := 32) rfl rfl rfl r5 rfl rfl g13 (Ev_rg e8 hr)) (fun s12 r11 => ?_)
      refine ok (m_goto (q := 42) rfl rfl rfl) ?_
      refine ok (m_iload_n (q := 43) rfl rfl rfl rfl) ?_
      refine ok (m_istore_n (q := 44) (lo' := [some (am_r (some 70)), some (am_i (wz a1)), some (am_i (wz x6)), some (am_i (wz x6))]) rfl rfl rfl rfl rfl) ?_
      refine ok (m_aload_n (q := 45) rfl rfl rfl rfl) ?_
      refine ok (m_ldc2_w (q := 48) rfl rfl rfl) ?_
      obtain ⟨g16, hp⟩ := hp
      refine oke (e_ci (x_cv (q := 51) rfl rfl rfl rfl rfl rfl rfl rfl rfl rfl (is_st r11 rfl rfl)) (ev_tk (D := (up D7 100 a1 x6)) (6385252 : Int64) g16) (Nat.le_trans (by decide) (Nat.le_trans hc hd)) r11) (fun s14 r15 => ?_)
      refine okc (m_ifne (qt := 8) (qf := 54) rfl rfl (Ev_rg (ev_tk (D := (up D7 100 a1 x6)) (6385252 : Int64) g16) r11) rfl rfl) (fun c17 => ?_) (fun c17 => ?_)
      · replace hp := ip c17 hp
        refine ok (m_iload_n (q := 55) rfl rfl rfl rfl) ?_
        exact ok (m_reti rfl rfl) (ok_iq r15 h1 hp)
      · replace hp := iq c17 hp
        refine ok (mk rfl (lo' := [some (am_r (some 70)), some (am_i (wz a1)), some (am_i (wz x6)), none]) rfl) ?_
        exact hp d hd _ r15
    · replace hp := iq c10 hp
      refine ok (m_aload_n (q := 36) rfl rfl rfl rfl) ?_
      refine ok (m_gfc (q := 39) rfl rfl rfl r5 rfl rfl rfl) ?_
      refine ok (m_iload_n (q := 40) rfl rfl rfl rfl) ?_
      refine ok (m_iload_n (q := 41) rfl rfl rfl rfl) ?_
      obtain ⟨g20, hp⟩ := hp
      refine oke (e_ias (q := 42) rfl rfl rfl r5 rfl rfl g20 (Ev_rg e8 hr)) (fun s19 r18 => ?_)
      refine ok (m_iload_n (q := 43) rfl rfl rfl rfl) ?_
      refine ok (m_istore_n (q := 44) (lo' := [some (am_r (some 70)), some (am_i (wz a1)), some (am_i (wz x6)), some (am_i (wz x6))]) rfl rfl rfl rfl rfl) ?_
      refine ok (m_aload_n (q := 45) rfl rfl rfl rfl) ?_
      refine ok (m_ldc2_w (q := 48) rfl rfl rfl) ?_
      obtain ⟨g23, hp⟩ := hp
      refine oke (e_ci (x_cv (q := 51) rfl rfl rfl rfl rfl rfl rfl rfl rfl rfl (is_st r18 rfl rfl)) (ev_tk (D := (up D7 101 a2 x6)) (6385252 : Int64) g23) (Nat.le_trans (by decide) (Nat.le_trans hc hd)) r18) (fun s21 r22 => ?_)
      refine okc (m_ifne (qt := 8) (qf := 54) rfl rfl (Ev_rg (ev_tk (D := (up D7 101 a2 x6)) (6385252 : Int64) g23) r18) rfl rfl) (fun c24 => ?_) (fun c24 => ?_)
      · replace hp := ip c24 hp
        refine ok (m_iload_n (q := 55) rfl rfl rfl rfl) ?_
        exact ok (m_reti rfl rfl) (ok_iq r22 h1 hp)
      · replace hp := iq c24 hp
        refine ok (mk rfl (lo' := [some (am_r (some 70)), some (am_i (wz a1)), some (am_i (wz x6)), none]) rfl) ?_
        exact hp d hd _ r22
abbrev P_X12_single : Nat → Option am_E := am_fy tb_X12_single
set_option maxRecDepth 100000 in
theorem rl_X12_single {n : Nat} {A : aA} {D D' : aD} {c : Nat} (hc : 3 ≤ c) {x : Int} (hp : (p_blk D) ∧ (if o_lcmp (w_word D) (7237492 : Int64) = 0 then (if (u_word D) 70 31 = 10 then (x = (-1) ∧ D' = (u_word D)) else (p_X12_node (up (up (u_word D) 70 31 (wr (((u_word D) 70 31) + 1))) 70 30 ((u_word D) 70 49)) 2) ∧ (∃ x15 : Int, ∃ D16 : aD, Ev (n + 1) c 163 [am_r (some 70)] A (u_X12_node (up (up (u_word D) 70 31 (wr (((u_word D) 70 31) + 1))) 70 30 ((u_word D) 70 49)) 2) (ri x15) A D16 ∧ (0 ≤ v_X12_node (up (up (u_word D) 70 31 (wr (((u_word D) 70 31) + 1))) 70 30 ((u_word D) 70 49)) 2 ∧ v_X12_node (up (up (u_word D) 70 31 (wr (((u_word D) 70 31) + 1))) 70 30 ((u_word D) 70 49)) 2 < 5200) ∧ (if x15 = (-1) then (x = (-1) ∧ D' = (up (up D16 100 (v_X12_node (up (up (u_word D) 70 31 (wr (((u_word D) 70 31) + 1))) 70 30 ((u_word D) 70 49)) 2) x15) 70 31 (wr ((D16 70 31) - 1)))) else (x = v_X12_node (up (up (u_word D) 70 31 (wr (((u_word D) 70 31) + 1))) 70 30 ((u_word D) 70 49)) 2 ∧ D' = (up (up D16 100 (v_X12_node (up (up (u_word D) 70 31 (wr (((u_word D) 70 31) + 1))) 70 30 ((u_word D) 70 49)) 2) x15) 70 31 (wr ((D16 70 31) - 1))))))) else (if (u_word D) 70 29 ≤ (u_word D) 70 30 then (p_X12_node (u_word D) 3) ∧ (p_blk (u_X12_node (u_word D) 3)) ∧ (0 ≤ v_X12_node (u_word D) 3 ∧ v_X12_node (u_word D) 3 < 5200) ∧ (if v_X12_told (u_word (u_X12_node (u_word D) 3)) (w_word (u_X12_node (u_word D) 3)) = (-1) then (x = (-1) ∧ D' = (up (u_word (u_X12_node (u_word D) 3)) 102 (v_X12_node (u_word D) 3) (v_X12_told (u_word (u_X12_node (u_word D) 3)) (w_word (u_X12_node (u_word D) 3))))) else (p_X12_takesSign (up (up (u_word (u_X12_node (u_word D) 3)) 102 (v_X12_node (u_word D) 3) (v_X12_told (u_word (u_X12_node (u_word D) 3)) (w_word (u_X12_node (u_word D) 3)))) 70 30 ((u_word (u_X12_node (u_word D) 3)) 70 49)) 60) ∧ (if w_sg (up (up (u_word (u_X12_node (u_word D) 3)) 102 (v_X12_node (u_word D) 3) (v_X12_told (u_word (u_X12_node (u_word D) 3)) (w_word (u_X12_node (u_word D) 3)))) 70 30 ((u_word (u_X12_node (u_word D) 3)) 70 49)) 60 = 0 then (p_X12_takesSign (u_sg (up (up (u_word (u_X12_node (u_word D) 3)) 102 (v_X12_node (u_word D) 3) (v_X12_told (u_word (u_X12_node (u_word D) 3)) (w_word (u_X12_node (u_word D) 3)))) 70 30 ((u_word (u_X12_node (u_word D) 3)) 70 49)) 60) 62) ∧ (if w_sg (u_sg (up (up (u_word (u_X12_node (u_word D) 3)) 102 (v_X12_node (u_word D) 3) (v_X12_told (u_word (u_X12_node (u_word D) 3)) (w_word (u_X12_node (u_word D) 3)))) 70 30 ((u_word (u_X12_node (u_word D) 3)) 70 49)) 60) 62 = 0 then (p_X12_takesSign (u_sg (u_sg (up (up (u_word (u_X12_node (u_word D) 3)) 102 (v_X12_node (u_word D) 3) (v_X12_told (u_word (u_X12_node (u_word D) 3)) (w_word (u_X12_node (u_word D) 3)))) 70 30 ((u_word (u_X12_node (u_word D) 3)) 70 49)) 60) 62) 61) ∧ (if w_sg (u_sg (u_sg (up (up (u_word (u_X12_node (u_word D) 3)) 102 (v_X12_node (u_word D) 3) (v_X12_told (u_word (u_X12_node (u_word D) 3)) (w_word (u_X12_node (u_word D) 3)))) 70 30 ((u_word (u_X12_node (u_word D) 3)) 70 49)) 60) 62) 61 = 0 then (x = (-1) ∧ D' = (up (u_sg (u_sg (u_sg (up (up (u_word (u_X12_node (u_word D) 3)) 102 (v_X12_node (u_word D) 3) (v_X12_told (u_word (u_X12_node (u_word D) 3)) (w_word (u_X12_node (u_word D) 3)))) 70 30 ((u_word (u_X12_node (u_word D) 3)) 70 49)) 60) 62) 61) 103 (v_X12_node (u_word D) 3) (-1))) else (p_X12_takesPlain (up (u_sg (u_sg (u_sg (up (up (u_word (u_X12_node (u_word D) 3)) 102 (v_X12_node (u_word D) 3) (v_X12_told (u_word (u_X12_node (u_word D) 3)) (w_word (u_X12_node (u_word D) 3)))) 70 30 ((u_word (u_X12_node (u_word D) 3)) 70 49)) 60) 62) 61) 103 (v_X12_node (u_word D) 3) 61)) ∧ (if v_X12_takesPlain (up (u_sg (u_sg (u_sg (up (up (u_word (u_X12_node (u_word D) 3)) 102 (v_X12_node (u_word D) 3) (v_X12_told (u_word (u_X12_node (u_word D) 3)) (w_word (u_X12_node (u_word D) 3)))) 70 30 ((u_word (u_X12_node (u_word D) 3)) 70 49)) 60) 62) 61) 103 (v_X12_node (u_word D) 3) 61) = 0 then (x = (-1) ∧ D' = (u_X12_takesPlain (up (u_sg (u_sg (u_sg (up (up (u_word (u_X12_node (u_word D) 3)) 102 (v_X12_node (u_word D) 3) (v_X12_told (u_word (u_X12_node (u_word D) 3)) (w_word (u_X12_node (u_word D) 3)))) 70 30 ((u_word (u_X12_node (u_word D) 3)) 70 49)) 60) 62) 61) 103 (v_X12_node (u_word D) 3) 61))) else (x = v_X12_node (u_word D) 3 ∧ D' = (up (u_X12_takesPlain (up (u_sg (u_sg (u_sg (up (up (u_word (u_X12_node (u_word D) 3)) 102 (v_X12_node (u_word D) 3) (v_X12_told (u_word (u_X12_node (u_word D) 3)) (w_word (u_X12_node (u_word D) 3)))) 70 30 ((u_word (u_X12_node (u_word D) 3)) 70 49)) 60) 62) 61) 103 (v_X12_node (u_word D) 3) 61)) 104 (v_X12_node (u_word D) 3) ((u_X12_takesPlain (up (u_sg (u_sg (u_sg (up (up (u_word (u_X12_node (u_word D) 3)) 102 (v_X12_node (u_word D) 3) (v_X12_told (u_word (u_X12_node (u_word D) 3)) (w_word (u_X12_node (u_word D) 3)))) 70 30 ((u_word (u_X12_node (u_word D) 3)) 70 49)) 60) 62) 61) 103 (v_X12_node (u_word D) 3) 61)) 70 50))))) else (p_X12_takesPlain (up (u_sg (u_sg (up (up (u_word (u_X12_node (u_word D) 3)) 102 (v_X12_node (u_word D) 3) (v_X12_told (u_word (u_X12_node (u_word D) 3)) (w_word (u_X12_node (u_word D) 3)))) 70 30 ((u_word (u_X12_node (u_word D) 3)) 70 49)) 60) 62) 103 (v_X12_node (u_word D) 3) 62)) ∧ (if v_X12_takesPlain (up (u_sg (u_sg (up (up (u_word (u_X12_node (u_word D) 3)) 102 (v_X12_node (u_word D) 3) (v_X12_told (u_word (u_X12_node (u_word D) 3)) (w_word (u_X12_node (u_word D) 3)))) 70 30 ((u_word (u_X12_node (u_word D) 3)) 70 49)) 60) 62) 103 (v_X12_node (u_word D) 3) 62) = 0 then (x = (-1) ∧ D' = (u_X12_takesPlain (up (u_sg (u_sg (up (up (u_word (u_X12_node (u_word D) 3)) 102 (v_X12_node (u_word D) 3) (v_X12_told (u_word (u_X12_node (u_word D) 3)) (w_word (u_X12_node (u_word D) 3)))) 70 30 ((u_word (u_X12_node (u_word D) 3)) 70 49)) 60) 62) 103 (v_X12_node (u_word D) 3) 62))) else (x = v_X12_node (u_word D) 3 ∧ D' = (up (u_X12_takesPlain (up (u_sg (u_sg (up (up (u_word (u_X12_node (u_word D) 3)) 102 (v_X12_node (u_word D) 3) (v_X12_told (u_word (u_X12_node (u_word D) 3)) (w_word (u_X12_node (u_word D) 3)))) 70 30 ((u_word (u_X12_node (u_word D) 3)) 70 49)) 60) 62) 103 (v_X12_node (u_word D) 3) 62)) 104 (v_X12_node (u_word D) 3) ((u_X12_takesPlain (up (u_sg (u_sg (up (up (u_word (u_X12_node (u_word D) 3)) 102 (v_X12_node (u_word D) 3) (v_X12_told (u_word (u_X12_node (u_word D) 3)) (w_word (u_X12_node (u_word D) 3)))) 70 30 ((u_word (u_X12_node (u_word D) 3)) 70 49)) 60) 62) 103 (v_X12_node (u_word D) 3) 62)) 70 50))))) else (p_X12_takesPlain (up (u_sg (up (up (u_word (u_X12_node (u_word D) 3)) 102 (v_X12_node (u_word D) 3) (v_X12_told (u_word (u_X12_node (u_word D) 3)) (w_word (u_X12_node (u_word D) 3)))) 70 30 ((u_word (u_X12_node (u_word D) 3)) 70 49)) 60) 103 (v_X12_node (u_word D) 3) 60)) ∧ (if v_X12_takesPlain (up (u_sg (up (up (u_word (u_X12_node (u_word D) 3)) 102 (v_X12_node (u_word D) 3) (v_X12_told (u_word (u_X12_node (u_word D) 3)) (w_word (u_X12_node (u_word D) 3)))) 70 30 ((u_word (u_X12_node (u_word D) 3)) 70 49)) 60) 103 (v_X12_node (u_word D) 3) 60) = 0 then (x = (-1) ∧ D' = (u_X12_takesPlain (up (u_sg (up (up (u_word (u_X12_node (u_word D) 3)) 102 (v_X12_node (u_word D) 3) (v_X12_told (u_word (u_X12_node (u_word D) 3)) (w_word (u_X12_node (u_word D) 3)))) 70 30 ((u_word (u_X12_node (u_word D) 3)) 70 49)) 60) 103 (v_X12_node (u_word D) 3) 60))) else (x = v_X12_node (u_word D) 3 ∧ D' = (up (u_X12_takesPlain (up (u_sg (up (up (u_word (u_X12_node (u_word D) 3)) 102 (v_X12_node (u_word D) 3) (v_X12_told (u_word (u_X12_node (u_word D) 3)) (w_word (u_X12_node (u_word D) 3)))) 70 30 ((u_word (u_X12_node (u_word D) 3)) 70 49)) 60) 103 (v_X12_node (u_word D) 3) 60)) 104 (v_X12_node (u_word D) 3) ((u_X12_takesPlain (up (u_sg (up (up (u_word (u_X12_node (u_word D) 3)) 102 (v_X12_node (u_word D) 3) (v_X12_told (u_word (u_X12_node (u_word D) 3)) (w_word (u_X12_node (u_word D) 3)))) 70 30 ((u_word (u_X12_node (u_word D) 3)) 70 49)) 60) 103 (v_X12_node (u_word D) 3) 60)) 70 50)))))) else (0 ≤ (u_word D) 70 30 ∧ (u_word D) 70 30 < 700) ∧ (if (u_word D) 107 ((u_word D) 70 30) = 40 then (if (u_word D) 70 31 = 10 then (x = (-1) ∧ D' = (u_word D)) else (∃ x86 : Int, ∃ D87 : aD, Ev (n + 1) c 160 [am_r (some 70)] A (up (up (u_word D) 70 31 (wr (((u_word D) 70 31) + 1))) 70 30 (wr (((u_word D) 70 30) + 1))) (ri x86) A D87 ∧ (if x86 = (-1) then (x = (-1) ∧ D' = (up D87 70 31 (wr ((D87 70 31) - 1)))) else (p_X12_takesSign (up D87 70 31 (wr ((D87 70 31) - 1))) 41) ∧ (if w_sg (up D87 70 31 (wr ((D87 70 31) - 1))) 41 = 0 then (x = (-1) ∧ D' = (u_sg (up D87 70 31 (wr ((D87 70 31) - 1))) 41)) else (x = x86 ∧ D' = (u_sg (up D87 70 31 (wr ((D87 70 31) - 1))) 41)))))) else (p_X12_node (u_word D) 3) ∧ (p_blk (u_X12_node (u_word D) 3)) ∧ (0 ≤ v_X12_node (u_word D) 3 ∧ v_X12_node (u_word D) 3 < 5200) ∧ (if v_X12_told (u_word (u_X12_node (u_word D) 3)) (w_word (u_X12_node (u_word D) 3)) = (-1) then (x = (-1) ∧ D' = (up (u_word (u_X12_node (u_word D) 3)) 102 (v_X12_node (u_word D) 3) (v_X12_told (u_word (u_X12_node (u_word D) 3)) (w_word (u_X12_node (u_word D) 3))))) else (p_X12_takesSign (up (up (u_word (u_X12_node (u_word D) 3)) 102 (v_X12_node (u_word D) 3) (v_X12_told (u_word (u_X12_node (u_word D) 3)) (w_word (u_X12_node (u_word D) 3)))) 70 30 ((u_word (u_X12_node (u_word D) 3)) 70 49)) 60) ∧ (if w_sg (up (up (u_word (u_X12_node (u_word D) 3)) 102 (v_X12_node (u_word D) 3) (v_X12_told (u_word (u_X12_node (u_word D) 3)) (w_word (u_X12_node (u_word D) 3)))) 70 30 ((u_word (u_X12_node (u_word D) 3)) 70 49)) 60 = 0 then (p_X12_takesSign (u_sg (up (up (u_word (u_X12_node (u_word D) 3)) 102 (v_X12_node (u_word D) 3) (v_X12_told (u_word (u_X12_node (u_word D) 3)) (w_word (u_X12_node (u_word D) 3)))) 70 30 ((u_word (u_X12_node (u_word D) 3)) 70 49)) 60) 62) ∧ (if w_sg (u_sg (up (up (u_word (u_X12_node (u_word D) 3)) 102 (v_X12_node (u_word D) 3) (v_X12_told (u_word (u_X12_node (u_word D) 3)) (w_word (u_X12_node (u_word D) 3)))) 70 30 ((u_word (u_X12_node (u_word D) 3)) 70 49)) 60) 62 = 0 then (p_X12_takesSign (u_sg (u_sg (up (up (u_word (u_X12_node (u_word D) 3)) 102 (v_X12_node (u_word D) 3) (v_X12_told (u_word (u_X12_node (u_word D) 3)) (w_word (u_X12_node (u_word D) 3)))) 70 30 ((u_word (u_X12_node (u_word D) 3)) 70 49)) 60) 62) 61) ∧ (if w_sg (u_sg (u_sg (up (up (u_word (u_X12_node (u_word D) 3)) 102 (v_X12_node (u_word D) 3) (v_X12_told (u_word (u_X12_node (u_word D) 3)) (w_word (u_X12_node (u_word D) 3)))) 70 30 ((u_word (u_X12_node (u_word D) 3)) 70 49)) 60) 62) 61 = 0 then (x = (-1) ∧ D' = (up (u_sg (u_sg (u_sg (up (up (u_word (u_X12_node (u_word D) 3)) 102 (v_X12_node (u_word D) 3) (v_X12_told (u_word (u_X12_node (u_word D) 3)) (w_word (u_X12_node (u_word D) 3)))) 70 30 ((u_word (u_X12_node (u_word D) 3)) 70 49)) 60) 62) 61) 103 (v_X12_node (u_word D) 3) (-1))) else (p_X12_takesPlain (up (u_sg (u_sg (u_sg (up (up (u_word (u_X12_node (u_word D) 3)) 102 (v_X12_node (u_word D) 3) (v_X12_told (u_word (u_X12_node (u_word D) 3)) (w_word (u_X12_node (u_word D) 3)))) 70 30 ((u_word (u_X12_node (u_word D) 3)) 70 49)) 60) 62) 61) 103 (v_X12_node (u_word D) 3) 61)) ∧ (if v_X12_takesPlain (up (u_sg (u_sg (u_sg (up (up (u_word (u_X12_node (u_word D) 3)) 102 (v_X12_node (u_word D) 3) (v_X12_told (u_word (u_X12_node (u_word D) 3)) (w_word (u_X12_node (u_word D) 3)))) 70 30 ((u_word (u_X12_node (u_word D) 3)) 70 49)) 60) 62) 61) 103 (v_X12_node (u_word D) 3) 61) = 0 then (x = (-1) ∧ D' = (u_X12_takesPlain (up (u_sg (u_sg (u_sg (up (up (u_word (u_X12_node (u_word D) 3)) 102 (v_X12_node (u_word D) 3) (v_X12_told (u_word (u_X12_node (u_word D) 3)) (w_word (u_X12_node (u_word D) 3)))) 70 30 ((u_word (u_X12_node (u_word D) 3)) 70 49)) 60) 62) 61) 103 (v_X12_node (u_word D) 3) 61))) else (x = v_X12_node (u_word D) 3 ∧ D' = (up (u_X12_takesPlain (up (u_sg (u_sg (u_sg (up (up (u_word (u_X12_node (u_word D) 3)) 102 (v_X12_node (u_word D) 3) (v_X12_told (u_word (u_X12_node (u_word D) 3)) (w_word (u_X12_node (u_word D) 3)))) 70 30 ((u_word (u_X12_node (u_word D) 3)) 70 49)) 60) 62) 61) 103 (v_X12_node (u_word D) 3) 61)) 104 (v_X12_node (u_word D) 3) ((u_X12_takesPlain (up (u_sg (u_sg (u_sg (up (up (u_word (u_X12_node (u_word D) 3)) 102 (v_X12_node (u_word D) 3) (v_X12_told (u_word (u_X12_node (u_word D) 3)) (w_word (u_X12_node (u_word D) 3)))) 70 30 ((u_word (u_X12_node (u_word D) 3)) 70 49)) 60) 62) 61) 103 (v_X12_node (u_word D) 3) 61)) 70 50))))) else (p_X12_takesPlain (up (u_sg (u_sg (up (up (u_word (u_X12_node (u_word D) 3)) 102 (v_X12_node (u_word D) 3) (v_X12_told (u_word (u_X12_node (u_word D) 3)) (w_word (u_X12_node (u_word D) 3)))) 70 30 ((u_word (u_X12_node (u_word D) 3)) 70 49)) 60) 62) 103 (v_X12_node (u_word D) 3) 62)) ∧ (if v_X12_takesPlain (up (u_sg (u_sg (up (up (u_word (u_X12_node (u_word D) 3)) 102 (v_X12_node (u_word D) 3) (v_X12_told (u_word (u_X12_node (u_word D) 3)) (w_word (u_X12_node (u_word D) 3)))) 70 30 ((u_word (u_X12_node (u_word D) 3)) 70 49)) 60) 62) 103 (v_X12_node (u_word D) 3) 62) = 0 then (x = (-1) ∧ D' = (u_X12_takesPlain (up (u_sg (u_sg (up (up (u_word (u_X12_node (u_word D) 3)) 102 (v_X12_node (u_word D) 3) (v_X12_told (u_word (u_X12_node (u_word D) 3)) (w_word (u_X12_node (u_word D) 3)))) 70 30 ((u_word (u_X12_node (u_word D) 3)) 70 49)) 60) 62) 103 (v_X12_node (u_word D) 3) 62))) else (x = v_X12_node (u_word D) 3 ∧ D' = (up (u_X12_takesPlain (up (u_sg (u_sg (up (up (u_word (u_X12_node (u_word D) 3)) 102 (v_X12_node (u_word D) 3) (v_X12_told (u_word (u_X12_node (u_word D) 3)) (w_word (u_X12_node (u_word D) 3)))) 70 30 ((u_word (u_X12_node (u_word D) 3)) 70 49)) 60) 62) 103 (v_X12_node (u_word D) 3) 62)) 104 (v_X12_node (u_word D) 3) ((u_X12_takesPlain (up (u_sg (u_sg (up (up (u_word (u_X12_node (u_word D) 3)) 102 (v_X12_node (u_word D) 3) (v_X12_told (u_word (u_X12_node (u_word D) 3)) (w_word (u_X12_node (u_word D) 3)))) 70 30 ((u_word (u_X12_node (u_word D) 3)) 70 49)) 60) 62) 103 (v_X12_node (u_word D) 3) 62)) 70 50))))) else (p_X12_takesPlain (up (u_sg (up (up (u_word (u_X12_node (u_word D) 3)) 102 (v_X12_node (u_word D) 3) (v_X12_told (u_word (u_X12_node (u_word D) 3)) (w_word (u_X12_node (u_word D) 3)))) 70 30 ((u_word (u_X12_node (u_word D) 3)) 70 49)) 60) 103 (v_X12_node (u_word D) 3) 60)) ∧ (if v_X12_takesPlain (up (u_sg (up (up (u_word (u_X12_node (u_word D) 3)) 102 (v_X12_node (u_word D) 3) (v_X12_told (u_word (u_X12_node (u_word D) 3)) (w_word (u_X12_node (u_word D) 3)))) 70 30 ((u_word (u_X12_node (u_word D) 3)) 70 49)) 60) 103 (v_X12_node (u_word D) 3) 60) = 0 then (x = (-1) ∧ D' = (u_X12_takesPlain (up (u_sg (up (up (u_word (u_X12_node (u_word D) 3)) 102 (v_X12_node (u_word D) 3) (v_X12_told (u_word (u_X12_node (u_word D) 3)) (w_word (u_X12_node (u_word D) 3)))) 70 30 ((u_word (u_X12_node (u_word D) 3)) 70 49)) 60) 103 (v_X12_node (u_word D) 3) 60))) else (x = v_X12_node (u_word D) 3 ∧ D' = (up (u_X12_takesPlain (up (u_sg (up (up (u_word (u_X12_node (u_word D) 3)) 102 (v_X12_node (u_word D) 3) (v_X12_told (u_word (u_X12_node (u_word D) 3)) (w_word (u_X12_node (u_word D) 3)))) 70 30 ((u_word (u_X12_node (u_word D) 3)) 70 49)) 60) 103 (v_X12_node (u_word D) 3) 60)) 104 (v_X12_node (u_word D) 3) ((u_X12_takesPlain (up (u_sg (up (up (u_word (u_X12_node (u_word D) 3)) 102 (v_X12_node (u_word D) 3) (v_X12_told (u_word (u_X12_node (u_word D) 3)) (w_word (u_X12_node (u_word D) 3)))) 70 30 ((u_word (u_X12_node (u_word D) 3)) 70 49)) 60) 103 (v_X12_node (u_word D) 3) 60)) 70 50)))))))))) : Ev (n + 1) (c + 1) 163 [am_r (some 70)] A D (ri x) A D' := by
  refine Ev_of (c := c) (P := P_X12_single) (lo := [some (am_r (some 70)), none, none]) rfl rfl rfl (fun d hd s hr => ?_)
  refine ok (m_aload_n (q := 1) rfl rfl rfl rfl) ?_
  obtain ⟨g3, hp⟩ := hp
  refine oke (e_cl (x_cv (q := 4) rfl rfl rfl rfl rfl rfl rfl rfl rfl rfl (is_st hr rfl rfl)) (ev_X12_word (D := D) g3) (Nat.le_trans (by decide) (Nat.le_trans hc hd)) hr) (fun s1 r2 => ?_)
  refine ok (m_ldc2_w (q := 7) rfl rfl rfl) ?_
  refine ok (m_lcmp (q := 8) rfl rfl rfl) ?_
  refine okc (m_ifne (qt := 79) (qf := 11) rfl rfl (rg_lcmp _ _) rfl rfl) (fun c4 => ?_) (fun c4 => ?_)
  · replace hp := ip c4 hp
    refine ok (m_aload_n (q := 12) rfl rfl rfl rfl) ?_
    refine ok (m_gfs (z := 31) (q := 15) rfl rfl rfl r2 rfl rfl rfl rfl rfl) ?_
    refine ok (m_bipush (q := 17) rfl rfl rfl) ?_
    refine okc (m_cmpne (qt := 22) (qf := 20) rfl rfl (Rp_rg r2 70 31) ⟨by decide, by decide⟩ rfl rfl) (fun c5 => ?_) (fun c5 => ?_)
    · replace hp := ip c5 hp
      refine ok (m_iconst (q := 21) rfl rfl rfl) ?_
      exact ok (m_reti rfl rfl) (ok_iq r2 ⟨by decide, by decide⟩ hp)
    · replace hp := iq c5 hp
      refine ok (m_aload_n (q := 23) rfl rfl rfl rfl) ?_
      refine ok (m_dup (q := 24) rfl rfl rfl rfl) ?_
      refine ok (m_gfs (z := 31) (q := 27) rfl rfl rfl r2 rfl rfl rfl rfl rfl) ?_
      refine ok (m_iconst (q := 28) rfl rfl rfl) ?_
      refine ok (m_iadd (q := 29) rfl rfl rfl) ?_
      refine oke (e_pfs (q := 32) rfl rfl rfl r2 rfl rfl rfl rfl (rg_wr _)) (fun s7 r6 => ?_)
      refine ok (m_aload_n (q := 33) rfl rfl rfl rfl) ?_
      refine ok (m_aload_n (q := 34) rfl rfl rfl rfl) ?_
      refine ok (m_gfs (z := 49) (q := 37) (w := (u_word D) 70 49) rfl rfl rfl r6 rfl rfl rfl rfl rfl) ?_
      refine oke (e_pfs (q := 40) rfl rfl rfl r6 rfl rfl rfl rfl (show rg ((u_word D) 70 49) from Rp_rg r6 70 49)) (fun s9 r8 => ?_)
      refine ok (m_aload_n (q := 41) rfl rfl rfl rfl) ?_
      refine ok (m_iconst (q := 42) rfl rfl rfl) ?_
      obtain ⟨g12, hp⟩ := hp
      refine oke (e_ci (x_cv (q := 45) rfl rfl rfl rfl rfl rfl rfl rfl rfl rfl (is_st r8 rfl rfl)) (ev_X12_node (D := (up (up (u_word D) 70 31 (wr (((u_word D) 70 31) + 1))) 70 30 ((u_word D) 70 49))) 2 ⟨by decide, by decide⟩ g12) (Nat.le_trans (by decide) (Nat.le_trans hc hd)) r8) (fun s10 r11 => ?_)
      refine ok (m_istore_n (q := 46) (lo' := [some (am_r (some 70)), some (am_i (wz (v_X12_node (up (up (u_word D) 70 31 (wr (((u_word D) 70 31) + 1))) 70 30 ((u_word D) 70 49)) 2))), none]) rfl rfl rfl rfl rfl) ?_
      refine ok (m_aload_n (q := 47) rfl rfl rfl rfl) ?_
      obtain ⟨x15, D16, e17, hp⟩ := hp
      refine oke (e_ci (x_cv (q := 50) rfl rfl rfl rfl rfl rfl rfl rfl rfl rfl (is_st r11 rfl rfl)) e17 hd r11) (fun s13 r14 => ?_)
      refine ok (m_istore_n (q := 51) (lo' := [some (am_r (some 70)), some (am_i (wz (v_X12_node (up (up (u_word D) 70 31 (wr (((u_word D) 70 31) + 1))) 70 30 ((u_word D) 70 49)) 2))), some (am_i (wz x15))]) rfl rfl rfl rfl rfl) ?_
      refine ok (m_aload_n (q := 52) rfl rfl rfl rfl) ?_
      refine ok (m_gfc (q := 55) rfl rfl rfl r14 rfl rfl rfl) ?_
      refine ok (m_iload_n (q := 56) rfl rfl rfl rfl) ?_
      refine ok (m_iload_n (q := 57) rfl rfl rfl rfl) ?_
      obtain ⟨g20, hp⟩ := hp
      refine oke (e_ias (q := 58) rfl rfl rfl r14 rfl rfl g20 (Ev_rg e17 r11)) (fun s19 r18 => ?_)
      refine ok (m_aload_n (q := 59) rfl rfl rfl rfl) ?_
      refine ok (m_dup (q := 60) rfl rfl rfl rfl) ?_
      refine ok (m_gfs (z := 31) (q := 63) (w := D16 70 31) rfl rfl rfl r18 rfl rfl rfl rfl rfl) ?_
      refine ok (m_iconst (q := 64) rfl rfl rfl) ?_
      refine ok (m_isub (q := 65) rfl rfl rfl) ?_
      refine oke (e_pfs (q := 68) rfl rfl rfl r18 rfl rfl rfl rfl (rg_wr _)) (fun s22 r21 => ?_)
      refine ok (m_iload_n (q := 69) rfl rfl rfl rfl) ?_
      refine ok (m_iconst (q := 70) rfl rfl rfl) ?_
      refine okc (m_cmpne (qt := 77) (qf := 73) rfl rfl (Ev_rg e17 r11) ⟨by decide, by decide⟩ rfl rfl) (fun c23 => ?_) (fun c23 => ?_)
      · replace hp := ip c23 hp
        refine ok (m_iconst (q := 74) rfl rfl rfl) ?_
        refine ok (m_goto (q := 78) rfl rfl rfl) ?_
        exact ok (m_reti rfl rfl) (ok_iq r21 ⟨by decide, by decide⟩ hp)
      · replace hp := iq c23 hp
        refine ok (m_iload_n (q := 78) rfl rfl rfl rfl) ?_
        exact ok (m_reti rfl rfl) (ok_iq r21 (Ev_rg (ev_X12_node (D := (up (up (u_word D) 70 31 (wr (((u_word D) 70 31) + 1))) 70 30 ((u_word D) 70 49))) 2 ⟨by decide, by decide⟩ g12) r8) hp)
  · replace hp := iq c4 hp
    refine ok (m_aload_n (q := 80) rfl rfl rfl rfl) ?_
    refine ok (m_gfs (z := 30) (q := 83) rfl rfl rfl r2 rfl rfl rfl rfl rfl) ?_
    refine ok (m_aload_n (q := 84) rfl rfl rfl rfl) ?_
    refine ok (m_gfs (z := 29) (q := 87) rfl rfl rfl r2 rfl rfl rfl rfl rfl) ?_
    refine okc (m_cmpge (qt := 170) (qf := 90) rfl rfl (Rp_rg r2 70 30) (Rp_rg r2 70 29) rfl rfl) (fun c24 => ?_) (fun c24 => ?_)
    · replace hp := ip c24 hp
      refine ok (m_aload_n (q := 171) rfl rfl rfl rfl) ?_
      refine ok (m_iconst (q := 172) rfl rfl rfl) ?_
      obtain ⟨g27, hp⟩ := hp
      refine oke (e_ci (x_cv (q := 175) rfl rfl rfl rfl rfl rfl rfl rfl rfl rfl (is_st r2 rfl rfl)) (ev_X12_node (D := (u_word D)) 3 ⟨by decide, by decide⟩ g27) (Nat.le_trans (by decide) (Nat.le_trans hc hd)) r2) (fun s25 r26 => ?_)
      refine ok (m_istore_n (q := 176) (lo' := [some (am_r (some 70)), some (am_i (wz (v_X12_node (u_word D) 3))), none]) rfl rfl rfl rfl rfl) ?_
      refine ok (m_aload_n (q := 177) rfl rfl rfl rfl) ?_
      refine ok (m_gfc (q := 180) rfl rfl rfl r26 rfl rfl rfl) ?_
      refine ok (m_iload_n (q := 181) rfl rfl rfl rfl) ?_
      refine ok (m_aload_n (q := 182) rfl rfl rfl rfl) ?_
      obtain ⟨g30, hp⟩ := hp
      refine oke (e_cl (x_cv (q := 185) rfl rfl rfl rfl rfl rfl rfl rfl rfl rfl (is_st r26 rfl rfl)) (ev_X12_word (D := (u_X12_node (u_word D) 3)) g30) (Nat.le_trans (by decide) (Nat.le_trans hc hd)) r26) (fun s28 r29 => ?_)
      refine oke (e_ci (x_cs (q := 188) rfl rfl rfl rfl rfl rfl rfl rfl rfl) (ev_X12_told (D := (u_word (u_X12_node (u_word D) 3))) (w_word (u_X12_node (u_word D) 3))) (Nat.le_trans (by decide) (Nat.le_trans hc hd)) r29) (fun s31 r32 => ?_)
      obtain ⟨g35, hp⟩ := hp
      refine oke (e_ias (q := 189) rfl rfl rfl r32 rfl rfl g35 (Ev_rg (ev_X12_told (D := (u_word (u_X12_node (u_word D) 3))) (w_word (u_X12_node (u_word D) 3))) r29)) (fun s34 r33 => ?_)
      refine ok (m_aload_n (q := 190) rfl rfl rfl rfl) ?_
      refine ok (m_gfc (q := 193) rfl rfl rfl r33 rfl rfl rfl) ?_
      refine ok (m_iload_n (q := 194) rfl rfl rfl rfl) ?_
      refine ok (m_ials (q := 195) (w := v_X12_told (u_word (u_X12_node (u_word D) 3)) (w_word (u_X12_node (u_word D) 3))) rfl rfl rfl r33 rfl rfl g35 up_eq) ?_
      refine ok (m_iconst (q := 196) rfl rfl rfl) ?_
      refine okc (m_cmpne (qt := 201) (qf := 199) rfl rfl (rg_c (Rp_rg r33 102 (v_X12_node (u_word D) 3)) up_eq) ⟨by decide, by decide⟩ rfl rfl) (fun c36 => ?_) (fun c36 => ?_)
      · replace hp := ip c36 hp
        refine ok (m_iconst (q := 200) rfl rfl rfl) ?_
        exact ok (m_reti rfl rfl) (ok_iq r33 ⟨by decide, by decide⟩ hp)
      · replace hp := iq c36 hp
        refine ok (m_aload_n (q := 202) rfl rfl rfl rfl) ?_
        refine ok (m_aload_n (q := 203) rfl rfl rfl rfl) ?_
        refine ok (m_gfs (z := 49) (q := 206) (w := (u_word (u_X12_node (u_word D) 3)) 70 49) rfl rfl rfl r33 rfl rfl rfl rfl rfl) ?_
        refine oke (e_pfs (q := 209) rfl rfl rfl r33 rfl rfl rfl rfl (show rg ((u_word (u_X12_node (u_word D) 3)) 70 49) from Rp_rg r33 70 49)) (fun s38 r37 => ?_)
        refine ok (m_aload_n (q := 210) rfl rfl rfl rfl) ?_
        refine ok (m_gfc (q := 213) rfl rfl rfl r37 rfl rfl rfl) ?_
        refine ok (m_iload_n (q := 214) rfl rfl rfl rfl) ?_
        refine ok (m_aload_n (q := 215) rfl rfl rfl rfl) ?_
        refine ok (m_bipush (q := 217) rfl rfl rfl) ?_
        obtain ⟨g41, hp⟩ := hp
        refine oke (e_ci (x_cv (q := 220) rfl rfl rfl rfl rfl rfl rfl rfl rfl rfl (is_st r37 rfl rfl)) (ev_sg (D := (up (up (u_word (u_X12_node (u_word D) 3)) 102 (v_X12_node (u_word D) 3) (v_X12_told (u_word (u_X12_node (u_word D) 3)) (w_word (u_X12_node (u_word D) 3)))) 70 30 ((u_word (u_X12_node (u_word D) 3)) 70 49))) 60 ⟨by decide, by decide⟩ g41) (Nat.le_trans (by decide) (Nat.le_trans hc hd)) r37) (fun s39 r40 => ?_)
        refine okc (m_ifeq (qt := 228) (qf := 223) rfl rfl (Ev_rg (ev_sg (D := (up (up (u_word (u_X12_node (u_word D) 3)) 102 (v_X12_node (u_word D) 3) (v_X12_told (u_word (u_X12_node (u_word D) 3)) (w_word (u_X12_node (u_word D) 3)))) 70 30 ((u_word (u_X12_node (u_word D) 3)) 70 49))) 60 ⟨by decide, by decide⟩ g41) r37) rfl rfl) (fun c42 => ?_) (fun c42 => ?_)
        · replace hp := ip c42 hp
          refine ok (m_aload_n (q := 229) rfl rfl rfl rfl) ?_
          refine ok (m_bipush (q := 231) rfl rfl rfl) ?_
          obtain ⟨g45, hp⟩ := hp
          refine oke (e_ci (x_cv (q := 234) rfl rfl rfl rfl rfl rfl rfl rfl rfl rfl (is_st r40 rfl rfl)) (ev_sg (D := (u_sg (up (up (u_word (u_X12_node (u_word D) 3)) 102 (v_X12_node (u_word D) 3) (v_X12_told (u_word (u_X12_node (u_word D) 3)) (w_word (u_X12_node (u_word D) 3)))) 70 30 ((u_word (u_X12_node (u_word D) 3)) 70 49)) 60)) 62 ⟨by decide, by decide⟩ g45) (Nat.le_trans (by decide) (Nat.le_trans hc hd)) r40) (fun s43 r44 => ?_)
          refine okc (m_ifeq (qt := 242) (qf := 237) rfl rfl (Ev_rg (ev_sg (D := (u_sg (up (up (u_word (u_X12_node (u_word D) 3)) 102 (v_X12_node (u_word D) 3) (v_X12_told (u_word (u_X12_node (u_word D) 3)) (w_word (u_X12_node (u_word D) 3)))) 70 30 ((u_word (u_X12_node (u_word D) 3)) 70 49)) 60)) 62 ⟨by decide, by decide⟩ g45) r40) rfl rfl) (fun c46 => ?_) (fun c46 => ?_)
          · replace hp := ip c46 hp
            refine ok (m_aload_n (q := 243) rfl rfl rfl rfl) ?_
            refine ok (m_bipush (q := 245) rfl rfl rfl) ?_
            obtain ⟨g49, hp⟩ := hp
            refine oke (e_ci (x_cv (q := 248) rfl rfl rfl rfl rfl rfl rfl rfl rfl rfl (is_st r44 rfl rfl)) (ev_sg (D := (u_sg (u_sg (up (up (u_word (u_X12_node (u_word D) 3)) 102 (v_X12_node (u_word D) 3) (v_X12_told (u_word (u_X12_node (u_word D) 3)) (w_word (u_X12_node (u_word D) 3)))) 70 30 ((u_word (u_X12_node (u_word D) 3)) 70 49)) 60) 62)) 61 ⟨by decide, by decide⟩ g49) (Nat.le_trans (by decide) (Nat.le_trans hc hd)) r44) (fun s47 r48 => ?_)
            refine okc (m_ifeq (qt := 256) (qf := 251) rfl rfl (Ev_rg (ev_sg (D := (u_sg (u_sg (up (up (u_word (u_X12_node (u_word D) 3)) 102 (v_X12_node (u_word D) 3) (v_X12_told (u_word (u_X12_node (u_word D) 3)) (w_word (u_X12_node (u_word D) 3)))) 70 30 ((u_word (u_X12_node (u_word D) 3)) 70 49)) 60) 62)) 61 ⟨by decide, by decide⟩ g49) r44) rfl rfl) (fun c50 => ?_) (fun c50 => ?_)
            · replace hp := ip c50 hp
              refine ok (m_iconst (q := 257) rfl rfl rfl) ?_
              refine oke (e_ias (q := 258) rfl rfl rfl r48 rfl rfl g35 ⟨by decide, by decide⟩) (fun s52 r51 => ?_)
              refine ok (m_aload_n (q := 259) rfl rfl rfl rfl) ?_
              refine ok (m_gfc (q := 262) rfl rfl rfl r51 rfl rfl rfl) ?_
              refine ok (m_iload_n (q := 263) rfl rfl rfl rfl) ?_
              refine ok (m_ials (q := 264) (w := (-1)) rfl rfl rfl r51 rfl rfl g35 up_eq) ?_
              refine ok (m_iconst (q := 265) rfl rfl rfl) ?_
              refine ok ((m_cmpeq (qt := 275) (qf := 268) rfl rfl (rg_c (Rp_rg r51 103 (v_X12_node (u_word D) 3)) up_eq) ⟨by decide, by decide⟩ rfl rfl).trans (if_pos (by decide))) ?_
              refine ok (m_iconst (q := 276) rfl rfl rfl) ?_
              exact ok (m_reti rfl rfl) (ok_iq r51 ⟨by decide, by decide⟩ hp)
            · replace hp := iq c50 hp
              refine ok (m_bipush (q := 253) rfl rfl rfl) ?_
              refine ok (m_goto (q := 257) rfl rfl rfl) ?_
              refine oke (e_ias (q := 258) rfl rfl rfl r48 rfl rfl g35 ⟨by decide, by decide⟩) (fun s54 r53 => ?_)
              refine ok (m_aload_n (q := 259) rfl rfl rfl rfl) ?_
              refine ok (m_gfc (q := 262) rfl rfl rfl r53 rfl rfl rfl) ?_
              refine ok (m_iload_n (q := 263) rfl rfl rfl rfl) ?_
              refine ok (m_ials (q := 264) (w := 61) rfl rfl rfl r53 rfl rfl g35 up_eq) ?_
              refine ok (m_iconst (q := 265) rfl rfl rfl) ?_
              refine ok ((m_cmpeq (qt := 275) (qf := 268) rfl rfl (rg_c (Rp_rg r53 103 (v_X12_node (u_word D) 3)) up_eq) ⟨by decide, by decide⟩ rfl rfl).trans (if_neg (by decide))) ?_
              refine ok (m_aload_n (q := 269) rfl rfl rfl rfl) ?_
              obtain ⟨g57, hp⟩ := hp
              refine oke (e_ci (x_cv (q := 272) rfl rfl rfl rfl rfl rfl rfl rfl rfl rfl (is_st r53 rfl rfl)) (ev_X12_takesPlain (D := (up (u_sg (u_sg (u_sg (up (up (u_word (u_X12_node (u_word D) 3)) 102 (v_X12_node (u_word D) 3) (v_X12_told (u_word (u_X12_node (u_word D) 3)) (w_word (u_X12_node (u_word D) 3)))) 70 30 ((u_word (u_X12_node (u_word D) 3)) 70 49)) 60) 62) 61) 103 (v_X12_node (u_word D) 3) 61)) g57) (Nat.le_trans (by decide) (Nat.le_trans hc hd)) r53) (fun s55 r56 => ?_)
              refine okc (m_ifne (qt := 277) (qf := 275) rfl rfl (Ev_rg (ev_X12_takesPlain (D := (up (u_sg (u_sg (u_sg (up (up (u_word (u_X12_node (u_word D) 3)) 102 (v_X12_node (u_word D) 3) (v_X12_told (u_word (u_X12_node (u_word D) 3)) (w_word (u_X12_node (u_word D) 3)))) 70 30 ((u_word (u_X12_node (u_word D) 3)) 70 49)) 60) 62) 61) 103 (v_X12_node (u_word D) 3) 61)) g57) r53) rfl rfl) (fun c58 => ?_) (fun c58 => ?_)
              · replace hp := ip c58 hp
                refine ok (m_iconst (q := 276) rfl rfl rfl) ?_
                exact ok (m_reti rfl rfl) (ok_iq r56 ⟨by decide, by decide⟩ hp)
              · replace hp := iq c58 hp
                refine ok (m_aload_n (q := 278) rfl rfl rfl rfl) ?_
                refine ok (m_gfc (q := 281) rfl rfl rfl r56 rfl rfl rfl) ?_
                refine ok (m_iload_n (q := 282) rfl rfl rfl rfl) ?_
                refine ok (m_aload_n (q := 283) rfl rfl rfl rfl) ?_
                refine ok (m_gfs (z := 50) (q := 286) rfl rfl rfl r56 rfl rfl rfl rfl rfl) ?_
                refine oke (e_ias (q := 287) rfl rfl rfl r56 rfl rfl g35 (Rp_rg r56 70 50)) (fun s60 r59 => ?_)
                refine ok (m_iload_n (q := 288) rfl rfl rfl rfl) ?_
                exact ok (m_reti rfl rfl) (ok_iq r59 (Ev_rg (ev_X12_node (D := (u_word D)) 3 ⟨by decide, by decide⟩ g27) r2) hp)
          · replace hp := iq c46 hp
            refine ok (m_bipush (q := 239) rfl rfl rfl) ?_
            refine ok (m_goto (q := 257) rfl rfl rfl) ?_
            refine oke (e_ias (q := 258) rfl rfl rfl r44 rfl rfl g35 ⟨by decide, by decide⟩) (fun s62 r61 => ?_)
            refine ok (m_aload_n (q := 259) rfl rfl rfl rfl) ?_
            refine ok (m_gfc (q := 262) rfl rfl rfl r61 rfl rfl rfl) ?_
            refine ok (m_iload_n (q := 263) rfl rfl rfl rfl) ?_
            refine ok (m_ials (q := 264) (w := 62) rfl rfl rfl r61 rfl rfl g35 up_eq) ?_
            refine ok (m_iconst (q := 265) rfl rfl rfl) ?_
            refine ok ((m_cmpeq (qt := 275) (qf := 268) rfl rfl (rg_c (Rp_rg r61 103 (v_X12_node (u_word D) 3)) up_eq) ⟨by decide, by decide⟩ rfl rfl).trans (if_neg (by decide))) ?_
            refine ok (m_aload_n (q := 269) rfl rfl rfl rfl) ?_
            obtain ⟨g65, hp⟩ := hp
            refine oke (e_ci (x_cv (q := 272) rfl rfl rfl rfl rfl rfl rfl rfl rfl rfl (is_st r61 rfl rfl)) (ev_X12_takesPlain (D := (up (u_sg (u_sg (up (up (u_word (u_X12_node (u_word D) 3)) 102 (v_X12_node (u_word D) 3) (v_X12_told (u_word (u_X12_node (u_word D) 3)) (w_word (u_X12_node (u_word D) 3)))) 70 30 ((u_word (u_X12_node (u_word D) 3)) 70 49)) 60) 62) 103 (v_X12_node (u_word D) 3) 62)) g65) (Nat.le_trans (by decide) (Nat.le_trans hc hd)) r61) (fun s63 r64 => ?_)
            refine okc (m_ifne (qt := 277) (qf := 275) rfl rfl (Ev_rg (ev_X12_takesPlain (D := (up (u_sg (u_sg (up (up (u_word (u_X12_node (u_word D) 3)) 102 (v_X12_node (u_word D) 3) (v_X12_told (u_word (u_X12_node (u_word D) 3)) (w_word (u_X12_node (u_word D) 3)))) 70 30 ((u_word (u_X12_node (u_word D) 3)) 70 49)) 60) 62) 103 (v_X12_node (u_word D) 3) 62)) g65) r61) rfl rfl) (fun c66 => ?_) (fun c66 => ?_)
            · replace hp := ip c66 hp
              refine ok (m_iconst (q := 276) rfl rfl rfl) ?_
              exact ok (m_reti rfl rfl) (ok_iq r64 ⟨by decide, by decide⟩ hp)
            · replace hp := iq c66 hp
              refine ok (m_aload_n (q := 278) rfl rfl rfl rfl) ?_
              refine ok (m_gfc (q := 281) rfl rfl rfl r64 rfl rfl rfl) ?_
              refine ok (m_iload_n (q := 282) rfl rfl rfl rfl) ?_
              refine ok (m_aload_n (q := 283) rfl rfl rfl rfl) ?_
              refine ok (m_gfs (z := 50) (q := 286) rfl rfl rfl r64 rfl rfl rfl rfl rfl) ?_
              refine oke (e_ias (q := 287) rfl rfl rfl r64 rfl rfl g35 (Rp_rg r64 70 50)) (fun s68 r67 => ?_)
              refine ok (m_iload_n (q := 288) rfl rfl rfl rfl) ?_
              exact ok (m_reti rfl rfl) (ok_iq r67 (Ev_rg (ev_X12_node (D := (u_word D)) 3 ⟨by decide, by decide⟩ g27) r2) hp)
        · replace hp := iq c42 hp
          refine ok (m_bipush (q := 225) rfl rfl rfl) ?_
          refine ok (m_goto (q := 257) rfl rfl rfl) ?_
          refine oke (e_ias (q := 258) rfl rfl rfl r40 rfl rfl g35 ⟨by decide, by decide⟩) (fun s70 r69 => ?_)
          refine ok (m_aload_n (q := 259) rfl rfl rfl rfl) ?_
          refine ok (m_gfc (q := 262) rfl rfl rfl r69 rfl rfl rfl) ?_
          refine ok (m_iload_n (q := 263) rfl rfl rfl rfl) ?_
          refine ok (m_ials (q := 264) (w := 60) rfl rfl rfl r69 rfl rfl g35 up_eq) ?_
          refine ok (m_iconst (q := 265) rfl rfl rfl) ?_
          refine ok ((m_cmpeq (qt := 275) (qf := 268) rfl rfl (rg_c (Rp_rg r69 103 (v_X12_node (u_word D) 3)) up_eq) ⟨by decide, by decide⟩ rfl rfl).trans (if_neg (by decide))) ?_
          refine ok (m_aload_n (q := 269) rfl rfl rfl rfl) ?_
          obtain ⟨g73, hp⟩ := hp
          refine oke (e_ci (x_cv (q := 272) rfl rfl rfl rfl rfl rfl rfl rfl rfl rfl (is_st r69 rfl rfl)) (ev_X12_takesPlain (D := (up (u_sg (up (up (u_word (u_X12_node (u_word D) 3)) 102 (v_X12_node (u_word D) 3) (v_X12_told (u_word (u_X12_node (u_word D) 3)) (w_word (u_X12_node (u_word D) 3)))) 70 30 ((u_word (u_X12_node (u_word D) 3)) 70 49)) 60) 103 (v_X12_node (u_word D) 3) 60)) g73) (Nat.le_trans (by decide) (Nat.le_trans hc hd)) r69) (fun s71 r72 => ?_)
          refine okc (m_ifne (qt := 277) (qf := 275) rfl rfl (Ev_rg (ev_X12_takesPlain (D := (up (u_sg (up (up (u_word (u_X12_node (u_word D) 3)) 102 (v_X12_node (u_word D) 3) (v_X12_told (u_word (u_X12_node (u_word D) 3)) (w_word (u_X12_node (u_word D) 3)))) 70 30 ((u_word (u_X12_node (u_word D) 3)) 70 49)) 60) 103 (v_X12_node (u_word D) 3) 60)) g73) r69) rfl rfl) (fun c74 => ?_) (fun c74 => ?_)
          · replace hp := ip c74 hp
            refine ok (m_iconst (q := 276) rfl rfl rfl) ?_
            exact ok (m_reti rfl rfl) (ok_iq r72 ⟨by decide, by decide⟩ hp)
          · replace hp := iq c74 hp
            refine ok (m_aload_n (q := 278) rfl rfl rfl rfl) ?_
            refine ok (m_gfc (q := 281) rfl rfl rfl r72 rfl rfl rfl) ?_
            refine ok (m_iload_n (q := 282) rfl rfl rfl rfl) ?_
            refine ok (m_aload_n (q := 283) rfl rfl rfl rfl) ?_
            refine ok (m_gfs (z := 50) (q := 286) rfl rfl rfl r72 rfl rfl rfl rfl rfl) ?_
            refine oke (e_ias (q := 287) rfl rfl rfl r72 rfl rfl g35 (Rp_rg r72 70 50)) (fun s76 r75 => ?_)
            refine ok (m_iload_n (q := 288) rfl rfl rfl rfl) ?_
            exact ok (m_reti rfl rfl) (ok_iq r75 (Ev_rg (ev_X12_node (D := (u_word D)) 3 ⟨by decide, by decide⟩ g27) r2) hp)
    · replace hp := iq c24 hp
      refine ok (m_aload_n (q := 91) rfl rfl rfl rfl) ?_
      refine ok (m_gfc (q := 94) rfl rfl rfl r2 rfl rfl rfl) ?_
      refine ok (m_aload_n (q := 95) rfl rfl rfl rfl) ?_
      refine ok (m_gfs (z := 30) (q := 98) rfl rfl rfl r2 rfl rfl rfl rfl rfl) ?_
      obtain ⟨g77, hp⟩ := hp
      refine ok (m_bals (q := 99) rfl rfl rfl r2 rfl rfl g77 rfl) ?_
      refine ok (m_bipush (q := 101) rfl rfl rfl) ?_
      refine okc (m_cmpne (qt := 170) (qf := 104) rfl rfl (Rp_rg r2 107 ((u_word D) 70 30)) ⟨by decide, by decide⟩ rfl rfl) (fun c78 => ?_) (fun c78 => ?_)
      · replace hp := ip c78 hp
        refine ok (m_aload_n (q := 105) rfl rfl rfl rfl) ?_
        refine ok (m_gfs (z := 31) (q := 108) rfl rfl rfl r2 rfl rfl rfl rfl rfl) ?_
        refine ok (m_bipush (q := 110) rfl rfl rfl) ?_
        refine okc (m_cmpne (qt := 115) (qf := 113) rfl rfl (Rp_rg r2 70 31) ⟨by decide, by decide⟩ rfl rfl) (fun c79 => ?_) (fun c79 => ?_)
        · replace hp := ip c79 hp
          refine ok (m_iconst (q := 114) rfl rfl rfl) ?_
          exact ok (m_reti rfl rfl) (ok_iq r2 ⟨by decide, by decide⟩ hp)
        · replace hp := iq c79 hp
          refine ok (m_aload_n (q := 116) rfl rfl rfl rfl) ?_
          refine ok (m_dup (q := 117) rfl rfl rfl rfl) ?_
          refine ok (m_gfs (z := 31) (q := 120) rfl rfl rfl r2 rfl rfl rfl rfl rfl) ?_
          refine ok (m_iconst (q := 121) rfl rfl rfl) ?_
          refine ok (m_iadd (q := 122) rfl rfl rfl) ?_
          refine oke (e_pfs (q := 125) rfl rfl rfl r2 rfl rfl rfl rfl (rg_wr _)) (fun s81 r80 => ?_)
          refine ok (m_aload_n (q := 126) rfl rfl rfl rfl) ?_
          refine ok (m_dup (q := 127) rfl rfl rfl rfl) ?_
          refine ok (m_gfs (z := 30) (q := 130) (w := (u_word D) 70 30) rfl rfl rfl r80 rfl rfl rfl rfl rfl) ?_
          refine ok (m_iconst (q := 131) rfl rfl rfl) ?_
          refine ok (m_iadd (q := 132) rfl rfl rfl) ?_
          refine oke (e_pfs (q := 135) rfl rfl rfl r80 rfl rfl rfl rfl (rg_wr _)) (fun s83 r82 => ?_)
          refine ok (m_aload_n (q := 136) rfl rfl rfl rfl) ?_
          obtain ⟨x86, D87, e88, hp⟩ := hp
          refine oke (e_ci (x_cv (q := 139) rfl rfl rfl rfl rfl rfl rfl rfl rfl rfl (is_st r82 rfl rfl)) e88 hd r82) (fun s84 r85 => ?_)
          refine ok (m_istore_n (q := 140) (lo' := [some (am_r (some 70)), some (am_i (wz x86)), none]) rfl rfl rfl rfl rfl) ?_
          refine ok (m_aload_n (q := 141) rfl rfl rfl rfl) ?_
          refine ok (m_dup (q := 142) rfl rfl rfl rfl) ?_
          refine ok (m_gfs (z := 31) (q := 145) rfl rfl rfl r85 rfl rfl rfl rfl rfl) ?_
          refine ok (m_iconst (q := 146) rfl rfl rfl) ?_
          refine ok (m_isub (q := 147) rfl rfl rfl) ?_
          refine oke (e_pfs (q := 150) rfl rfl rfl r85 rfl rfl rfl rfl (rg_wr _)) (fun s90 r89 => ?_)
          refine ok (m_iload_n (q := 151) rfl rfl rfl rfl) ?_
          refine ok (m_iconst (q := 152) rfl rfl rfl) ?_
          refine okc (m_cmpeq (qt := 164) (qf := 155) rfl rfl (Ev_rg e88 r82) ⟨by decide, by decide⟩ rfl rfl) (fun c91 => ?_) (fun c91 => ?_)
          · replace hp := ip c91 hp
            refine ok (m_iconst (q := 165) rfl rfl rfl) ?_
            refine ok (m_goto (q := 169) rfl rfl rfl) ?_
            exact ok (m_reti rfl rfl) (ok_iq r89 ⟨by decide, by decide⟩ hp)
          · replace hp := iq c91 hp
            refine ok (m_aload_n (q := 156) rfl rfl rfl rfl) ?_
            refine ok (m_bipush (q := 158) rfl rfl rfl) ?_
            obtain ⟨g94, hp⟩ := hp
            refine oke (e_ci (x_cv (q := 161) rfl rfl rfl rfl rfl rfl rfl rfl rfl rfl (is_st r89 rfl rfl)) (ev_sg (D := (up D87 70 31 (wr ((D87 70 31) - 1)))) 41 ⟨by decide, by decide⟩ g94) (Nat.le_trans (by decide) (Nat.le_trans hc hd)) r89) (fun s92 r93 => ?_)
            refine okc (m_ifne (qt := 168) (qf := 164) rfl rfl (Ev_rg (ev_sg (D := (up D87 70 31 (wr ((D87 70 31) - 1)))) 41 ⟨by decide, by decide⟩ g94) r89) rfl rfl) (fun c95 => ?_) (fun c95 => ?_)
            · replace hp := ip c95 hp
              refine ok (m_iconst (q := 165) rfl rfl rfl) ?_
              refine ok (m_goto (q := 169) rfl rfl rfl) ?_
              exact ok (m_reti rfl rfl) (ok_iq r93 ⟨by decide, by decide⟩ hp)
            · replace hp := iq c95 hp
              refine ok (m_iload_n (q := 169) rfl rfl rfl rfl) ?_
              exact ok (m_reti rfl rfl) (ok_iq r93 (Ev_rg e88 r82) hp)
      · replace hp := iq c78 hp
        refine ok (m_aload_n (q := 171) rfl rfl rfl rfl) ?_
        refine ok (m_iconst (q := 172) rfl rfl rfl) ?_
        obtain ⟨g98, hp⟩ := hp
        refine oke (e_ci (x_cv (q := 175) rfl rfl rfl rfl rfl rfl rfl rfl rfl rfl (is_st r2 rfl rfl)) (ev_X12_node (D := (u_word D)) 3 ⟨by decide, by decide⟩ g98) (Nat.le_trans (by decide) (Nat.le_trans hc hd)) r2) (fun s96 r97 => ?_)
        refine ok (m_istore_n (q := 176) (lo' := [some (am_r (some 70)), some (am_i (wz (v_X12_node (u_word D) 3))), none]) rfl rfl rfl rfl rfl) ?_
        refine ok (m_aload_n (q := 177) rfl rfl rfl rfl) ?_
        refine ok (m_gfc (q := 180) rfl rfl rfl r97 rfl rfl rfl) ?_
        refine ok (m_iload_n (q := 181) rfl rfl rfl rfl) ?_
        refine ok (m_aload_n (q := 182) rfl rfl rfl rfl) ?_
        obtain ⟨g101, hp⟩ := hp
        refine oke (e_cl (x_cv (q := 185) rfl rfl rfl rfl rfl rfl rfl rfl rfl rfl (is_st r97 rfl rfl)) (ev_X12_word (D := (u_X12_node (u_word D) 3)) g101) (Nat.le_trans (by decide) (Nat.le_trans hc hd)) r97) (fun s99 r100 => ?_)
        refine oke (e_ci (x_cs (q := 188) rfl rfl rfl rfl rfl rfl rfl rfl rfl) (ev_X12_told (D := (u_word (u_X12_node (u_word D) 3))) (w_word (u_X12_node (u_word D) 3))) (Nat.le_trans (by decide) (Nat.le_trans hc hd)) r100) (fun s102 r103 => ?_)
        obtain ⟨g106, hp⟩ := hp
        refine oke (e_ias (q := 189) rfl rfl rfl r103 rfl rfl g106 (Ev_rg (ev_X12_told (D := (u_word (u_X12_node (u_word D) 3))) (w_word (u_X12_node (u_word D) 3))) r100)) (fun s105 r104 => ?_)
        refine ok (m_aload_n (q := 190) rfl rfl rfl rfl) ?_
        refine ok (m_gfc (q := 193) rfl rfl rfl r104 rfl rfl rfl) ?_
        refine ok (m_iload_n (q := 194) rfl rfl rfl rfl) ?_
        refine ok (m_ials (q := 195) (w := v_X12_told (u_word (u_X12_node (u_word D) 3)) (w_word (u_X12_node (u_word D) 3))) rfl rfl rfl r104 rfl rfl g106 up_eq) ?_
        refine ok (m_iconst (q := 196) rfl rfl rfl) ?_
        refine okc (m_cmpne (qt := 201) (qf := 199) rfl rfl (rg_c (Rp_rg r104 102 (v_X12_node (u_word D) 3)) up_eq) ⟨by decide, by decide⟩ rfl rfl) (fun c107 => ?_) (fun c107 => ?_)
        · replace hp := ip c107 hp
          refine ok (m_iconst (q := 200) rfl rfl rfl) ?_
          exact ok (m_reti rfl rfl) (ok_iq r104 ⟨by decide, by decide⟩ hp)
        · replace hp := iq c107 hp
          refine ok (m_aload_n (q := 202) rfl rfl rfl rfl) ?_
          refine ok (m_aload_n (q := 203) rfl rfl rfl rfl) ?_
          refine ok (m_gfs (z := 49) (q := 206) (w := (u_word (u_X12_node (u_word D) 3)) 70 49) rfl rfl rfl r104 rfl rfl rfl rfl rfl) ?_
          refine oke (e_pfs (q := 209) rfl rfl rfl r104 rfl rfl rfl rfl (show rg ((u_word (u_X12_node (u_word D) 3)) 70 49) from Rp_rg r104 70 49)) (fun s109 r108 => ?_)
          refine ok (m_aload_n (q := 210) rfl rfl rfl rfl) ?_
          refine ok (m_gfc (q := 213) rfl rfl rfl r108 rfl rfl rfl) ?_
          refine ok (m_iload_n (q := 214) rfl rfl rfl rfl) ?_
          refine ok (m_aload_n (q := 215) rfl rfl rfl rfl) ?_
          refine ok (m_bipush (q := 217) rfl rfl rfl) ?_
          obtain ⟨g112, hp⟩ := hp
          refine oke (e_ci (x_cv (q := 220) rfl rfl rfl rfl rfl rfl rfl rfl rfl rfl (is_st r108 rfl rfl)) (ev_sg (D := (up (up (u_word (u_X12_node (u_word D) 3)) 102 (v_X12_node (u_word D) 3) (v_X12_told (u_word (u_X12_node (u_word D) 3)) (w_word (u_X12_node (u_word D) 3)))) 70 30 ((u_word (u_X12_node (u_word D) 3)) 70 49))) 60 ⟨by decide, by decide⟩ g112) (Nat.le_trans (by decide) (Nat.le_trans hc hd)) r108) (fun s110 r111 => ?_)
          refine okc (m_ifeq (qt := 228) (qf := 223) rfl rfl (Ev_rg (ev_sg (D := (up (up (u_word (u_X12_node (u_word D) 3)) 102 (v_X12_node (u_word D) 3) (v_X12_told (u_word (u_X12_node (u_word D) 3)) (w_word (u_X12_node (u_word D) 3)))) 70 30 ((u_word (u_X12_node (u_word D) 3)) 70 49))) 60 ⟨by decide, by decide⟩ g112) r108) rfl rfl) (fun c113 => ?_) (fun c113 => ?_)
          · replace hp := ip c113 hp
            refine ok (m_aload_n (q := 229) rfl rfl rfl rfl) ?_
            refine ok (m_bipush (q := 231) rfl rfl rfl) ?_
            obtain ⟨g116, hp⟩ := hp
            refine oke (e_ci (x_cv (q := 234) rfl rfl rfl rfl rfl rfl rfl rfl rfl rfl (is_st r111 rfl rfl)) (ev_sg (D := (u_sg (up (up (u_word (u_X12_node (u_word D) 3)) 102 (v_X12_node (u_word D) 3) (v_X12_told (u_word (u_X12_node (u_word D) 3)) (w_word (u_X12_node (u_word D) 3)))) 70 30 ((u_word (u_X12_node (u_word D) 3)) 70 49)) 60)) 62 ⟨by decide, by decide⟩ g116) (Nat.le_trans (by decide) (Nat.le_trans hc hd)) r111) (fun s114 r115 => ?_)
            refine okc (m_ifeq (qt := 242) (qf := 237) rfl rfl (Ev_rg (ev_sg (D := (u_sg (up (up (u_word (u_X12_node (u_word D) 3)) 102 (v_X12_node (u_word D) 3) (v_X12_told (u_word (u_X12_node (u_word D) 3)) (w_word (u_X12_node (u_word D) 3)))) 70 30 ((u_word (u_X12_node (u_word D) 3)) 70 49)) 60)) 62 ⟨by decide, by decide⟩ g116) r111) rfl rfl) (fun c117 => ?_) (fun c117 => ?_)
            · replace hp := ip c117 hp
              refine ok (m_aload_n (q := 243) rfl rfl rfl rfl) ?_
              refine ok (m_bipush (q := 245) rfl rfl rfl) ?_
              obtain ⟨g120, hp⟩ := hp
              refine oke (e_ci (x_cv (q := 248) rfl rfl rfl rfl rfl rfl rfl rfl rfl rfl (is_st r115 rfl rfl)) (ev_sg (D := (u_sg (u_sg (up (up (u_word (u_X12_node (u_word D) 3)) 102 (v_X12_node (u_word D) 3) (v_X12_told (u_word (u_X12_node (u_word D) 3)) (w_word (u_X12_node (u_word D) 3)))) 70 30 ((u_word (u_X12_node (u_word D) 3)) 70 49)) 60) 62)) 61 ⟨by decide, by decide⟩ g120) (Nat.le_trans (by decide) (Nat.le_trans hc hd)) r115) (fun s118 r119 => ?_)
              refine okc (m_ifeq (qt := 256) (qf := 251) rfl rfl (Ev_rg (ev_sg (D := (u_sg (u_sg (up (up (u_word (u_X12_node (u_word D) 3)) 102 (v_X12_node (u_word D) 3) (v_X12_told (u_word (u_X12_node (u_word D) 3)) (w_word (u_X12_node (u_word D) 3)))) 70 30 ((u_word (u_X12_node (u_word D) 3)) 70 49)) 60) 62)) 61 ⟨by decide, by decide⟩ g120) r115) rfl rfl) (fun c121 => ?_) (fun c121 => ?_)
              · replace hp := ip c121 hp
                refine ok (m_iconst (q := 257) rfl rfl rfl) ?_
                refine oke (e_ias (q := 258) rfl rfl rfl r119 rfl rfl g106 ⟨by decide, by decide⟩) (fun s123 r122 => ?_)
                refine ok (m_aload_n (q := 259) rfl rfl rfl rfl) ?_
                refine ok (m_gfc (q := 262) rfl rfl rfl r122 rfl rfl rfl) ?_
                refine ok (m_iload_n (q := 263) rfl rfl rfl rfl) ?_
                refine ok (m_ials (q := 264) (w := (-1)) rfl rfl rfl r122 rfl rfl g106 up_eq) ?_
                refine ok (m_iconst (q := 265) rfl rfl rfl) ?_
                refine ok ((m_cmpeq (qt := 275) (qf := 268) rfl rfl (rg_c (Rp_rg r122 103 (v_X12_node (u_word D) 3)) up_eq) ⟨by decide, by decide⟩ rfl rfl).trans (if_pos (by decide))) ?_
                refine ok (m_iconst (q := 276) rfl rfl rfl) ?_
                exact ok (m_reti rfl rfl) (ok_iq r122 ⟨by decide, by decide⟩ hp)
              · replace hp := iq c121 hp
                refine ok (m_bipush (q := 253) rfl rfl rfl) ?_
                refine ok (m_goto (q := 257) rfl rfl rfl) ?_
                refine oke (e_ias (q := 258) rfl rfl rfl r119 rfl rfl g106 ⟨by decide, by decide⟩) (fun s125 r124 => ?_)
                refine ok (m_aload_n (q := 259) rfl rfl rfl rfl) ?_
                refine ok (m_gfc (q := 262) rfl rfl rfl r124 rfl rfl rfl) ?_
                refine ok (m_iload_n (q := 263) rfl rfl rfl rfl) ?_
                refine ok (m_ials (q := 264) (w := 61) rfl rfl rfl r124 rfl rfl g106 up_eq) ?_
                refine ok (m_iconst (q := 265) rfl rfl rfl) ?_
                refine ok ((m_cmpeq (qt := 275) (qf := 268) rfl rfl (rg_c (Rp_rg r124 103 (v_X12_node (u_word D) 3)) up_eq) ⟨by decide, by decide⟩ rfl rfl).trans (if_neg (by decide))) ?_
                refine ok (m_aload_n (q := 269) rfl rfl rfl rfl) ?_
                obtain ⟨g128, hp⟩ := hp
                refine oke (e_ci (x_cv (q := 272) rfl rfl rfl rfl rfl rfl rfl rfl rfl rfl (is_st r124 rfl rfl)) (ev_X12_takesPlain (D := (up (u_sg (u_sg (u_sg (up (up (u_word (u_X12_node (u_word D) 3)) 102 (v_X12_node (u_word D) 3) (v_X12_told (u_word (u_X12_node (u_word D) 3)) (w_word (u_X12_node (u_word D) 3)))) 70 30 ((u_word (u_X12_node (u_word D) 3)) 70 49)) 60) 62) 61) 103 (v_X12_node (u_word D) 3) 61)) g128) (Nat.le_trans (by decide) (Nat.le_trans hc hd)) r124) (fun s126 r127 => ?_)
                refine okc (m_ifne (qt := 277) (qf := 275) rfl rfl (Ev_rg (ev_X12_takesPlain (D := (up (u_sg (u_sg (u_sg (up (up (u_word (u_X12_node (u_word D) 3)) 102 (v_X12_node (u_word D) 3) (v_X12_told (u_word (u_X12_node (u_word D) 3)) (w_word (u_X12_node (u_word D) 3)))) 70 30 ((u_word (u_X12_node (u_word D) 3)) 70 49)) 60) 62) 61) 103 (v_X12_node (u_word D) 3) 61)) g128) r124) rfl rfl) (fun c129 => ?_) (fun c129 => ?_)
                · replace hp := ip c129 hp
                  refine ok (m_iconst (q := 276) rfl rfl rfl) ?_
                  exact ok (m_reti rfl rfl) (ok_iq r127 ⟨by decide, by decide⟩ hp)
                · replace hp := iq c129 hp
                  refine ok (m_aload_n (q := 278) rfl rfl rfl rfl) ?_
                  refine ok (m_gfc (q := 281) rfl rfl rfl r127 rfl rfl rfl) ?_
                  refine ok (m_iload_n (q := 282) rfl rfl rfl rfl) ?_
                  refine ok (m_aload_n (q := 283) rfl rfl rfl rfl) ?_
                  refine ok (m_gfs (z := 50) (q := 286) rfl rfl rfl r127 rfl rfl rfl rfl rfl) ?_
                  refine oke (e_ias (q := 287) rfl rfl rfl r127 rfl rfl g106 (Rp_rg r127 70 50)) (fun s131 r130 => ?_)
                  refine ok (m_iload_n (q := 288) rfl rfl rfl rfl) ?_
                  exact ok (m_reti rfl rfl) (ok_iq r130 (Ev_rg (ev_X12_node (D := (u_word D)) 3 ⟨by decide, by decide⟩ g98) r2) hp)
            · replace hp := iq c117 hp
              refine ok (m_bipush (q := 239) rfl rfl rfl) ?_
              refine ok (m_goto (q := 257) rfl rfl rfl) ?_
              refine oke (e_ias (q := 258) rfl rfl rfl r115 rfl rfl g106 ⟨by decide, by decide⟩) (fun s133 r132 => ?_)
              refine ok (m_aload_n (q := 259) rfl rfl rfl rfl) ?_
              refine ok (m_gfc (q := 262) rfl rfl rfl r132 rfl rfl rfl) ?_
              refine ok (m_iload_n (q := 263) rfl rfl rfl rfl) ?_
              refine ok (m_ials (q := 264) (w := 62) rfl rfl rfl r132 rfl rfl g106 up_eq) ?_
              refine ok (m_iconst (q := 265) rfl rfl rfl) ?_
              refine ok ((m_cmpeq (qt := 275) (qf := 268) rfl rfl (rg_c (Rp_rg r132 103 (v_X12_node (u_word D) 3)) up_eq) ⟨by decide, by decide⟩ rfl rfl).trans (if_neg (by decide))) ?_
              refine ok (m_aload_n (q := 269) rfl rfl rfl rfl) ?_
              obtain ⟨g136, hp⟩ := hp
              refine oke (e_ci (x_cv (q := 272) rfl rfl rfl rfl rfl rfl rfl rfl rfl rfl (is_st r132 rfl rfl)) (ev_X12_takesPlain (D := (up (u_sg (u_sg (up (up (u_word (u_X12_node (u_word D) 3)) 102 (v_X12_node (u_word D) 3) (v_X12_told (u_word (u_X12_node (u_word D) 3)) (w_word (u_X12_node (u_word D) 3)))) 70 30 ((u_word (u_X12_node (u_word D) 3)) 70 49)) 60) 62) 103 (v_X12_node (u_word D) 3) 62)) g136) (Nat.le_trans (by decide) (Nat.le_trans hc hd)) r132) (fun s134 r135 => ?_)
              refine okc (m_ifne (qt := 277) (qf := 275) rfl rfl (Ev_rg (ev_X12_takesPlain (D := (up (u_sg (u_sg (up (up (u_word (u_X12_node (u_word D) 3)) 102 (v_X12_node (u_word D) 3) (v_X12_told (u_word (u_X12_node (u_word D) 3)) (w_word (u_X12_node (u_word D) 3)))) 70 30 ((u_word (u_X12_node (u_word D) 3)) 70 49)) 60) 62) 103 (v_X12_node (u_word D) 3) 62)) g136) r132) rfl rfl) (fun c137 => ?_) (fun c137 => ?_)
              · replace hp := ip c137 hp
                refine ok (m_iconst (q := 276) rfl rfl rfl) ?_
                exact ok (m_reti rfl rfl) (ok_iq r135 ⟨by decide, by decide⟩ hp)
              · replace hp := iq c137 hp
                refine ok (m_aload_n (q := 278) rfl rfl rfl rfl) ?_
                refine ok (m_gfc (q := 281) rfl rfl rfl r135 rfl rfl rfl) ?_
                refine ok (m_iload_n (q := 282) rfl rfl rfl rfl) ?_
                refine ok (m_aload_n (q := 283) rfl rfl rfl rfl) ?_
                refine ok (m_gfs (z := 50) (q := 286) rfl rfl rfl r135 rfl rfl rfl rfl rfl) ?_
                refine oke (e_ias (q := 287) rfl rfl rfl r135 rfl rfl g106 (Rp_rg r135 70 50)) (fun s139 r138 => ?_)
                refine ok (m_iload_n (q := 288) rfl rfl rfl rfl) ?_
                exact ok (m_reti rfl rfl) (ok_iq r138 (Ev_rg (ev_X12_node (D := (u_word D)) 3 ⟨by decide, by decide⟩ g98) r2) hp)
          · replace hp := iq c113 hp
            refine ok (m_bipush (q := 225) rfl rfl rfl) ?_
            refine ok (m_goto (q := 257) rfl rfl rfl) ?_
            refine oke (e_ias (q := 258) rfl rfl rfl r111 rfl rfl g106 ⟨by decide, by decide⟩) (fun s141 r140 => ?_)
            refine ok (m_aload_n (q := 259) rfl rfl rfl rfl) ?_
            refine ok (m_gfc (q := 262) rfl rfl rfl r140 rfl rfl rfl) ?_
            refine ok (m_iload_n (q := 263) rfl rfl rfl rfl) ?_
            refine ok (m_ials (q := 264) (w := 60) rfl rfl rfl r140 rfl rfl g106 up_eq) ?_
            refine ok (m_iconst (q := 265) rfl rfl rfl) ?_
            refine ok ((m_cmpeq (qt := 275) (qf := 268) rfl rfl (rg_c (Rp_rg r140 103 (v_X12_node (u_word D) 3)) up_eq) ⟨by decide, by decide⟩ rfl rfl).trans (if_neg (by decide))) ?_
            refine ok (m_aload_n (q := 269) rfl rfl rfl rfl) ?_
            obtain ⟨g144, hp⟩ := hp
            refine oke (e_ci (x_cv (q := 272) rfl rfl rfl rfl rfl rfl rfl rfl rfl rfl (is_st r140 rfl rfl)) (ev_X12_takesPlain (D := (up (u_sg (up (up (u_word (u_X12_node (u_word D) 3)) 102 (v_X12_node (u_word D) 3) (v_X12_told (u_word (u_X12_node (u_word D) 3)) (w_word (u_X12_node (u_word D) 3)))) 70 30 ((u_word (u_X12_node (u_word D) 3)) 70 49)) 60) 103 (v_X12_node (u_word D) 3) 60)) g144) (Nat.le_trans (by decide) (Nat.le_trans hc hd)) r140) (fun s142 r143 => ?_)
            refine okc (m_ifne (qt := 277) (qf := 275) rfl rfl (Ev_rg (ev_X12_takesPlain (D := (up (u_sg (up (up (u_word (u_X12_node (u_word D) 3)) 102 (v_X12_node (u_word D) 3) (v_X12_told (u_word (u_X12_node (u_word D) 3)) (w_word (u_X12_node (u_word D) 3)))) 70 30 ((u_word (u_X12_node (u_word D) 3)) 70 49)) 60) 103 (v_X12_node (u_word D) 3) 60)) g144) r140) rfl rfl) (fun c145 => ?_) (fun c145 => ?_)
            · replace hp := ip c145 hp
              refine ok (m_iconst (q := 276) rfl rfl rfl) ?_
              exact ok (m_reti rfl rfl) (ok_iq r143 ⟨by decide, by decide⟩ hp)
            · replace hp := iq c145 hp
              refine ok (m_aload_n (q := 278) rfl rfl rfl rfl) ?_
              refine ok (m_gfc (q := 281) rfl rfl rfl r143 rfl rfl rfl) ?_
              refine ok (m_iload_n (q := 282) rfl rfl rfl rfl) ?_
              refine ok (m_aload_n (q := 283) rfl rfl rfl rfl) ?_
              refine ok (m_gfs (z := 50) (q := 286) rfl rfl rfl r143 rfl rfl rfl rfl rfl) ?_
              refine oke (e_ias (q := 287) rfl rfl rfl r143 rfl rfl g106 (Rp_rg r143 70 50)) (fun s147 r146 => ?_)
              refine ok (m_iload_n (q := 288) rfl rfl rfl rfl) ?_
              exact ok (m_reti rfl rfl) (ok_iq r146 (Ev_rg (ev_X12_node (D := (u_word D)) 3 ⟨by decide, by decide⟩ g98) r2) hp)
theorem not_iff (hT : Txt T N) (h : Mst T N a D) : o_lcmp (w_word D) (7237492 : Int64) = 0 ↔ Wd T N a wNot := by
  have ht := Mst_tok hT h
  rw [lc_eq, (word_m h ht.1.1 ht.1.2).1, show (7237492 : Int64) = Int64.ofNat (pw wNot) by decide]
  exact pW_iff (by decide) ht.1.2
theorem ixw_len : ∀ (ws : List (List Int)) (j : Int), 0 ≤ j → ixw T N a ws j ≠ -1 → ∃ w ∈ ws, a + w.length = tE T N a
  | [], j, _, h => absurd rfl h
  | w :: ws, j, h0, h => by
    unfold ixw at h
    by_cases q : mt T (tE T N a) a w = true ∧ a + w.length = tE T N a
    · exact ⟨w, by simp, q.2⟩
    · rw [if_neg q] at h
      obtain ⟨v, v1, v2⟩ := ixw_len ws (j + 1) (by omega) h
      exact ⟨v, List.mem_cons_of_mem _ v1, v2⟩
theorem lf_len (ht : Tok T N a) (h : Lok T N a) : Tok T N (lfE T N a) ∧ a + 5 ≤ lfE T N a ∧ (0 ≤ wix T N a 8 ∧ wix T N a 8 < 6) ∧ (0 ≤ cix T N (tN T N a) ∧ cix T N (tN T N a) < 3) ∧ (0 ≤ lfV T N a ∧ lfV T N a ≤ 9999) := by
  obtain ⟨h1, h2, h3⟩ := h
  obtain ⟨t1, t2, t3, t4⟩ := tN_tok ht
  obtain ⟨s1, s2, s3, s4⟩ := tN_tok t1
  obtain ⟨r1, r2, r3, r4⟩ := tN_tok s1
  have hk := (lf_w ht h1).2
  have hE : lfE T N a = tN T N (tN T N (tN T N a)) := by unfold lfE; rw [if_neg h1, if_neg h2]; exact if_pos h3
  have hw : ixw T N a (wds 8) 0 ≠ -1 := by unfold wix at h1; rw [if_pos hk] at h1; exact h1
  obtain ⟨w, w1, w2⟩ := ixw_len (wds 8) 0 (Int.le_refl _) hw
  have w3 : ∀ w ∈ wds 8, 3 ≤ w.length := by decide
  have w4 := w3 w w1
  have hb : tN T N a < N := by
    unfold cix at h2
    by_cases q : tN T N a < N
    · exact q
    · rw [if_neg q] at h2; exact absurd rfl h2
  have hc : tN T N (tN T N a) < N := by
    have := h3.1
    unfold tK at this
    by_cases q : tN T N (tN T N a) < N
    · exact q
    · rw [if_neg q] at this; omega
  have s5 := s4 hb
  have r5 := r4 hc
  have hwb := wix_b (T := T) (N := N) (a := a) 8
  have hwl : ((wds 8).length : Int) = 6 := rfl
  have hcb := cix_b (T := T) (N := N) (a := tN T N a)
  have hv := Nm_b h3 s1.1.2
  refine ⟨by rw [hE]; exact r1, by rw [hE]; omega, by omega, by omega, ?_⟩
  unfold lfV
  omega
theorem lfE_tok (ht : Tok T N a) : Tok T N (lfE T N a) ∧ a ≤ lfE T N a := by
  obtain ⟨t1, t2, t3, t4⟩ := tN_tok ht
  obtain ⟨s1, s2, s3, s4⟩ := tN_tok t1
  obtain ⟨r1, r2, r3, r4⟩ := tN_tok s1
  unfold lfE
  split
  · exact ⟨ht, Int.le_refl _⟩
  · split
    · exact ⟨t1, t2⟩
    · split
      · exact ⟨r1, by omega⟩
      · exact ⟨s1, by omega⟩
theorem lf_ok {d : Nat} (ht : Tok T N a) (h : Lok T N a) : Rok (2 * (10 - d) + 1) a (lfE T N a) (some (lfR T N a)) := by
  obtain ⟨l1, l2, l3, l4, l5⟩ := lf_len ht h
  obtain ⟨m1, m2, m3⟩ := lf_sem l3 l4 l5
  refine ⟨by omega, by show ((1 : Nat) : Int) ≤ _; omega, fun c hc => ?_, fun f s => ?_⟩
  · have : c = lfc (wix T N a 8) (cix T N (tN T N a)) (lfV T N a) := by simpa [lfR] using hc
    rw [this]; exact m1
  · have e : ev1 f s (lfc (wix T N a 8) (cix T N (tN T N a)) (lfV T N a)) = lfv f (wix T N a 8) (lfs (cix T N (tN T N a))) (lfV T N a) :: s := by
      unfold ev1
      rw [if_neg (by omega), if_neg (by omega), if_neg (by omega), m3]
    refine ⟨e, LB_one (by omega) ?_⟩
    rw [e]; simp only [List.length_cons]; omega
theorem sin_lf {d : Nat} (hd : d ≤ 10) (hT : Txt T N) (hw : ¬ Wd T N a wNot) (hs : ¬ Sgn T N a 40) : (Lok T N a → MR T N 163 (4 + 3 * (10 - d)) (2 * (10 - d) + 1) d 0 (8 * d) a (some (lfR T N a)) (lfE T N a)) ∧ (¬ Lok T N a → MR T N 163 (4 + 3 * (10 - d)) (2 * (10 - d) + 1) d 0 (8 * d) a none (lfE T N a)) := by
  have hN := hT.1
  have main : ∀ (n : Nat) (A : aA) (D : aD), Mst T N a D → 0 ≤ D 70 27 → 25 * D 70 27 ≤ 104000 + 21 * a + 60 * d - 0 → D 70 31 = d → ∃ x D', Ev (n + 1) (4 + 3 * (10 - d)) 163 [am_r (some 70)] A D (ri x) A D' ∧ Mfr (D 70 27) D D' ∧ (Lok T N a → Mo T N (2 * (10 - d) + 1) D D' a (8 * d) x (lfE T N a) (some (lfR T N a))) ∧ (¬ Lok T N a → Mo T N (2 * (10 - d) + 1) D D' a (8 * d) x (lfE T N a) none) := by
    intro n A D hm h27 hpre h31
    have ht := Mst_tok hT hm
    have ta := ht.1
    obtain ⟨w1, w2, w3, w4⟩ := uword_m hT hm
    have c0 : (u_word D) 70 27 = D 70 27 := w2.2 27 (by decide) (by decide) (by decide)
    obtain ⟨x, D', l1, l2, l3, l4, l5⟩ := leaf_m hT w1 (by omega) (by omega)
    rw [c0] at l2 l4
    refine ⟨x, D', ?_, (w2.fr _).trans l2, fun q => ?_, fun q => l5 q⟩
    · have := rl_X12_single (n := n) (A := A) (D := D) (D' := D') (c := 3 + 3 * (10 - d)) (by omega) (x := x) ⟨Mst_p hT hm, by
        rw [if_neg (fun z => hw ((not_iff hT hm).mp z)), w3, w1.2.1]
        by_cases g : N ≤ a
        · rw [if_pos g]; exact l1
        · rw [if_neg g]
          refine ⟨⟨by omega, by omega⟩, ?_⟩
          rw [w1.1 a (by omega) (by omega), if_neg (fun z => hs ⟨by omega, z⟩)]
          exact l1⟩
      exact Ev_le this (by omega)
    · obtain ⟨m1, m2, m3, m4, m5, m6, m7, m8⟩ := l4 q
      obtain ⟨g1, g2, g3, g4, g5⟩ := lf_len ht q
      refine ⟨m1, m2, by rw [l3, w2.2 31 (by decide) (by decide) (by decide)], by omega, by omega, m5, ?_⟩
      refine HN_le (d := 1) (by omega) ⟨⟨h27, by omega⟩, Or.inr (Or.inr (Or.inr ⟨m4, by rw [m6]; exact g3, fun f => ?_⟩))⟩
      rw [m6, m7, m8]; rfl
  refine ⟨fun q n A D h1 h2 h3 h4 => ?_, fun q n A D h1 h2 h3 h4 => ?_⟩
  · obtain ⟨x, D', m1, m2, m3, m4⟩ := main n A D h1 h2 h3 h4
    exact ⟨x, D', m1, m2, m3 q⟩
  · obtain ⟨x, D', m1, m2, m3, m4⟩ := main n A D h1 h2 h3 h4
    exact ⟨x, D', m1, m2, m4 q⟩
theorem sin_deep (hT : Txt T N) (hw : Wd T N a wNot ∨ Sgn T N a 40) : MR T N 163 (4 + 3 * (10 - 10)) (2 * (10 - 10) + 1) 10 0 (8 * 10) a none a := by
  intro n A D hm h27 hpre h31
  have hN := hT.1
  have ht := Mst_tok hT hm
  have ta := ht.1
  obtain ⟨w1, w2, w3, w4⟩ := uword_m hT hm
  have e31 : (u_word D) 70 31 = 10 := by rw [w2.2 31 (by decide) (by decide) (by decide), h31]; rfl
  refine ⟨-1, u_word D, ?_, w2.fr _, rfl, w3⟩
  have := rl_X12_single (n := n) (A := A) (D := D) (D' := u_word D) (c := 3) (by omega) (x := -1) ⟨Mst_p hT hm, by
    by_cases q : Wd T N a wNot
    · rw [if_pos ((not_iff hT hm).mpr q), if_pos e31]; exact ⟨rfl, rfl⟩
    · have hs : Sgn T N a 40 := by
        rcases hw with z | z
        · exact absurd z q
        · exact z
      have s1 := hs.1
      rw [if_neg (fun z => q ((not_iff hT hm).mp z)), w3, w1.2.1, if_neg (by omega)]
      refine ⟨⟨by omega, by omega⟩, ?_⟩
      rw [w1.1 a (by omega) s1, if_pos hs.2, if_pos e31]; exact ⟨rfl, rfl⟩⟩
  exact Ev_le this (by omega)
theorem sin_not {d : Nat} (hd : d < 10) (hT : Txt T N) (hw : Wd T N a wNot) {r : Option Itm} {b : Int} (h : Sd T N (d + 1) (tN T N a) r b) : MR T N 163 (4 + 3 * (10 - d)) (2 * (10 - d) + 1) d 0 (8 * d) a (notR r) b := by
  intro n A D hm h27 hpre h31
  have hN := hT.1
  have ht := Mst_tok hT hm
  have ta := ht.1
  obtain ⟨t1, t2, ho, _, x1⟩ := h
  have tb := t1.1
  obtain ⟨l1, l2⟩ := Wd_tn ht hw
  have l3 : ((wNot).length : Int) = 3 := rfl
  obtain ⟨w1, w2, w3, w4⟩ := uword_m hT hm
  have eb := tE_b (T := T) ht.1.2
  have e31 : (u_word D) 70 31 = d := by rw [w2.2 31 (by decide) (by decide) (by decide), h31]
  have e27 : (u_word D) 70 27 = D 70 27 := w2.2 27 (by decide) (by decide) (by decide)
  have w49 : (u_word D) 70 49 = tE T N a := by rw [w4, (tE_let hw.1).1]
  have hp := Mst_p hT hm
  have rule := @rl_X12_single n A D
  rw [e31, w49] at rule
  generalize hW : u_word D = W at *
  have hne : ¬ ((d : Int) = 10) := by omega
  have hwd : wr ((d : Int) + 1) = (d : Int) + 1 := wr_id (by omega) (by omega)
  rw [hwd] at rule
  have m3 : Mst T N (tN T N a) (up (up W 70 31 ((d : Int) + 1)) 70 30 (tE T N a)) := by
    have q : Mst T N (tN T N a) (up W 70 30 (tE T N a)) := Mst_of (b := tE T N a) w1 ((Mfl.refl W).up (Or.inl rfl)) up_eq (by omega) eb.2.1
    exact Mst_cg q (by rw [up_cf (by decide), up_cf (by decide), up_cf (by decide)]) (by rw [up_i (by decide), up_i (by decide), up_i (by decide)]) (by rw [up_eq, up_eq])
  have f1 : Mfr (D 70 27) D (up (up W 70 31 ((d : Int) + 1)) 70 30 (tE T N a)) := ((w2.fr _).upf (by omega)).upf (by omega)
  have e27' : (up (up W 70 31 ((d : Int) + 1)) 70 30 (tE T N a)) 70 27 = D 70 27 := by rw [up_i (by decide), up_i (by decide)]; exact e27
  have e31' : (up (up W 70 31 ((d : Int) + 1)) 70 30 (tE T N a)) 70 31 = (d : Int) + 1 := by rw [up_i (by decide), up_eq]
  generalize hE : up (up W 70 31 ((d : Int) + 1)) 70 30 (tE T N a) = E at *
  obtain ⟨n1, n2, n3, n4, n5, n6, n7, n8⟩ := nod_m (D := E) (k := 2) (by omega) (by omega)
  rw [e27'] at n1 n3 n4 n5 n6 n7
  rw [n1] at rule
  have m4 : Mst T N (tN T N a) (u_X12_node E 2) := Mst_cg m3 (n3.1 107 (by decide) (Or.inr (by decide))) (n8 29 (by decide)) (n8 30 (by decide))
  have g31 : (u_X12_node E 2) 70 31 = ((d + 1 : Nat) : Int) := by rw [n8 31 (by decide), e31']; omega
  generalize hF : u_X12_node E 2 = F at *
  obtain ⟨x, G, v1, v2, v3⟩ := x1 n A F m4 (by omega) (by omega) g31
  have f2 : Mfr (D 70 27) D G := (f1.trans n3).trans (v2.low (by omega))
  have fin : ∀ x' D', (if x = (-1) then (x' = (-1) ∧ D' = (up (up G 100 (D 70 27) x) 70 31 (wr ((G 70 31) - 1)))) else (x' = D 70 27 ∧ D' = (up (up G 100 (D 70 27) x) 70 31 (wr ((G 70 31) - 1))))) → Ev (n + 1) (4 + 3 * (10 - d)) 163 [am_r (some 70)] A D (ri x') A D' := by
    intro x' D' q
    have := rule (D' := D') (c := 3 + 3 * (10 - d)) (by omega) (x := x') ⟨hp, by
      rw [if_pos ((not_iff hT hm).mpr hw), if_neg hne]
      exact ⟨n2, x, G, Ev_le v1 (by omega), ⟨h27, by omega⟩, q⟩⟩
    exact Ev_le this (by omega)
  have f3 : ∀ v, Mfr (D 70 27) D (up (up G 100 (D 70 27) x) 70 31 v) := fun v => (f2.upn ⟨by decide, by decide⟩ (Int.le_refl _)).upf (by omega)
  cases r with
  | none =>
    obtain ⟨z1, z2⟩ := v3
    exact ⟨-1, _, fin (-1) _ (by rw [if_pos z1]; exact ⟨rfl, rfl⟩), f3 _, rfl, by rw [up_i (by decide), up_c (by decide)]; exact z2⟩
  | some v =>
    obtain ⟨z1, z2, z3, z4, z5, z6, z7⟩ := v3
    rw [n4] at z1 z4 z5 z6 z7
    have k1 : ¬ x = -1 := by omega
    have hwr : wr (G 70 31 - 1) = (d : Int) := by rw [z3, g31, wr_id (by omega) (by omega)]; omega
    refine ⟨D 70 27, _, fin (D 70 27) _ (by rw [if_neg k1]; exact ⟨rfl, rfl⟩), f3 _, rfl, ?_, ?_, ?_, ?_, ?_, ?_⟩
    · exact Mst_cg z2 (by rw [up_cf (by decide), up_cf (by decide)]) (by rw [up_i (by decide), up_c (by decide)]) (by rw [up_i (by decide), up_c (by decide)])
    · rw [up_eq, hwr, h31]
    · rw [up_i (by decide), up_c (by decide)]; omega
    · rw [up_i (by decide), up_c (by decide)]; omega
    · rw [up_c (by decide), up_c (by decide), v2.2.2 101 (by decide) (by decide) _ (by omega)]; exact n7
    · have e27g : (up (up G 100 (D 70 27) x) 70 31 (wr (G 70 31 - 1))) 70 27 = G 70 27 := by rw [up_i (by decide), up_c (by decide)]
      rw [e27g]
      refine HN_le (d := (2 * (10 - (d + 1)) + 1) + 1) (by omega) ⟨⟨h27, by omega⟩, Or.inr (Or.inr (Or.inl ⟨?_, v.1, G 70 27, ?_, Int.le_refl _, ?_, fun f => rfl⟩))⟩
      · rw [up_c (by decide), up_c (by decide), v2.2.2 99 (by decide) (by decide) _ (by omega)]; exact n5
      · rw [up_c (by decide), up_eq]; omega
      · rw [up_c (by decide), up_eq, z1]
        refine HN_cg _ _ _ _ (fun i i1 i2 => ⟨?_, ?_, ?_, ?_, ?_⟩) (fun i i1 i2 => ?_) z7
        · rw [up_c (by decide), up_c (by decide)]
        · rw [up_c (by decide), up_i (by omega)]
        · rw [up_c (by decide), up_c (by decide)]
        · rw [up_c (by decide), up_c (by decide)]
        · rw [up_c (by decide), up_c (by decide)]
        · rw [up_c (by decide), up_c (by decide)]
end Msi
