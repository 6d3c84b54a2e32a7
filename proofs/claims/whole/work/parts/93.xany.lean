/-! The class reads joined conditions. -/
section Xan
variable {n : Nat} {A : aA} {D D' : aD} {T : Int → Int} {N a : Int}
abbrev P_X6_readAny : Nat → Option am_E := am_fy tb_X6_readAny
def K_X6_readAny_9 (n : Nat) (c : Nat) (A : aA) (D : aD) (a1 : Int) (a2 : Int) (a3 : Int) (D' : aD) : Prop := Lp n c P_X6_readAny 9 [some (am_r (some 47)), some (am_i (wz a1)), some (am_i (wz a2)), some (am_i (wz a3)), none] [] A D rv A D'
set_option maxRecDepth 100000 in
theorem rl_X6_readAny {n : Nat} {A : aA} {D D' : aD} {c : Nat} (hc : 6 ≤ c) (a1 : Int) (h1 : rg a1) (hp : (∃ D4 : aD, Ev (n + 1) c 45 [am_r (some 47), am_i (wz a1)] A D rv A D4 ∧ K_X6_readAny_9 (n + 1) c A D4 a1 0 0 D')) : Ev (n + 1) (c + 1) 44 [am_r (some 47), am_i (wz a1)] A D rv A D' := by
  refine Ev_of (c := c) (P := P_X6_readAny) (lo := [some (am_r (some 47)), some (am_i (wz a1)), none, none, none]) rfl rfl rfl (fun d hd s hr => ?_)
  refine ok (m_aload_n (q := 1) rfl rfl rfl rfl) ?_
  refine ok (m_iload_n (q := 2) rfl rfl rfl rfl) ?_
  obtain ⟨D4, e5, hp⟩ := hp
  refine oke (e_cvd (x_cv (q := 5) rfl rfl rfl rfl rfl rfl rfl rfl rfl rfl (is_st hr rfl rfl)) e5 hd hr) (fun s1 r2 => ?_)
  refine ok (m_iconst (q := 6) rfl rfl rfl) ?_
  refine ok (m_istore_n (q := 7) (lo' := [some (am_r (some 47)), some (am_i (wz a1)), some (am_i (wz 0)), none, none]) rfl rfl rfl rfl rfl) ?_
  refine ok (m_iconst (q := 8) rfl rfl rfl) ?_
  refine ok (m_istore_n (q := 9) (lo' := [some (am_r (some 47)), some (am_i (wz a1)), some (am_i (wz 0)), some (am_i (wz 0)), none]) rfl rfl rfl rfl rfl) ?_
  exact hp d hd _ r2
set_option maxRecDepth 100000 in
theorem rl_X6_readAny_9 {n : Nat} {A : aA} {D D' : aD} {c : Nat} (hc : 6 ≤ c) (a1 : Int) (a2 : Int) (a3 : Int) (h1 : rg a1) (h2 : rg a2) (b2 : 0 ≤ a2 ∧ a2 ≤ 1) (h3 : rg a3) (hp : (if 700 ≤ a3 then (if a2 = 0 then (D' = D) else (p_X6_emit D (-3)) ∧ (D' = (u_X6_emit D (-3)))) else (if D 47 3 = (-1) then (p_X6_isWord D 10) ∧ (if v_X6_isWord D 10 = 0 then (p_X6_isWord D 11) ∧ (if v_X6_isWord D 11 = 0 then (if a2 = 0 then (D' = D) else (p_X6_emit D (-3)) ∧ (D' = (u_X6_emit D (-3)))) else (if v_X6_isWord D 10 = 0 then (if a2 = 0 then (p_adv D) ∧ (∃ D32 : aD, Ev (n + 1) c 45 [am_r (some 47), am_i (wz a1)] A (u_adv D) rv A D32 ∧ (if v_X6_isWord D 10 = 0 then K_X6_readAny_9 (n + 1) c A D32 a1 1 (wr (a3 + 1)) D' else (p_X6_emit D32 (-2)) ∧ K_X6_readAny_9 (n + 1) c A (u_X6_emit D32 (-2)) a1 a2 (wr (a3 + 1)) D')) else (p_X6_emit D (-3)) ∧ (p_adv (u_X6_emit D (-3))) ∧ (∃ D47 : aD, Ev (n + 1) c 45 [am_r (some 47), am_i (wz a1)] A (u_adv (u_X6_emit D (-3))) rv A D47 ∧ (if v_X6_isWord D 10 = 0 then K_X6_readAny_9 (n + 1) c A D47 a1 1 (wr (a3 + 1)) D' else (p_X6_emit D47 (-2)) ∧ K_X6_readAny_9 (n + 1) c A (u_X6_emit D47 (-2)) a1 a2 (wr (a3 + 1)) D'))) else (p_adv D) ∧ (∃ D59 : aD, Ev (n + 1) c 45 [am_r (some 47), am_i (wz a1)] A (u_adv D) rv A D59 ∧ (if v_X6_isWord D 10 = 0 then K_X6_readAny_9 (n + 1) c A D59 a1 1 (wr (a3 + 1)) D' else (p_X6_emit D59 (-2)) ∧ K_X6_readAny_9 (n + 1) c A (u_X6_emit D59 (-2)) a1 a2 (wr (a3 + 1)) D')))) else (if v_X6_isWord D 10 = 0 then (if a2 = 0 then (p_adv D) ∧ (∃ D73 : aD, Ev (n + 1) c 45 [am_r (some 47), am_i (wz a1)] A (u_adv D) rv A D73 ∧ (if v_X6_isWord D 10 = 0 then K_X6_readAny_9 (n + 1) c A D73 a1 1 (wr (a3 + 1)) D' else (p_X6_emit D73 (-2)) ∧ K_X6_readAny_9 (n + 1) c A (u_X6_emit D73 (-2)) a1 a2 (wr (a3 + 1)) D')) else (p_X6_emit D (-3)) ∧ (p_adv (u_X6_emit D (-3))) ∧ (∃ D88 : aD, Ev (n + 1) c 45 [am_r (some 47), am_i (wz a1)] A (u_adv (u_X6_emit D (-3))) rv A D88 ∧ (if v_X6_isWord D 10 = 0 then K_X6_readAny_9 (n + 1) c A D88 a1 1 (wr (a3 + 1)) D' else (p_X6_emit D88 (-2)) ∧ K_X6_readAny_9 (n + 1) c A (u_X6_emit D88 (-2)) a1 a2 (wr (a3 + 1)) D'))) else (p_adv D) ∧ (∃ D100 : aD, Ev (n + 1) c 45 [am_r (some 47), am_i (wz a1)] A (u_adv D) rv A D100 ∧ (if v_X6_isWord D 10 = 0 then K_X6_readAny_9 (n + 1) c A D100 a1 1 (wr (a3 + 1)) D' else (p_X6_emit D100 (-2)) ∧ K_X6_readAny_9 (n + 1) c A (u_X6_emit D100 (-2)) a1 a2 (wr (a3 + 1)) D')))) else (if a2 = 0 then (D' = D) else (p_X6_emit D (-3)) ∧ (D' = (u_X6_emit D (-3))))))) : K_X6_readAny_9 (n + 1) c A D a1 a2 a3 D' := by
  unfold K_X6_readAny_9
  refine fun d hd s hr => ?_
  refine ok (m_iload_n (q := 10) rfl rfl rfl rfl) ?_
  refine ok (m_sipush (q := 13) rfl rfl rfl) ?_
  refine okc (m_cmpge (qt := 95) (qf := 16) rfl rfl h3 ⟨by decide, by decide⟩ rfl rfl) (fun c6 => ?_) (fun c6 => ?_)
  · replace hp := ip c6 hp
    refine ok (m_iload_n (q := 96) rfl rfl rfl rfl) ?_
    refine okc (m_ifeq (qt := 105) (qf := 99) rfl rfl h2 rfl rfl) (fun c7 => ?_) (fun c7 => ?_)
    · replace hp := ip c7 hp
      exact ok (m_retv rfl rfl) (ok_vq hr hp)
    · replace hp := iq c7 hp
      refine ok (m_aload_n (q := 100) rfl rfl rfl rfl) ?_
      refine ok (m_bipush (q := 102) rfl rfl rfl) ?_
      obtain ⟨g10, hp⟩ := hp
      refine oke (e_cvd (x_cv (q := 105) rfl rfl rfl rfl rfl rfl rfl rfl rfl rfl (is_st hr rfl rfl)) (ev_X6_emit (D := D) (-3) ⟨by decide, by decide⟩ g10) (Nat.le_trans (by decide) (Nat.le_trans hc hd)) hr) (fun s8 r9 => ?_)
      exact ok (m_retv rfl rfl) (ok_vq r9 hp)
  · replace hp := iq c6 hp
    refine ok (m_aload_n (q := 17) rfl rfl rfl rfl) ?_
    refine ok (m_gfs (z := 3) (q := 20) rfl rfl rfl hr rfl rfl rfl rfl rfl) ?_
    refine ok (m_iconst (q := 21) rfl rfl rfl) ?_
    refine okc (m_cmpne (qt := 95) (qf := 24) rfl rfl (Rp_rg hr 47 3) ⟨by decide, by decide⟩ rfl rfl) (fun c11 => ?_) (fun c11 => ?_)
    · replace hp := ip c11 hp
      refine ok (m_aload_n (q := 25) rfl rfl rfl rfl) ?_
      refine ok (m_ldcr (q := 27) rfl rfl rfl) ?_
      obtain ⟨g14, hp⟩ := hp
      refine oke (e_ci (x_cv (q := 30) rfl rfl rfl rfl rfl rfl rfl rfl rfl rfl (is_st hr rfl rfl)) (ev_X6_isWord (D := D) 10 (by decide) g14) (Nat.le_trans (by decide) (Nat.le_trans hc hd)) hr) (fun s12 r13 => ?_)
      refine ok (m_istore (q := 32) (lo' := [some (am_r (some 47)), some (am_i (wz a1)), some (am_i (wz a2)), some (am_i (wz a3)), some (am_i (wz (v_X6_isWord D 10)))]) rfl rfl rfl rfl rfl) ?_
      refine ok (m_iload (q := 34) rfl rfl rfl rfl) ?_
      refine okc (m_ifne (qt := 49) (qf := 37) rfl rfl (Ev_rg (ev_X6_isWord (D := D) 10 (by decide) g14) hr) rfl rfl) (fun c15 => ?_) (fun c15 => ?_)
      · replace hp := ip c15 hp
        refine ok (m_aload_n (q := 38) rfl rfl rfl rfl) ?_
        refine ok (m_ldcr (q := 40) rfl rfl rfl) ?_
        obtain ⟨g18, hp⟩ := hp
        refine oke (e_ci (x_cv (q := 43) rfl rfl rfl rfl rfl rfl rfl rfl rfl rfl (is_st r13 rfl rfl)) (ev_X6_isWord (D := D) 11 (by decide) g18) (Nat.le_trans (by decide) (Nat.le_trans hc hd)) r13) (fun s16 r17 => ?_)
        refine okc (m_ifne (qt := 49) (qf := 46) rfl rfl (Ev_rg (ev_X6_isWord (D := D) 11 (by decide) g18) r13) rfl rfl) (fun c19 => ?_) (fun c19 => ?_)
        · replace hp := ip c19 hp
          refine ok (m_goto (q := 95) rfl rfl rfl) ?_
          refine ok (m_iload_n (q := 96) rfl rfl rfl rfl) ?_
          refine okc (m_ifeq (qt := 105) (qf := 99) rfl rfl h2 rfl rfl) (fun c20 => ?_) (fun c20 => ?_)
          · replace hp := ip c20 hp
            exact ok (m_retv rfl rfl) (ok_vq r17 hp)
          · replace hp := iq c20 hp
            refine ok (m_aload_n (q := 100) rfl rfl rfl rfl) ?_
            refine ok (m_bipush (q := 102) rfl rfl rfl) ?_
            obtain ⟨g23, hp⟩ := hp
            refine oke (e_cvd (x_cv (q := 105) rfl rfl rfl rfl rfl rfl rfl rfl rfl rfl (is_st r17 rfl rfl)) (ev_X6_emit (D := D) (-3) ⟨by decide, by decide⟩ g23) (Nat.le_trans (by decide) (Nat.le_trans hc hd)) r17) (fun s21 r22 => ?_)
            exact ok (m_retv rfl rfl) (ok_vq r22 hp)
        · replace hp := iq c19 hp
          refine ok (m_iload (q := 51) rfl rfl rfl rfl) ?_
          refine okc (m_ifne (qt := 64) (qf := 54) rfl rfl (Ev_rg (ev_X6_isWord (D := D) 10 (by decide) g14) hr) rfl rfl) (fun c24 => ?_) (fun c24 => ?_)
          · replace hp := ip c24 hp
            refine ok (m_iload_n (q := 55) rfl rfl rfl rfl) ?_
            refine okc (m_ifeq (qt := 64) (qf := 58) rfl rfl h2 rfl rfl) (fun c25 => ?_) (fun c25 => ?_)
            · replace hp := ip c25 hp
              refine ok (m_aload_n (q := 65) rfl rfl rfl rfl) ?_
              obtain ⟨g28, hp⟩ := hp
              refine oke (e_cvd (x_cv (q := 68) rfl rfl rfl rfl rfl rfl rfl rfl rfl rfl (is_st r17 rfl rfl)) (ev_X6_advance (D := D) g28) (Nat.le_trans (by decide) (Nat.le_trans hc hd)) r17) (fun s26 r27 => ?_)
              refine ok (m_aload_n (q := 69) rfl rfl rfl rfl) ?_
              refine ok (m_iload_n (q := 70) rfl rfl rfl rfl) ?_
              obtain ⟨D32, e33, hp⟩ := hp
              refine oke (e_cvd (x_cv (q := 73) rfl rfl rfl rfl rfl rfl rfl rfl rfl rfl (is_st r27 rfl rfl)) e33 hd r27) (fun s29 r30 => ?_)
              refine ok (m_iload (q := 75) rfl rfl rfl rfl) ?_
              refine okc (m_ifeq (qt := 87) (qf := 78) rfl rfl (Ev_rg (ev_X6_isWord (D := D) 10 (by decide) g14) hr) rfl rfl) (fun c34 => ?_) (fun c34 => ?_)
              · replace hp := ip c34 hp
                refine ok (m_iconst (q := 88) rfl rfl rfl) ?_
                refine ok (m_istore_n (q := 89) (lo' := [some (am_r (some 47)), some (am_i (wz a1)), some (am_i (wz 1)), some (am_i (wz a3)), some (am_i (wz (v_X6_isWord D 10)))]) rfl rfl rfl rfl rfl) ?_
                refine ok (m_iinc (q := 92) (lo' := [some (am_r (some 47)), some (am_i (wz a1)), some (am_i (wz 1)), some (am_i (wz (wr (a3 + 1)))), some (am_i (wz (v_X6_isWord D 10)))]) rfl rfl rfl rfl rfl rfl rfl) ?_
                refine ok (m_goto (q := 9) rfl rfl rfl) ?_
                refine ok (mk rfl (lo' := [some (am_r (some 47)), some (am_i (wz a1)), some (am_i (wz 1)), some (am_i (wz (wr (a3 + 1)))), none]) rfl) ?_
                exact hp d hd _ r30
              · replace hp := iq c34 hp
                refine ok (m_aload_n (q := 79) rfl rfl rfl rfl) ?_
                refine ok (m_bipush (q := 81) rfl rfl rfl) ?_
                obtain ⟨g37, hp⟩ := hp
                refine oke (e_cvd (x_cv (q := 84) rfl rfl rfl rfl rfl rfl rfl rfl rfl rfl (is_st r30 rfl rfl)) (ev_X6_emit (D := D32) (-2) ⟨by decide, by decide⟩ g37) (Nat.le_trans (by decide) (Nat.le_trans hc hd)) r30) (fun s35 r36 => ?_)
                refine ok (m_goto (q := 89) rfl rfl rfl) ?_
                refine ok (m_iinc (q := 92) (lo' := [some (am_r (some 47)), some (am_i (wz a1)), some (am_i (wz a2)), some (am_i (wz (wr (a3 + 1)))), some (am_i (wz (v_X6_isWord D 10)))]) rfl rfl rfl rfl rfl rfl rfl) ?_
                refine ok (m_goto (q := 9) rfl rfl rfl) ?_
                refine ok (mk rfl (lo' := [some (am_r (some 47)), some (am_i (wz a1)), some (am_i (wz a2)), some (am_i (wz (wr (a3 + 1)))), none]) rfl) ?_
                exact hp d hd _ r36
            · replace hp := iq c25 hp
              refine ok (m_aload_n (q := 59) rfl rfl rfl rfl) ?_
              refine ok (m_bipush (q := 61) rfl rfl rfl) ?_
              obtain ⟨g40, hp⟩ := hp
              refine oke (e_cvd (x_cv (q := 64) rfl rfl rfl rfl rfl rfl rfl rfl rfl rfl (is_st r17 rfl rfl)) (ev_X6_emit (D := D) (-3) ⟨by decide, by decide⟩ g40) (Nat.le_trans (by decide) (Nat.le_trans hc hd)) r17) (fun s38 r39 => ?_)
              refine ok (m_aload_n (q := 65) rfl rfl rfl rfl) ?_
              obtain ⟨g43, hp⟩ := hp
              refine oke (e_cvd (x_cv (q := 68) rfl rfl rfl rfl rfl rfl rfl rfl rfl rfl (is_st r39 rfl rfl)) (ev_X6_advance (D := (u_X6_emit D (-3))) g43) (Nat.le_trans (by decide) (Nat.le_trans hc hd)) r39) (fun s41 r42 => ?_)
              refine ok (m_aload_n (q := 69) rfl rfl rfl rfl) ?_
              refine ok (m_iload_n (q := 70) rfl rfl rfl rfl) ?_
              obtain ⟨D47, e48, hp⟩ := hp
              refine oke (e_cvd (x_cv (q := 73) rfl rfl rfl rfl rfl rfl rfl rfl rfl rfl (is_st r42 rfl rfl)) e48 hd r42) (fun s44 r45 => ?_)
              refine ok (m_iload (q := 75) rfl rfl rfl rfl) ?_
              refine okc (m_ifeq (qt := 87) (qf := 78) rfl rfl (Ev_rg (ev_X6_isWord (D := D) 10 (by decide) g14) hr) rfl rfl) (fun c49 => ?_) (fun c49 => ?_)
              · replace hp := ip c49 hp
                refine ok (m_iconst (q := 88) rfl rfl rfl) ?_
                refine ok (m_istore_n (q := 89) (lo' := [some (am_r (some 47)), some (am_i (wz a1)), some (am_i (wz 1)), some (am_i (wz a3)), some (am_i (wz (v_X6_isWord D 10)))]) rfl rfl rfl rfl rfl) ?_
                refine ok (m_iinc (q := 92) (lo' := [some (am_r (some 47)), some (am_i (wz a1)), some (am_i (wz 1)), some (am_i (wz (wr (a3 + 1)))), some (am_i (wz (v_X6_isWord D 10)))]) rfl rfl rfl rfl rfl rfl rfl) ?_
                refine ok (m_goto (q := 9) rfl rfl rfl) ?_
                refine ok (mk rfl (lo' := [some (am_r (some 47)), some (am_i (wz a1)), some (am_i (wz 1)), some (am_i (wz (wr (a3 + 1)))), none]) rfl) ?_
                exact hp d hd _ r45
              · replace hp := iq c49 hp
                refine ok (m_aload_n (q := 79) rfl rfl rfl rfl) ?_
                refine ok (m_bipush (q := 81) rfl rfl rfl) ?_
                obtain ⟨g52, hp⟩ := hp
                refine oke (e_cvd (x_cv (q := 84) rfl rfl rfl rfl rfl rfl rfl rfl rfl rfl (is_st r45 rfl rfl)) (ev_X6_emit (D := D47) (-2) ⟨by decide, by decide⟩ g52) (Nat.le_trans (by decide) (Nat.le_trans hc hd)) r45) (fun s50 r51 => ?_)
                refine ok (m_goto (q := 89) rfl rfl rfl) ?_
                refine ok (m_iinc (q := 92) (lo' := [some (am_r (some 47)), some (am_i (wz a1)), some (am_i (wz a2)), some (am_i (wz (wr (a3 + 1)))), some (am_i (wz (v_X6_isWord D 10)))]) rfl rfl rfl rfl rfl rfl rfl) ?_
                refine ok (m_goto (q := 9) rfl rfl rfl) ?_
                refine ok (mk rfl (lo' := [some (am_r (some 47)), some (am_i (wz a1)), some (am_i (wz a2)), some (am_i (wz (wr (a3 + 1)))), none]) rfl) ?_
                exact hp d hd _ r51
          · replace hp := iq c24 hp
            refine ok (m_aload_n (q := 65) rfl rfl rfl rfl) ?_
            obtain ⟨g55, hp⟩ := hp
            refine oke (e_cvd (x_cv (q := 68) rfl rfl rfl rfl rfl rfl rfl rfl rfl rfl (is_st r17 rfl rfl)) (ev_X6_advance (D := D) g55) (Nat.le_trans (by decide) (Nat.le_trans hc hd)) r17) (fun s53 r54 => ?_)
            refine ok (m_aload_n (q := 69) rfl rfl rfl rfl) ?_
            refine ok (m_iload_n (q := 70) rfl rfl rfl rfl) ?_
            obtain ⟨D59, e60, hp⟩ := hp
            refine oke (e_cvd (x_cv (q := 73) rfl rfl rfl rfl rfl rfl rfl rfl rfl rfl (is_st r54 rfl rfl)) e60 hd r54) (fun s56 r57 => ?_)
            refine ok (m_iload (q := 75) rfl rfl rfl rfl) ?_
            refine okc (m_ifeq (qt := 87) (qf := 78) rfl rfl (Ev_rg (ev_X6_isWord (D := D) 10 (by decide) g14) hr) rfl rfl) (fun c61 => ?_) (fun c61 => ?_)
            · replace hp := ip c61 hp
              refine ok (m_iconst (q := 88) rfl rfl rfl) ?_
              refine ok (m_istore_n (q := 89) (lo' := [some (am_r (some 47)), some (am_i (wz a1)), some (am_i (wz 1)), some (am_i (wz a3)), some (am_i (wz (v_X6_isWord D 10)))]) rfl rfl rfl rfl rfl) ?_
              refine ok (m_iinc (q := 92) (lo' := [some (am_r (some 47)), some (am_i (wz a1)), some (am_i (wz 1)), some (am_i (wz (wr (a3 + 1)))), some (am_i (wz (v_X6_isWord D 10)))]) rfl rfl rfl rfl rfl rfl rfl) ?_
              refine ok (m_goto (q := 9) rfl rfl rfl) ?_
              refine ok (mk rfl (lo' := [some (am_r (some 47)), some (am_i (wz a1)), some (am_i (wz 1)), some (am_i (wz (wr (a3 + 1)))), none]) rfl) ?_
              exact hp d hd _ r57
            · replace hp := iq c61 hp
              refine ok (m_aload_n (q := 79) rfl rfl rfl rfl) ?_
              refine ok (m_bipush (q := 81) rfl rfl rfl) ?_
              obtain ⟨g64, hp⟩ := hp
              refine oke (e_cvd (x_cv (q := 84) rfl rfl rfl rfl rfl rfl rfl rfl rfl rfl (is_st r57 rfl rfl)) (ev_X6_emit (D := D59) (-2) ⟨by decide, by decide⟩ g64) (Nat.le_trans (by decide) (Nat.le_trans hc hd)) r57) (fun s62 r63 => ?_)
              refine ok (m_goto (q := 89) rfl rfl rfl) ?_
              refine ok (m_iinc (q := 92) (lo' := [some (am_r (some 47)), some (am_i (wz a1)), some (am_i (wz a2)), some (am_i (wz (wr (a3 + 1)))), some (am_i (wz (v_X6_isWord D 10)))]) rfl rfl rfl rfl rfl rfl rfl) ?_
              refine ok (m_goto (q := 9) rfl rfl rfl) ?_
              refine ok (mk rfl (lo' := [some (am_r (some 47)), some (am_i (wz a1)), some (am_i (wz a2)), some (am_i (wz (wr (a3 + 1)))), none]) rfl) ?_
              exact hp d hd _ r63
      · replace hp := iq c15 hp
        refine ok (m_iload (q := 51) rfl rfl rfl rfl) ?_
        refine okc (m_ifne (qt := 64) (qf := 54) rfl rfl (Ev_rg (ev_X6_isWord (D := D) 10 (by decide) g14) hr) rfl rfl) (fun c65 => ?_) (fun c65 => ?_)
        · replace hp := ip c65 hp
          refine ok (m_iload_n (q := 55) rfl rfl rfl rfl) ?_
          refine okc (m_ifeq (qt := 64) (qf := 58) rfl rfl h2 rfl rfl) (fun c66 => ?_) (fun c66 => ?_)
          · replace hp := ip c66 hp
            refine ok (m_aload_n (q := 65) rfl rfl rfl rfl) ?_
            obtain ⟨g69, hp⟩ := hp
            refine oke (e_cvd (x_cv (q := 68) rfl rfl rfl rfl rfl rfl rfl rfl rfl rfl (is_st r13 rfl rfl)) (ev_X6_advance (D := D) g69) (Nat.le_trans (by decide) (Nat.le_trans hc hd)) r13) (fun s67 r68 => ?_)
            refine ok (m_aload_n (q := 69) rfl rfl rfl rfl) ?_
            refine ok (m_iload_n (q := 70) rfl rfl rfl rfl) ?_
            obtain ⟨D73, e74, hp⟩ := hp
            refine oke (e_cvd (x_cv (q := 73) rfl rfl rfl rfl rfl rfl rfl rfl rfl rfl (is_st r68 rfl rfl)) e74 hd r68) (fun s70 r71 => ?_)
            refine ok (m_iload (q := 75) rfl rfl rfl rfl) ?_
            refine okc (m_ifeq (qt := 87) (qf := 78) rfl rfl (Ev_rg (ev_X6_isWord (D := D) 10 (by decide) g14) hr) rfl rfl) (fun c75 => ?_) (fun c75 => ?_)
            · replace hp := ip c75 hp
              refine ok (m_iconst (q := 88) rfl rfl rfl) ?_
              refine ok (m_istore_n (q := 89) (lo' := [some (am_r (some 47)), some (am_i (wz a1)), some (am_i (wz 1)), some (am_i (wz a3)), some (am_i (wz (v_X6_isWord D 10)))]) rfl rfl rfl rfl rfl) ?_
              refine ok (m_iinc (q := 92) (lo' := [some (am_r (some 47)), some (am_i (wz a1)), some (am_i (wz 1)), some (am_i (wz (wr (a3 + 1)))), some (am_i (wz (v_X6_isWord D 10)))]) rfl rfl rfl rfl rfl rfl rfl) ?_
              refine ok (m_goto (q := 9) rfl rfl rfl) ?_
              refine ok (mk rfl (lo' := [some (am_r (some 47)), some (am_i (wz a1)), some (am_i (wz 1)), some (am_i (wz (wr (a3 + 1)))), none]) rfl) ?_
              exact hp d hd _ r71
            · replace hp := iq c75 hp
              refine ok (m_aload_n (q := 79) rfl rfl rfl rfl) ?_
              refine ok (m_bipush (q := 81) rfl rfl rfl) ?_
              obtain ⟨g78, hp⟩ := hp
              refine oke (e_cvd (x_cv (q := 84) rfl rfl rfl rfl rfl rfl rfl rfl rfl rfl (is_st r71 rfl rfl)) (ev_X6_emit (D := D73) (-2) ⟨by decide, by decide⟩ g78) (Nat.le_trans (by decide) (Nat.le_trans hc hd)) r71) (fun s76 r77 => ?_)
              refine ok (m_goto (q := 89) rfl rfl rfl) ?_
              refine ok (m_iinc (q := 92) (lo' := [some (am_r (some 47)), some (am_i (wz a1)), some (am_i (wz a2)), some (am_i (wz (wr (a3 + 1)))), some (am_i (wz (v_X6_isWord D 10)))]) rfl rfl rfl rfl rfl rfl rfl) ?_
              refine ok (m_goto (q := 9) rfl rfl rfl) ?_
              refine ok (mk rfl (lo' := [some (am_r (some 47)), some (am_i (wz a1)), some (am_i (wz a2)), some (am_i (wz (wr (a3 + 1)))), none]) rfl) ?_
              exact hp d hd _ r77
          · replace hp := iq c66 hp
            refine ok (m_aload_n (q := 59) rfl rfl rfl rfl) ?_
            refine ok (m_bipush (q := 61) rfl rfl rfl) ?_
            obtain ⟨g81, hp⟩ := hp
            refine oke (e_cvd (x_cv (q := 64) rfl rfl rfl rfl rfl rfl rfl rfl rfl rfl (is_st r13 rfl rfl)) (ev_X6_emit (D := D) (-3) ⟨by decide, by decide⟩ g81) (Nat.le_trans (by decide) (Nat.le_trans hc hd)) r13) (fun s79 r80 => ?_)
            refine ok (m_aload_n (q := 65) rfl rfl rfl rfl) ?_
            obtain ⟨g84, hp⟩ := hp
            refine oke (e_cvd (x_cv (q := 68) rfl rfl rfl rfl rfl rfl rfl rfl rfl rfl (is_st r80 rfl rfl)) (ev_X6_advance (D := (u_X6_emit D (-3))) g84) (Nat.le_trans (by decide) (Nat.le_trans hc hd)) r80) (fun s82 r83 => ?_)
            refine ok (m_aload_n (q := 69) rfl rfl rfl rfl) ?_
            refine ok (m_iload_n (q := 70) rfl rfl rfl rfl) ?_
            obtain ⟨D88, e89, hp⟩ := hp
            refine oke (e_cvd (x_cv (q := 73) rfl rfl rfl rfl rfl rfl rfl rfl rfl rfl (is_st r83 rfl rfl)) e89 hd r83) (fun s85 r86 => ?_)
            refine ok (m_iload (q := 75) rfl rfl rfl rfl) ?_
            refine okc (m_ifeq (qt := 87) (qf := 78) rfl rfl (Ev_rg (ev_X6_isWord (D := D) 10 (by decide) g14) hr) rfl rfl) (fun c90 => ?_) (fun c90 => ?_)
            · replace hp := ip c90 hp
              refine ok (m_iconst (q := 88) rfl rfl rfl) ?_
              refine ok (m_istore_n (q := 89) (lo' := [some (am_r (some 47)), some (am_i (wz a1)), some (am_i (wz 1)), some (am_i (wz a3)), some (am_i (wz (v_X6_isWord D 10)))]) rfl rfl rfl rfl rfl) ?_
              refine ok (m_iinc (q := 92) (lo' := [some (am_r (some 47)), some (am_i (wz a1)), some (am_i (wz 1)), some (am_i (wz (wr (a3 + 1)))), some (am_i (wz (v_X6_isWord D 10)))]) rfl rfl rfl rfl rfl rfl rfl) ?_
              refine ok (m_goto (q := 9) rfl rfl rfl) ?_
              refine ok (mk rfl (lo' := [some (am_r (some 47)), some (am_i (wz a1)), some (am_i (wz 1)), some (am_i (wz (wr (a3 + 1)))), none]) rfl) ?_
              exact hp d hd _ r86
            · replace hp := iq c90 hp
              refine ok (m_aload_n (q := 79) rfl rfl rfl rfl) ?_
              refine ok (m_bipush (q := 81) rfl rfl rfl) ?_
              obtain ⟨g93, hp⟩ := hp
              refine oke (e_cvd (x_cv (q := 84) rfl rfl rfl rfl rfl rfl rfl rfl rfl rfl (is_st r86 rfl rfl)) (ev_X6_emit (D := D88) (-2) ⟨by decide, by decide⟩ g93) (Nat.le_trans (by decide) (Nat.le_trans hc hd)) r86) (fun s91 r92 => ?_)
              refine ok (m_goto (q := 89) rfl rfl rfl) ?_
              refine ok (m_iinc (q := 92) (lo' := [some (am_r (some 47)), some (am_i (wz a1)), some (am_i (wz a2)), some (am_i (wz (wr (a3 + 1)))), some (am_i (wz (v_X6_isWord D 10)))]) rfl rfl rfl rfl rfl rfl rfl) ?_
              refine ok (m_goto (q := 9) rfl rfl rfl) ?_
              refine ok (mk rfl (lo' := [some (am_r (some 47)), some (am_i (wz a1)), some (am_i (wz a2)), some (am_i (wz (wr (a3 + 1)))), none]) rfl) ?_
              exact hp d hd _ r92
        · replace hp := iq c65 hp
          refine ok (m_aload_n (q := 65) rfl rfl rfl rfl) ?_
          obtain ⟨g96, hp⟩ := hp
          refine oke (e_cvd (x_cv (q := 68) rfl rfl rfl rfl rfl rfl rfl rfl rfl rfl (is_st r13 rfl rfl)) (ev_X6_advance (D := D) g96) (Nat.le_trans (by decide) (Nat.le_trans hc hd)) r13) (fun s94 r95 => ?_)
          refine ok (m_aload_n (q := 69) rfl rfl rfl rfl) ?_
          refine ok (m_iload_n (q := 70) rfl rfl rfl rfl) ?_
          obtain ⟨D100, e101, hp⟩ := hp
          refine oke (e_cvd (x_cv (q := 73) rfl rfl rfl rfl rfl rfl rfl rfl rfl rfl (is_st r95 rfl rfl)) e101 hd r95) (fun s97 r98 => ?_)
          refine ok (m_iload (q := 75) rfl rfl rfl rfl) ?_
          refine okc (m_ifeq (qt := 87) (qf := 78) rfl rfl (Ev_rg (ev_X6_isWord (D := D) 10 (by decide) g14) hr) rfl rfl) (fun c102 => ?_) (fun c102 => ?_)
          · replace hp := ip c102 hp
            refine ok (m_iconst (q := 88) rfl rfl rfl) ?_
            refine ok (m_istore_n (q := 89) (lo' := [some (am_r (some 47)), some (am_i (wz a1)), some (am_i (wz 1)), some (am_i (wz a3)), some (am_i (wz (v_X6_isWord D 10)))]) rfl rfl rfl rfl rfl) ?_
            refine ok (m_iinc (q := 92) (lo' := [some (am_r (some 47)), some (am_i (wz a1)), some (am_i (wz 1)), some (am_i (wz (wr (a3 + 1)))), some (am_i (wz (v_X6_isWord D 10)))]) rfl rfl rfl rfl rfl rfl rfl) ?_
            refine ok (m_goto (q := 9) rfl rfl rfl) ?_
            refine ok (mk rfl (lo' := [some (am_r (some 47)), some (am_i (wz a1)), some (am_i (wz 1)), some (am_i (wz (wr (a3 + 1)))), none]) rfl) ?_
            exact hp d hd _ r98
          · replace hp := iq c102 hp
            refine ok (m_aload_n (q := 79) rfl rfl rfl rfl) ?_
            refine ok (m_bipush (q := 81) rfl rfl rfl) ?_
            obtain ⟨g105, hp⟩ := hp
            refine oke (e_cvd (x_cv (q := 84) rfl rfl rfl rfl rfl rfl rfl rfl rfl rfl (is_st r98 rfl rfl)) (ev_X6_emit (D := D100) (-2) ⟨by decide, by decide⟩ g105) (Nat.le_trans (by decide) (Nat.le_trans hc hd)) r98) (fun s103 r104 => ?_)
            refine ok (m_goto (q := 89) rfl rfl rfl) ?_
            refine ok (m_iinc (q := 92) (lo' := [some (am_r (some 47)), some (am_i (wz a1)), some (am_i (wz a2)), some (am_i (wz (wr (a3 + 1)))), some (am_i (wz (v_X6_isWord D 10)))]) rfl rfl rfl rfl rfl rfl rfl) ?_
            refine ok (m_goto (q := 9) rfl rfl rfl) ?_
            refine ok (mk rfl (lo' := [some (am_r (some 47)), some (am_i (wz a1)), some (am_i (wz a2)), some (am_i (wz (wr (a3 + 1)))), none]) rfl) ?_
            exact hp d hd _ r104
    · replace hp := iq c11 hp
      refine ok (m_iload_n (q := 96) rfl rfl rfl rfl) ?_
      refine okc (m_ifeq (qt := 105) (qf := 99) rfl rfl h2 rfl rfl) (fun c106 => ?_) (fun c106 => ?_)
      · replace hp := ip c106 hp
        exact ok (m_retv rfl rfl) (ok_vq hr hp)
      · replace hp := iq c106 hp
        refine ok (m_aload_n (q := 100) rfl rfl rfl rfl) ?_
        refine ok (m_bipush (q := 102) rfl rfl rfl) ?_
        obtain ⟨g109, hp⟩ := hp
        refine oke (e_cvd (x_cv (q := 105) rfl rfl rfl rfl rfl rfl rfl rfl rfl rfl (is_st hr rfl rfl)) (ev_X6_emit (D := D) (-3) ⟨by decide, by decide⟩ g109) (Nat.le_trans (by decide) (Nat.le_trans hc hd)) hr) (fun s107 r108 => ?_)
        exact ok (m_retv rfl rfl) (ok_vq r108 hp)
abbrev P_X6_readOne : Nat → Option am_E := am_fy tb_X6_readOne
set_option maxRecDepth 100000 in
theorem rl_X6_readOne {n : Nat} {A : aA} {D D' : aD} {c : Nat} (hc : 6 ≤ c) (a1 : Int) (h1 : rg a1) (hp : (p_X6_isWord D 7) ∧ (if v_X6_isWord D 7 = 0 then (p_X6_isSign D 40) ∧ (if v_X6_isSign D 40 = 0 then (if v_X6_isWord D 7 = 0 then (p_X6_takeWord D 8) ∧ (p_X6_takeComparison (u_X6_takeWord D 8)) ∧ (p_num (u_X6_takeComparison (u_X6_takeWord D 8)) 9999) ∧ (p_X6_emit (u_num (u_X6_takeComparison (u_X6_takeWord D 8)) 9999) (wr ((wr ((wr ((wr ((v_X6_takeWord D 8) * 3)) + (v_X6_takeComparison (u_X6_takeWord D 8)))) * 10000)) + (w_num (u_X6_takeComparison (u_X6_takeWord D 8)) 9999)))) ∧ (D' = (u_X6_emit (u_num (u_X6_takeComparison (u_X6_takeWord D 8)) 9999) (wr ((wr ((wr ((wr ((v_X6_takeWord D 8) * 3)) + (v_X6_takeComparison (u_X6_takeWord D 8)))) * 10000)) + (w_num (u_X6_takeComparison (u_X6_takeWord D 8)) 9999))))) else (p_adv D) ∧ (∃ D28 : aD, Ev (n + 1) c 45 [am_r (some 47), am_i (wz (wr (a1 + 1)))] A (u_adv D) rv A D28 ∧ (p_X6_emit D28 (-1)) ∧ (D' = (u_X6_emit D28 (-1))))) else (if a1 < 10 then (if v_X6_isWord D 7 = 0 then (p_adv D) ∧ (∃ D41 : aD, Ev (n + 1) c 44 [am_r (some 47), am_i (wz (wr (a1 + 1)))] A (u_adv D) rv A D41 ∧ (p_X6_takeSign D41 41) ∧ (D' = (u_X6_takeSign D41 41))) else (p_adv D) ∧ (∃ D52 : aD, Ev (n + 1) c 45 [am_r (some 47), am_i (wz (wr (a1 + 1)))] A (u_adv D) rv A D52 ∧ (p_X6_emit D52 (-1)) ∧ (D' = (u_X6_emit D52 (-1))))) else (D' = (u_X6_refuse D)))) else (if a1 < 10 then (if v_X6_isWord D 7 = 0 then (p_adv D) ∧ (∃ D67 : aD, Ev (n + 1) c 44 [am_r (some 47), am_i (wz (wr (a1 + 1)))] A (u_adv D) rv A D67 ∧ (p_X6_takeSign D67 41) ∧ (D' = (u_X6_takeSign D67 41))) else (p_adv D) ∧ (∃ D78 : aD, Ev (n + 1) c 45 [am_r (some 47), am_i (wz (wr (a1 + 1)))] A (u_adv D) rv A D78 ∧ (p_X6_emit D78 (-1)) ∧ (D' = (u_X6_emit D78 (-1))))) else (D' = (u_X6_refuse D))))) : Ev (n + 1) (c + 1) 45 [am_r (some 47), am_i (wz a1)] A D rv A D' := by
  refine Ev_of (c := c) (P := P_X6_readOne) (lo := [some (am_r (some 47)), some (am_i (wz a1)), none, none, none, none, none]) rfl rfl rfl (fun d hd s hr => ?_)
  refine ok (m_aload_n (q := 1) rfl rfl rfl rfl) ?_
  refine ok (m_ldcr (q := 3) rfl rfl rfl) ?_
  obtain ⟨g3, hp⟩ := hp
  refine oke (e_ci (x_cv (q := 6) rfl rfl rfl rfl rfl rfl rfl rfl rfl rfl (is_st hr rfl rfl)) (ev_X6_isWord (D := D) 7 (by decide) g3) (Nat.le_trans (by decide) (Nat.le_trans hc hd)) hr) (fun s1 r2 => ?_)
  refine ok (m_istore_n (q := 7) (lo' := [some (am_r (some 47)), some (am_i (wz a1)), some (am_i (wz (v_X6_isWord D 7))), none, none, none, none]) rfl rfl rfl rfl rfl) ?_
  refine ok (m_iload_n (q := 8) rfl rfl rfl rfl) ?_
  refine okc (m_ifne (qt := 20) (qf := 11) rfl rfl (Ev_rg (ev_X6_isWord (D := D) 7 (by decide) g3) hr) rfl rfl) (fun c4 => ?_) (fun c4 => ?_)
  · replace hp := ip c4 hp
    refine ok (m_aload_n (q := 12) rfl rfl rfl rfl) ?_
    refine ok (m_bipush (q := 14) rfl rfl rfl) ?_
    obtain ⟨g7, hp⟩ := hp
    refine oke (e_ci (x_cv (q := 17) rfl rfl rfl rfl rfl rfl rfl rfl rfl rfl (is_st r2 rfl rfl)) (ev_X6_isSign (D := D) 40 ⟨by decide, by decide⟩ g7) (Nat.le_trans (by decide) (Nat.le_trans hc hd)) r2) (fun s5 r6 => ?_)
    refine okc (m_ifeq (qt := 24) (qf := 20) rfl rfl (Ev_rg (ev_X6_isSign (D := D) 40 ⟨by decide, by decide⟩ g7) r2) rfl rfl) (fun c8 => ?_) (fun c8 => ?_)
    · replace hp := ip c8 hp
      refine ok (m_iconst (q := 25) rfl rfl rfl) ?_
      refine ok (m_istore_n (q := 26) (lo' := [some (am_r (some 47)), some (am_i (wz a1)), some (am_i (wz (v_X6_isWord D 7))), some (am_i (wz 0)), none, none, none]) rfl rfl rfl rfl rfl) ?_
      refine ok (m_iload_n (q := 27) rfl rfl rfl rfl) ?_
      refine ok ((m_ifeq (qt := 43) (qf := 30) rfl rfl ⟨by decide, by decide⟩ rfl rfl).trans (if_pos (by decide))) ?_
      refine ok (m_iload_n (q := 44) rfl rfl rfl rfl) ?_
      refine okc (m_ifeq (qt := 66) (qf := 47) rfl rfl (Ev_rg (ev_X6_isWord (D := D) 7 (by decide) g3) hr) rfl rfl) (fun c9 => ?_) (fun c9 => ?_)
      · replace hp := ip c9 hp
        refine ok (m_iload_n (q := 67) rfl rfl rfl rfl) ?_
        refine ok ((m_ifeq (qt := 90) (qf := 70) rfl rfl ⟨by decide, by decide⟩ rfl rfl).trans (if_pos (by decide))) ?_
        refine ok (m_aload_n (q := 91) rfl rfl rfl rfl) ?_
        refine ok (m_ldcr (q := 93) rfl rfl rfl) ?_
        obtain ⟨g12, hp⟩ := hp
        refine oke (e_ci (x_cv (q := 96) rfl rfl rfl rfl rfl rfl rfl rfl rfl rfl (is_st r6 rfl rfl)) (ev_X6_takeWord (D := D) 8 (by decide) g12) (Nat.le_trans (by decide) (Nat.le_trans hc hd)) r6) (fun s10 r11 => ?_)
        refine ok (m_istore (q := 98) (lo' := [some (am_r (some 47)), some (am_i (wz a1)), some (am_i (wz (v_X6_isWord D 7))), some (am_i (wz 0)), some (am_i (wz (v_X6_takeWord D 8))), none, none]) rfl rfl rfl rfl rfl) ?_
        refine ok (m_aload_n (q := 99) rfl rfl rfl rfl) ?_
        obtain ⟨g15, hp⟩ := hp
        refine oke (e_ci (x_cv (q := 102) rfl rfl rfl rfl rfl rfl rfl rfl rfl rfl (is_st r11 rfl rfl)) (ev_X6_takeComparison (D := (u_X6_takeWord D 8)) g15) (Nat.le_trans (by decide) (Nat.le_trans hc hd)) r11) (fun s13 r14 => ?_)
        refine ok (m_istore (q := 104) (lo' := [some (am_r (some 47)), some (am_i (wz a1)), some (am_i (wz (v_X6_isWord D 7))), some (am_i (wz 0)), some (am_i (wz (v_X6_takeWord D 8))), some (am_i (wz (v_X6_takeComparison (u_X6_takeWord D 8)))), none]) rfl rfl rfl rfl rfl) ?_
        refine ok (m_aload_n (q := 105) rfl rfl rfl rfl) ?_
        refine ok (m_sipush (q := 108) rfl rfl rfl) ?_
        obtain ⟨g18, hp⟩ := hp
        refine oke (e_ci (x_cv (q := 111) rfl rfl rfl rfl rfl rfl rfl rfl rfl rfl (is_st r14 rfl rfl)) (ev_X6_takeNumber (D := (u_X6_takeComparison (u_X6_takeWord D 8))) 9999 ⟨by decide, by decide⟩ g18) (Nat.le_trans (by decide) (Nat.le_trans hc hd)) r14) (fun s16 r17 => ?_)
        refine ok (m_istore (q := 113) (lo' := [some (am_r (some 47)), some (am_i (wz a1)), some (am_i (wz (v_X6_isWord D 7))), some (am_i (wz 0)), some (am_i (wz (v_X6_takeWord D 8))), some (am_i (wz (v_X6_takeComparison (u_X6_takeWord D 8)))), some (am_i (wz (w_num (u_X6_takeComparison (u_X6_takeWord D 8)) 9999)))]) rfl rfl rfl rfl rfl) ?_
        refine ok (m_aload_n (q := 114) rfl rfl rfl rfl) ?_
        refine ok (m_iload (q := 116) rfl rfl rfl rfl) ?_
        refine ok (m_iconst (q := 117) rfl rfl rfl) ?_
        refine ok (m_imul (q := 118) rfl rfl rfl) ?_
        refine ok (m_iload (q := 120) rfl rfl rfl rfl) ?_
        refine ok (m_iadd (q := 121) rfl rfl rfl) ?_
        refine ok (m_sipush (q := 124) rfl rfl rfl) ?_
        refine ok (m_imul (q := 125) rfl rfl rfl) ?_
        refine ok (m_iload (q := 127) rfl rfl rfl rfl) ?_
        refine ok (m_iadd (q := 128) rfl rfl rfl) ?_
        obtain ⟨g21, hp⟩ := hp
        refine oke (e_cvd (x_cv (q := 131) rfl rfl rfl rfl rfl rfl rfl rfl rfl rfl (is_st r17 rfl rfl)) (ev_X6_emit (D := (u_num (u_X6_takeComparison (u_X6_takeWord D 8)) 9999)) (wr ((wr ((wr ((wr ((v_X6_takeWord D 8) * 3)) + (v_X6_takeComparison (u_X6_takeWord D 8)))) * 10000)) + (w_num (u_X6_takeComparison (u_X6_takeWord D 8)) 9999))) (rg_wr _) g21) (Nat.le_trans (by decide) (Nat.le_trans hc hd)) r17) (fun s19 r20 => ?_)
        exact ok (m_retv rfl rfl) (ok_vq r20 hp)
      · replace hp := iq c9 hp
        refine ok (m_aload_n (q := 48) rfl rfl rfl rfl) ?_
        obtain ⟨g24, hp⟩ := hp
        refine oke (e_cvd (x_cv (q := 51) rfl rfl rfl rfl rfl rfl rfl rfl rfl rfl (is_st r6 rfl rfl)) (ev_X6_advance (D := D) g24) (Nat.le_trans (by decide) (Nat.le_trans hc hd)) r6) (fun s22 r23 => ?_)
        refine ok (m_aload_n (q := 52) rfl rfl rfl rfl) ?_
        refine ok (m_iload_n (q := 53) rfl rfl rfl rfl) ?_
        refine ok (m_iconst (q := 54) rfl rfl rfl) ?_
        refine ok (m_iadd (q := 55) rfl rfl rfl) ?_
        obtain ⟨D28, e29, hp⟩ := hp
        refine oke (e_cvd (x_cv (q := 58) rfl rfl rfl rfl rfl rfl rfl rfl rfl rfl (is_st r23 rfl rfl)) e29 hd r23) (fun s25 r26 => ?_)
        refine ok (m_aload_n (q := 59) rfl rfl rfl rfl) ?_
        refine ok (m_iconst (q := 60) rfl rfl rfl) ?_
        obtain ⟨g32, hp⟩ := hp
        refine oke (e_cvd (x_cv (q := 63) rfl rfl rfl rfl rfl rfl rfl rfl rfl rfl (is_st r26 rfl rfl)) (ev_X6_emit (D := D28) (-1) ⟨by decide, by decide⟩ g32) (Nat.le_trans (by decide) (Nat.le_trans hc hd)) r26) (fun s30 r31 => ?_)
        refine ok (m_goto (q := 131) rfl rfl rfl) ?_
        exact ok (m_retv rfl rfl) (ok_vq r31 hp)
    · replace hp := iq c8 hp
      refine ok (m_iconst (q := 21) rfl rfl rfl) ?_
      refine ok (m_goto (q := 25) rfl rfl rfl) ?_
      refine ok (m_istore_n (q := 26) (lo' := [some (am_r (some 47)), some (am_i (wz a1)), some (am_i (wz (v_X6_isWord D 7))), some (am_i (wz 1)), none, none, none]) rfl rfl rfl rfl rfl) ?_
      refine ok (m_iload_n (q := 27) rfl rfl rfl rfl) ?_
      refine ok ((m_ifeq (qt := 43) (qf := 30) rfl rfl ⟨by decide, by decide⟩ rfl rfl).trans (if_neg (by decide))) ?_
      refine ok (m_iload_n (q := 31) rfl rfl rfl rfl) ?_
      refine ok (m_bipush (q := 33) rfl rfl rfl) ?_
      refine okc (m_cmplt (qt := 43) (qf := 36) rfl rfl h1 ⟨by decide, by decide⟩ rfl rfl) (fun c33 => ?_) (fun c33 => ?_)
      · replace hp := ip c33 hp
        refine ok (m_iload_n (q := 44) rfl rfl rfl rfl) ?_
        refine okc (m_ifeq (qt := 66) (qf := 47) rfl rfl (Ev_rg (ev_X6_isWord (D := D) 7 (by decide) g3) hr) rfl rfl) (fun c34 => ?_) (fun c34 => ?_)
        · replace hp := ip c34 hp
          refine ok (m_iload_n (q := 67) rfl rfl rfl rfl) ?_
          refine ok ((m_ifeq (qt := 90) (qf := 70) rfl rfl ⟨by decide, by decide⟩ rfl rfl).trans (if_neg (by decide))) ?_
          refine ok (m_aload_n (q := 71) rfl rfl rfl rfl) ?_
          obtain ⟨g37, hp⟩ := hp
          refine oke (e_cvd (x_cv (q := 74) rfl rfl rfl rfl rfl rfl rfl rfl rfl rfl (is_st r6 rfl rfl)) (ev_X6_advance (D := D) g37) (Nat.le_trans (by decide) (Nat.le_trans hc hd)) r6) (fun s35 r36 => ?_)
          refine ok (m_aload_n (q := 75) rfl rfl rfl rfl) ?_
          refine ok (m_iload_n (q := 76) rfl rfl rfl rfl) ?_
          refine ok (m_iconst (q := 77) rfl rfl rfl) ?_
          refine ok (m_iadd (q := 78) rfl rfl rfl) ?_
          obtain ⟨D41, e42, hp⟩ := hp
          refine oke (e_cvd (x_cv (q := 81) rfl rfl rfl rfl rfl rfl rfl rfl rfl rfl (is_st r36 rfl rfl)) e42 hd r36) (fun s38 r39 => ?_)
          refine ok (m_aload_n (q := 82) rfl rfl rfl rfl) ?_
          refine ok (m_bipush (q := 84) rfl rfl rfl) ?_
          obtain ⟨g45, hp⟩ := hp
          refine oke (e_cvd (x_cv (q := 87) rfl rfl rfl rfl rfl rfl rfl rfl rfl rfl (is_st r39 rfl rfl)) (ev_X6_takeSign (D := D41) 41 ⟨by decide, by decide⟩ g45) (Nat.le_trans (by decide) (Nat.le_trans hc hd)) r39) (fun s43 r44 => ?_)
          refine ok (m_goto (q := 131) rfl rfl rfl) ?_
          exact ok (m_retv rfl rfl) (ok_vq r44 hp)
        · replace hp := iq c34 hp
          refine ok (m_aload_n (q := 48) rfl rfl rfl rfl) ?_
          obtain ⟨g48, hp⟩ := hp
          refine oke (e_cvd (x_cv (q := 51) rfl rfl rfl rfl rfl rfl rfl rfl rfl rfl (is_st r6 rfl rfl)) (ev_X6_advance (D := D) g48) (Nat.le_trans (by decide) (Nat.le_trans hc hd)) r6) (fun s46 r47 => ?_)
          refine ok (m_aload_n (q := 52) rfl rfl rfl rfl) ?_
          refine ok (m_iload_n (q := 53) rfl rfl rfl rfl) ?_
          refine ok (m_iconst (q := 54) rfl rfl rfl) ?_
          refine ok (m_iadd (q := 55) rfl rfl rfl) ?_
          obtain ⟨D52, e53, hp⟩ := hp
          refine oke (e_cvd (x_cv (q := 58) rfl rfl rfl rfl rfl rfl rfl rfl rfl rfl (is_st r47 rfl rfl)) e53 hd r47) (fun s49 r50 => ?_)
          refine ok (m_aload_n (q := 59) rfl rfl rfl rfl) ?_
          refine ok (m_iconst (q := 60) rfl rfl rfl) ?_
          obtain ⟨g56, hp⟩ := hp
          refine oke (e_cvd (x_cv (q := 63) rfl rfl rfl rfl rfl rfl rfl rfl rfl rfl (is_st r50 rfl rfl)) (ev_X6_emit (D := D52) (-1) ⟨by decide, by decide⟩ g56) (Nat.le_trans (by decide) (Nat.le_trans hc hd)) r50) (fun s54 r55 => ?_)
          refine ok (m_goto (q := 131) rfl rfl rfl) ?_
          exact ok (m_retv rfl rfl) (ok_vq r55 hp)
      · replace hp := iq c33 hp
        refine ok (m_aload_n (q := 37) rfl rfl rfl rfl) ?_
        refine oke (e_cvd (x_cv (q := 40) rfl rfl rfl rfl rfl rfl rfl rfl rfl rfl (is_st r6 rfl rfl)) (ev_X6_refuse (D := D)) (Nat.le_trans (by decide) (Nat.le_trans hc hd)) r6) (fun s57 r58 => ?_)
        refine ok (m_goto (q := 131) rfl rfl rfl) ?_
        exact ok (m_retv rfl rfl) (ok_vq r58 hp)
  · replace hp := iq c4 hp
    refine ok (m_iconst (q := 21) rfl rfl rfl) ?_
    refine ok (m_goto (q := 25) rfl rfl rfl) ?_
    refine ok (m_istore_n (q := 26) (lo' := [some (am_r (some 47)), some (am_i (wz a1)), some (am_i (wz (v_X6_isWord D 7))), some (am_i (wz 1)), none, none, none]) rfl rfl rfl rfl rfl) ?_
    refine ok (m_iload_n (q := 27) rfl rfl rfl rfl) ?_
    refine ok ((m_ifeq (qt := 43) (qf := 30) rfl rfl ⟨by decide, by decide⟩ rfl rfl).trans (if_neg (by decide))) ?_
    refine ok (m_iload_n (q := 31) rfl rfl rfl rfl) ?_
    refine ok (m_bipush (q := 33) rfl rfl rfl) ?_
    refine okc (m_cmplt (qt := 43) (qf := 36) rfl rfl h1 ⟨by decide, by decide⟩ rfl rfl) (fun c59 => ?_) (fun c59 => ?_)
    · replace hp := ip c59 hp
      refine ok (m_iload_n (q := 44) rfl rfl rfl rfl) ?_
      refine okc (m_ifeq (qt := 66) (qf := 47) rfl rfl (Ev_rg (ev_X6_isWord (D := D) 7 (by decide) g3) hr) rfl rfl) (fun c60 => ?_) (fun c60 => ?_)
      · replace hp := ip c60 hp
        refine ok (m_iload_n (q := 67) rfl rfl rfl rfl) ?_
        refine ok ((m_ifeq (qt := 90) (qf := 70) rfl rfl ⟨by decide, by decide⟩ rfl rfl).trans (if_neg (by decide))) ?_
        refine ok (m_aload_n (q := 71) rfl rfl rfl rfl) ?_
        obtain ⟨g63, hp⟩ := hp
        refine oke (e_cvd (x_cv (q := 74) rfl rfl rfl rfl rfl rfl rfl rfl rfl rfl (is_st r2 rfl rfl)) (ev_X6_advance (D := D) g63) (Nat.le_trans (by decide) (Nat.le_trans hc hd)) r2) (fun s61 r62 => ?_)
        refine ok (m_aload_n (q := 75) rfl rfl rfl rfl) ?_
        refine ok (m_iload_n (q := 76) rfl rfl rfl rfl) ?_
        refine ok (m_iconst (q := 77) rfl rfl rfl) ?_
        refine ok (m_iadd (q := 78) rfl rfl rfl) ?_
        obtain ⟨D67, e68, hp⟩ := hp
        refine oke (e_cvd (x_cv (q := 81) rfl rfl rfl rfl rfl rfl rfl rfl rfl rfl (is_st r62 rfl rfl)) e68 hd r62) (fun s64 r65 => ?_)
        refine ok (m_aload_n (q := 82) rfl rfl rfl rfl) ?_
        refine ok (m_bipush (q := 84) rfl rfl rfl) ?_
        obtain ⟨g71, hp⟩ := hp
        refine oke (e_cvd (x_cv (q := 87) rfl rfl rfl rfl rfl rfl rfl rfl rfl rfl (is_st r65 rfl rfl)) (ev_X6_takeSign (D := D67) 41 ⟨by decide, by decide⟩ g71) (Nat.le_trans (by decide) (Nat.le_trans hc hd)) r65) (fun s69 r70 => ?_)
        refine ok (m_goto (q := 131) rfl rfl rfl) ?_
        exact ok (m_retv rfl rfl) (ok_vq r70 hp)
      · replace hp := iq c60 hp
        refine ok (m_aload_n (q := 48) rfl rfl rfl rfl) ?_
        obtain ⟨g74, hp⟩ := hp
        refine oke (e_cvd (x_cv (q := 51) rfl rfl rfl rfl rfl rfl rfl rfl rfl rfl (is_st r2 rfl rfl)) (ev_X6_advance (D := D) g74) (Nat.le_trans (by decide) (Nat.le_trans hc hd)) r2) (fun s72 r73 => ?_)
        refine ok (m_aload_n (q := 52) rfl rfl rfl rfl) ?_
        refine ok (m_iload_n (q := 53) rfl rfl rfl rfl) ?_
        refine ok (m_iconst (q := 54) rfl rfl rfl) ?_
        refine ok (m_iadd (q := 55) rfl rfl rfl) ?_
        obtain ⟨D78, e79, hp⟩ := hp
        refine oke (e_cvd (x_cv (q := 58) rfl rfl rfl rfl rfl rfl rfl rfl rfl rfl (is_st r73 rfl rfl)) e79 hd r73) (fun s75 r76 => ?_)
        refine ok (m_aload_n (q := 59) rfl rfl rfl rfl) ?_
        refine ok (m_iconst (q := 60) rfl rfl rfl) ?_
        obtain ⟨g82, hp⟩ := hp
        refine oke (e_cvd (x_cv (q := 63) rfl rfl rfl rfl rfl rfl rfl rfl rfl rfl (is_st r76 rfl rfl)) (ev_X6_emit (D := D78) (-1) ⟨by decide, by decide⟩ g82) (Nat.le_trans (by decide) (Nat.le_trans hc hd)) r76) (fun s80 r81 => ?_)
        refine ok (m_goto (q := 131) rfl rfl rfl) ?_
        exact ok (m_retv rfl rfl) (ok_vq r81 hp)
    · replace hp := iq c59 hp
      refine ok (m_aload_n (q := 37) rfl rfl rfl rfl) ?_
      refine oke (e_cvd (x_cv (q := 40) rfl rfl rfl rfl rfl rfl rfl rfl rfl rfl (is_st r2 rfl rfl)) (ev_X6_refuse (D := D)) (Nat.le_trans (by decide) (Nat.le_trans hc hd)) r2) (fun s83 r84 => ?_)
      refine ok (m_goto (q := 131) rfl rfl rfl) ?_
      exact ok (m_retv rfl rfl) (ok_vq r84 hp)
theorem ka_f {c : Nat} (hc : 6 ≤ c) {d i : Int} (w : Bool) (hd : rg d) (hi : rg i) (h : D 47 3 ≠ -1) : K_X6_readAny_9 (n + 1) c A D d (bi w) i D := by
  refine rl_X6_readAny_9 hc d (bi w) i hd (by cases w <;> exact ⟨by decide, by decide⟩) (bi_b w) hi ?_
  obtain ⟨e1, e2⟩ := em_f h (-3)
  have st : (if bi w = 0 then (D = D) else (p_X6_emit D (-3)) ∧ (D = (u_X6_emit D (-3)))) := by
    by_cases q : bi w = 0
    · rw [if_pos q]
    · rw [if_neg q, e2]; exact ⟨e1, rfl⟩
  by_cases g : 700 ≤ i
  · rw [if_pos g]; exact st
  · rw [if_neg g, if_neg h]; exact st
theorem bi1 : bi true = 1 := rfl
theorem bi0 : bi false = 0 := rfl
theorem cod_nil (h5 : D' 47 5 = D 47 5) (h49 : D' 49 = D 49) : cod D D' [] := cod_eq h5 h49 (cod.refl D)
theorem K_any_x {d : Nat} (hd : d ≤ 10) (hT : Txt T N) : ∀ (its : List (Bool × Itm)) (b : Int) (e : Option Bool) (a' : Int) (w : Bool) (i : Int) (D : aD), Sq T N d b its e a' → Tok T N b → Xst T N b D → 0 ≤ D 47 5 → D 47 5 + bi w ≤ b → (0 ≤ i ∧ i ≤ b) → ∃ D', K_X6_readAny_9 (n + 1) (7 + 2 * (10 - d)) A D d (bi w) i D' ∧ Xfr D D' ∧ (e = none → Xst T N a' D' ∧ cod D D' (cds w its)) ∧ (e ≠ none → D' 47 3 = a' ∧ 0 ≤ D' 47 5 ∧ D' 47 5 ≤ 700) := by
  have hN := hT.1
  have hc : 6 ≤ 7 + 2 * (10 - d) := by omega
  have rd : rg (d : Int) := rgb (by omega) (by omega)
  -- one more: with its connective k, the state D0 from which it goes on
  intro its
  induction its with
  | nil =>
    intro b e a' w i D hs ht hx h5 hb hi
    have hw := bi_b w
    have ht1 := ht.1
    have hwr : rg (bi w) := rgb (by omega) (by omega)
    have stop : ∃ D', (if bi w = 0 then (D' = D) else (p_X6_emit D (-3)) ∧ (D' = (u_X6_emit D (-3)))) ∧ Xfr D D' ∧ Xst T N b D' ∧ cod D D' (cds w []) := by
      cases w with
      | false => exact ⟨D, by rw [if_pos bi0], Xfr.refl D, hx, cod.refl D⟩
      | true =>
        rw [bi1] at hb
        obtain ⟨m1, m2, m3, m4⟩ := em_x hx h5 (by omega) (-3)
        exact ⟨u_X6_emit D (-3), by rw [if_neg (by decide)]; exact ⟨m1, rfl⟩, m3, m2, m4⟩
    obtain ⟨w10, y10, n10⟩ := isw_x hT ht hx (k := 10) (w := cnn true) (by decide) rfl
    obtain ⟨w11, y11, n11⟩ := isw_x hT ht hx (k := 11) (w := cnn false) (by decide) rfl
    have x3 : D 47 3 = -1 := hx.2.2.1
    cases e with
    | none =>
      obtain ⟨e1, e2, e3⟩ := hs
      obtain ⟨D', s1, s2, s3, s4⟩ := stop
      refine ⟨D', rl_X6_readAny_9 hc d (bi w) i rd hwr hw (rgb (by omega) (by omega)) ?_, s2, fun _ => ⟨by rw [e1]; exact s3, s4⟩, fun q => absurd rfl q⟩
      by_cases g : 700 ≤ i
      · rw [if_pos g]; exact s1
      · rw [if_neg g, if_pos x3]
        refine ⟨w10, ?_⟩
        rw [n10 e2, if_pos rfl]
        refine ⟨w11, ?_⟩
        rw [n11 e3, if_pos rfl]
        exact s1
    | some k =>
      obtain ⟨e1, e2⟩ := hs
      obtain ⟨t1, t2, t3, t4⟩ := tN_tok ht
      obtain ⟨l1, l2⟩ := Wd_tn ht e1
      have hpa := Xst_pa hT ht hx
      have hr := e2.2.2.2.1
      have ha0 : a' ≠ -1 := by have := e2.1.1; omega
      cases k with
      | true =>
        obtain ⟨a1, a2, a3, a4⟩ := adv_x ht hx
        obtain ⟨D', v1, v2, v3⟩ := hr n A (u_adv D) a1 (by omega) (by omega)
        have v3' : D' 47 3 = a' := v3.1
        have hf : D' 47 3 ≠ -1 := by omega
        refine ⟨D', rl_X6_readAny_9 hc d (bi w) i rd hwr hw (rgb (by omega) (by omega)) ?_, a2.trans v2, fun q => (nomatch q), fun _ => v3⟩
        rw [if_neg (by omega), if_pos x3]
        refine ⟨w10, ?_⟩
        simp only [y10 e1, show ¬ (1 : Int) = 0 by decide, if_false]
        refine ⟨hpa, D', v1, (em_f hf _).1, ?_⟩
        rw [(em_f hf _).2, wr_id (by omega) (by omega)]
        exact ka_f hc w rd (rgb (by omega) (by omega)) hf
      | false =>
        have hna : ¬ Wd T N b (cnn true) := fun q => by
          have h1 := q.2.2
          have h2 := e1.2.2
          have h3 : ((cnn true).length : Int) = 3 := rfl
          have h4 : ((cnn false).length : Int) = 2 := rfl
          omega
        cases w with
        | false =>
          obtain ⟨a1, a2, a3, a4⟩ := adv_x ht hx
          obtain ⟨D', v1, v2, v3⟩ := hr n A (u_adv D) a1 (by omega) (by omega)
          have v3' : D' 47 3 = a' := v3.1
          have hf : D' 47 3 ≠ -1 := by omega
          refine ⟨D', rl_X6_readAny_9 hc d (bi false) i rd hwr hw (rgb (by omega) (by omega)) ?_, a2.trans v2, fun q => (nomatch q), fun _ => v3⟩
          rw [if_neg (by omega), if_pos x3]
          refine ⟨w10, ?_⟩
          simp only [n10 hna, if_true]
          refine ⟨w11, ?_⟩
          simp only [y11 e1, show ¬ (1 : Int) = 0 by decide, if_false, bi0, if_true]
          refine ⟨hpa, D', v1, ?_⟩
          rw [wr_id (by omega) (by omega)]
          exact ka_f hc true rd (rgb (by omega) (by omega)) hf
        | true =>
          rw [bi1] at hb
          obtain ⟨m1, m2, m3, m4⟩ := em_x hx h5 (by omega) (-3)
          obtain ⟨a1, a2, a3, a4⟩ := adv_x ht m2
          have m5 : (u_X6_emit D (-3)) 47 5 = D 47 5 + 1 := m4.1
          obtain ⟨D', v1, v2, v3⟩ := hr n A (u_adv (u_X6_emit D (-3))) a1 (by omega) (by omega)
          have v3' : D' 47 3 = a' := v3.1
          have hf : D' 47 3 ≠ -1 := by omega
          refine ⟨D', rl_X6_readAny_9 hc d (bi true) i rd hwr hw (rgb (by omega) (by omega)) ?_, (m3.trans a2).trans v2, fun q => (nomatch q), fun _ => v3⟩
          rw [if_neg (by omega), if_pos x3]
          refine ⟨w10, ?_⟩
          simp only [n10 hna, if_true]
          refine ⟨w11, ?_⟩
          simp only [y11 e1, show ¬ (1 : Int) = 0 by decide, if_false, bi1]
          refine ⟨m1, Xst_pa hT ht m2, D', v1, ?_⟩
          rw [wr_id (by omega) (by omega)]
          exact ka_f hc true rd (rgb (by omega) (by omega)) hf
  | cons kv its ih =>
    obtain ⟨k, v⟩ := kv
    intro b e a' w i D hs ht hx h5 hb hi
    have hw := bi_b w
    have ht1 := ht.1
    have hwr : rg (bi w) := rgb (by omega) (by omega)
    obtain ⟨w10, y10, n10⟩ := isw_x hT ht hx (k := 10) (w := cnn true) (by decide) rfl
    obtain ⟨w11, y11, n11⟩ := isw_x hT ht hx (k := 11) (w := cnn false) (by decide) rfl
    have x3 : D 47 3 = -1 := hx.2.2.1
    obtain ⟨e1, b', e2, e3⟩ := hs
    obtain ⟨t1, t2, t3, t4⟩ := tN_tok ht
    obtain ⟨l1, l2⟩ := Wd_tn ht e1
    have hpa := Xst_pa hT ht hx
    have hr := e2.2.2.2.1
    have hok := e2.2.2.1
    obtain ⟨o1, o2, o3⟩ := hok
    have hb' := e2.1.1
    cases k with
    | true =>
      have l3 : ((cnn true).length : Int) = 3 := rfl
      obtain ⟨a1, a2, a3, a4⟩ := adv_x ht hx
      obtain ⟨D1, v1, v2, v3, v4⟩ := hr n A (u_adv D) a1 (by omega) (by omega)
      have c1 : D1 47 5 = D 47 5 + v.2.length := by rw [v4.1, a3]
      obtain ⟨m1, m2, m3, m4⟩ := em_x v3 (by omega) (by omega) (-2)
      have m5 : (u_X6_emit D1 (-2)) 47 5 = D1 47 5 + 1 := m4.1
      obtain ⟨D', k1, k2, k3, k4⟩ := ih b' e a' w (i + 1) (u_X6_emit D1 (-2)) e3 e2.1 m2 (by omega) (by omega) ⟨by omega, by omega⟩
      refine ⟨D', rl_X6_readAny_9 hc d (bi w) i rd hwr hw (rgb (by omega) (by omega)) ?_, ((a2.trans v2).trans m3).trans k2, fun q => ⟨(k3 q).1, ?_⟩, k4⟩
      · rw [if_neg (by omega), if_pos x3]
        refine ⟨w10, ?_⟩
        simp only [y10 e1, show ¬ (1 : Int) = 0 by decide, if_false]
        refine ⟨hpa, D1, v1, m1, ?_⟩
        rw [wr_id (by omega) (by omega)]
        exact k1
      · have z := ((cod_nil a3 a4).trans v4).trans (m4.trans (k3 q).2)
        exact z
    | false =>
      have l3 : ((cnn false).length : Int) = 2 := rfl
      have hna : ¬ Wd T N b (cnn true) := fun q => by
        have h1 := q.2.2
        have h2 := e1.2.2
        have h3 : ((cnn true).length : Int) = 3 := rfl
        omega
      cases w with
      | false =>
        obtain ⟨a1, a2, a3, a4⟩ := adv_x ht hx
        obtain ⟨D1, v1, v2, v3, v4⟩ := hr n A (u_adv D) a1 (by omega) (by omega)
        have c1 : D1 47 5 = D 47 5 + v.2.length := by rw [v4.1, a3]
        obtain ⟨D', k1, k2, k3, k4⟩ := ih b' e a' true (i + 1) D1 e3 e2.1 v3 (by omega) (by rw [bi1]; omega) ⟨by omega, by omega⟩
        refine ⟨D', rl_X6_readAny_9 hc d (bi false) i rd hwr hw (rgb (by omega) (by omega)) ?_, (a2.trans v2).trans k2, fun q => ⟨(k3 q).1, ?_⟩, k4⟩
        · rw [if_neg (by omega), if_pos x3]
          refine ⟨w10, ?_⟩
          simp only [n10 hna, if_true]
          refine ⟨w11, ?_⟩
          simp only [y11 e1, show ¬ (1 : Int) = 0 by decide, if_false, bi0, if_true]
          refine ⟨hpa, D1, v1, ?_⟩
          rw [wr_id (by omega) (by omega)]
          exact k1
        · have z := ((cod_nil a3 a4).trans v4).trans (k3 q).2
          exact z
      | true =>
        rw [bi1] at hb
        obtain ⟨m1, m2, m3, m4⟩ := em_x hx h5 (by omega) (-3)
        obtain ⟨a1, a2, a3, a4⟩ := adv_x ht m2
        have m5 : (u_X6_emit D (-3)) 47 5 = D 47 5 + 1 := m4.1
        obtain ⟨D1, v1, v2, v3, v4⟩ := hr n A (u_adv (u_X6_emit D (-3))) a1 (by omega) (by omega)
        have c1 : D1 47 5 = D 47 5 + 1 + v.2.length := by rw [v4.1, a3, m5]
        obtain ⟨D', k1, k2, k3, k4⟩ := ih b' e a' true (i + 1) D1 e3 e2.1 v3 (by omega) (by rw [bi1]; omega) ⟨by omega, by omega⟩
        refine ⟨D', rl_X6_readAny_9 hc d (bi true) i rd hwr hw (rgb (by omega) (by omega)) ?_, ((m3.trans a2).trans v2).trans k2, fun q => ⟨(k3 q).1, ?_⟩, k4⟩
        · rw [if_neg (by omega), if_pos x3]
          refine ⟨w10, ?_⟩
          simp only [n10 hna, if_true]
          refine ⟨w11, ?_⟩
          simp only [y11 e1, show ¬ (1 : Int) = 0 by decide, if_false, bi1]
          refine ⟨m1, Xst_pa hT ht m2, D1, v1, ?_⟩
          rw [wr_id (by omega) (by omega)]
          exact k1
        · have z := (m4.trans ((cod_nil a3 a4).trans v4)).trans (k3 q).2
          have e : cds true ((false, v) :: its) = ([-3] ++ ([] ++ v.2)) ++ cds true its := by simp [cds]
          rw [e]; exact z
end Xan
