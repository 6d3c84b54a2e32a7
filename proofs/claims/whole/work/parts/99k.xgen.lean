/-! The class's statement: the rules, and the ways that are gone by hand. -/
section Xgn
variable {n c : Nat} {A A' : aA} {D D' : aD} {d : Nat} {s : am_S}
theorem ety_8 {b : Int} (h : 0 ≤ b) : ety (8 + b) = 16 := by
  unfold ety
  rw [if_neg (by omega), if_neg (by omega), if_neg (by omega), if_neg (by omega), if_neg (by omega), if_neg (by omega)]
theorem ebs_8 {b : Int} (h : 0 ≤ b) : ebs (8 + b) = 64 * b := by
  unfold ebs
  rw [if_neg (by omega)]; omega
abbrev P_X9_init : Nat → Option am_E := am_fy tb_X9_init
def u_X9_init (D : aD) (i0 : Int) (a1 : Int) : aD := (up D 2600 i0 a1)
set_option maxRecDepth 100000 in
theorem ev_X9_init {n : Nat} {A : aA} {D : aD} (i0 : Int) (a1 : Int) (f0 : D 916 i0 = 1) (h1 : rg a1) : Ev (n) 1 68 [am_r (some (A 16 i0)), am_i (wz a1)] A D rv A (u_X9_init D i0 a1) := by
  unfold u_X9_init
  refine Ev_of (c := 0) (P := P_X9_init) (lo := [some (am_r (some (A 16 i0))), some (am_i (wz a1))]) rfl rfl rfl (fun d hd s hr => ?_)
  refine ok (m_aload_n (q := 1) rfl rfl rfl rfl) ?_
  refine ok (x_ob (q := 4) rfl rfl rfl rfl rfl rfl (is_ty hr rfl f0)) ?_
  refine ok (m_aload_n (q := 5) rfl rfl rfl rfl) ?_
  refine ok (m_iload_n (q := 6) rfl rfl rfl rfl) ?_
  refine oke (e_pft (t := 16) (q := 9) rfl rfl rfl hr rfl rfl f0 rfl rfl h1) (fun s2 r1 => ?_)
  exact ok (m_retv rfl rfl) (ok_v r1)
theorem fl_X9_init (D : aD) (i0 : Int) (a1 : Int) (t : Nat) (i : Int) (ht : Nat.ble t 49 = true) : u_X9_init D i0 a1 (900 + t) i = D (900 + t) i := (up_c (fl_ne rfl ht)).trans (rfl)
abbrev P_X7_add : Nat → Option am_E := am_fy tb_X7_add
def K_X7_add_9 (n : Nat) (A : aA) (D : aD) (i0 : Int) (i1 : Int) (A' : aA) (D' : aD) : Prop := Lp n 8 P_X7_add 9 [some (am_r (some (A 14 i0))), some (am_r (some (A 16 i1)))] [] A D rv A' D'
set_option maxRecDepth 100000 in
theorem rl_X7_add {n : Nat} {A A' : aA} {D D' : aD} (i0 : Int) (i1 : Int) (f0 : D 914 i0 = 1) (f1 : D 916 i1 = 1) (hp : (0 ≤ i0) ∧ (adK D (8 + i0) i1) ∧ K_X7_add_9 (n) (addA A D (8 + i0)) (addD D (8 + i0)) i0 i1 A' D') : Ev (n) (9) 58 [am_r (some (A 14 i0)), am_r (some (A 16 i1))] A D rv A' D' := by
  refine Ev_of (c := 8) (P := P_X7_add) (lo := [some (am_r (some (A 14 i0))), some (am_r (some (A 16 i1)))]) rfl rfl rfl (fun d hd s hr => ?_)
  refine ok (m_aload_n (q := 1) rfl rfl rfl rfl) ?_
  have f_1 := Rp_f14_0 (D := D) (i := i0) hr f0
  refine ok (m_gfx (t := 14) (q := 4) (r := some (A 0 (8 + i0))) rfl rfl rfl hr rfl f0 rfl rfl rfl) ?_
  refine ok (m_aload_n (q := 5) rfl rfl rfl rfl) ?_
  obtain ⟨g4, hp⟩ := hp
  obtain ⟨g5, hp⟩ := hp
  refine oke (e_ci (x_cv (q := 8) rfl rfl rfl rfl rfl rfl rfl rfl rfl rfl (is_ty hr rfl f_1)) (ev_addk (D := D) (l := 8 + i0) (e := i1) (t := 16) f_1 f1 (ety_8 g4) g5) (Nat.le_trans (by decide) hd) hr) (fun s2 r3 => ?_)
  refine ok (m_popi (q := 9) rfl rfl rfl) ?_
  exact ok (by first | rfl | (simp (disch := decide) only [addA_n]; rfl) | simp (disch := decide) only [addA_n]) (hp d hd _ r3)
set_option maxRecDepth 100000 in
theorem rl_X7_add_9 {n : Nat} {A A' : aA} {D D' : aD} (i0 : Int) (i1 : Int) (f0 : D 914 i0 = 1) (f1 : D 916 i1 = 1) (hp : (if D 2600 i1 = 1 then (A' = A ∧ D' = (up D 2406 i0 (D 2603 i1))) else (if D 2600 i1 = 2 then (A' = A ∧ D' = (up (up D 2407 i0 (D 2604 i1)) 2408 i0 (D 2603 i1))) else (if D 2600 i1 = 3 then (0 ≤ D 2601 i1 ∧ D 2601 i1 < D 3300 i0) ∧ (A' = A ∧ D' = (up D 3301 (1024 * i0 + (D 2601 i1)) (D 2603 i1))) else (if D 2600 i1 = 4 then (A' = A ∧ D' = D) else (if D 2600 i1 = 5 then (A' = A ∧ D' = (up D 2411 i0 1)) else (if D 2600 i1 = 6 then (A' = A ∧ D' = D) else (if D 2600 i1 = 7 then (A' = A ∧ D' = (up D 2409 i0 (D 2603 i1))) else (if D 2600 i1 = 8 then (A' = A ∧ D' = (up D 2410 i0 (D 2603 i1))) else (A' = A ∧ D' = D)))))))))) : K_X7_add_9 (n) A D i0 i1 A' D' := by
  unfold K_X7_add_9
  refine fun d hd s hr => ?_
  refine ok (m_aload_n (q := 10) rfl rfl rfl rfl) ?_
  refine ok (m_gft (t := 16) (q := 13) rfl rfl rfl hr rfl f1 rfl rfl rfl) ?_
  refine ok (m_tsw (z := 1) (qs := [60, 71, 90, 136, 106, 136, 114, 125]) (qd := 136) rfl rfl (show rg (D 2600 i1) from Rp_rg hr 2600 i1) rfl rfl rfl rfl) ?_
  refine okc (c := D 2600 i1 = 1) (rfl) (fun c6 => ?_) (fun c6 => ?_)
  · replace hp := ip c6 hp
    refine ok (m_aload_n (q := 61) rfl rfl rfl rfl) ?_
    refine ok (m_aload_n (q := 62) rfl rfl rfl rfl) ?_
    refine ok (m_gft (t := 16) (q := 65) rfl rfl rfl hr rfl f1 rfl rfl rfl) ?_
    refine oke (e_pft (t := 14) (q := 68) rfl rfl rfl hr rfl rfl f0 rfl rfl (show rg (D 2603 i1) from Rp_rg hr 2603 i1)) (fun s8 r7 => ?_)
    refine ok (m_goto (q := 136) rfl rfl rfl) ?_
    obtain ⟨rfl, hp⟩ := hp
    exact ok (m_retv rfl rfl) (ok_vq r7 hp)
  · replace hp := iq c6 hp
    refine okc (c := D 2600 i1 = 2) (rfl) (fun c9 => ?_) (fun c9 => ?_)
    · replace hp := ip c9 hp
      refine ok (m_aload_n (q := 72) rfl rfl rfl rfl) ?_
      refine ok (m_aload_n (q := 73) rfl rfl rfl rfl) ?_
      refine ok (m_gft (t := 16) (q := 76) rfl rfl rfl hr rfl f1 rfl rfl rfl) ?_
      refine oke (e_pft (t := 14) (q := 79) rfl rfl rfl hr rfl rfl f0 rfl rfl (show rg (D 2604 i1) from Rp_rg hr 2604 i1)) (fun s11 r10 => ?_)
      refine ok (m_aload_n (q := 80) rfl rfl rfl rfl) ?_
      refine ok (m_aload_n (q := 81) rfl rfl rfl rfl) ?_
      refine ok (m_gft (t := 16) (q := 84) (w := D 2603 i1) rfl rfl rfl r10 rfl f1 rfl rfl rfl) ?_
      refine oke (e_pft (t := 14) (q := 87) rfl rfl rfl r10 rfl rfl f0 rfl rfl (show rg (D 2603 i1) from Rp_rg r10 2603 i1)) (fun s13 r12 => ?_)
      refine ok (m_goto (q := 136) rfl rfl rfl) ?_
      obtain ⟨rfl, hp⟩ := hp
      exact ok (m_retv rfl rfl) (ok_vq r12 hp)
    · replace hp := iq c9 hp
      refine okc (c := D 2600 i1 = 3) (rfl) (fun c14 => ?_) (fun c14 => ?_)
      · replace hp := ip c14 hp
        refine ok (m_aload_n (q := 91) rfl rfl rfl rfl) ?_
        have f_15 := Rp_f14_23 (D := D) (i := i0) hr f0
        refine ok (m_gfx (t := 14) (q := 94) (r := some (A 23 i0)) rfl rfl rfl hr rfl f0 rfl rfl rfl) ?_
        refine ok (m_aload_n (q := 95) rfl rfl rfl rfl) ?_
        refine ok (m_gft (t := 16) (q := 98) rfl rfl rfl hr rfl f1 rfl rfl rfl) ?_
        refine ok (m_aload_n (q := 99) rfl rfl rfl rfl) ?_
        refine ok (m_gft (t := 16) (q := 102) rfl rfl rfl hr rfl f1 rfl rfl rfl) ?_
        obtain ⟨g18, hp⟩ := hp
        refine oke (e_iat (t := 23) (q := 103) rfl rfl rfl hr rfl f_15 rfl rfl rfl g18 (show rg (D 2603 i1) from Rp_rg hr 2603 i1)) (fun s17 r16 => ?_)
        refine ok (m_goto (q := 136) rfl rfl rfl) ?_
        obtain ⟨rfl, hp⟩ := hp
        exact ok (m_retv rfl rfl) (ok_vq r16 hp)
      · replace hp := iq c14 hp
        refine okc (c := D 2600 i1 = 4) (rfl) (fun c19 => ?_) (fun c19 => ?_)
        · replace hp := ip c19 hp
          obtain ⟨rfl, hp⟩ := hp
          exact ok (m_retv rfl rfl) (ok_vq hr hp)
        · replace hp := iq c19 hp
          refine okc (c := D 2600 i1 = 5) (rfl) (fun c20 => ?_) (fun c20 => ?_)
          · replace hp := ip c20 hp
            refine ok (m_aload_n (q := 107) rfl rfl rfl rfl) ?_
            refine ok (m_iconst (q := 108) rfl rfl rfl) ?_
            refine oke (e_pfzt (t := 14) (q := 111) rfl rfl rfl hr rfl rfl f0 rfl rfl ⟨by decide, by decide⟩) (fun s22 r21 => ?_)
            refine ok (m_goto (q := 136) rfl rfl rfl) ?_
            obtain ⟨rfl, hp⟩ := hp
            exact ok (m_retv rfl rfl) (ok_vq r21 hp)
          · replace hp := iq c20 hp
            refine okc (c := D 2600 i1 = 6) (rfl) (fun c23 => ?_) (fun c23 => ?_)
            · replace hp := ip c23 hp
              obtain ⟨rfl, hp⟩ := hp
              exact ok (m_retv rfl rfl) (ok_vq hr hp)
            · replace hp := iq c23 hp
              refine okc (c := D 2600 i1 = 7) (rfl) (fun c24 => ?_) (fun c24 => ?_)
              · replace hp := ip c24 hp
                refine ok (m_aload_n (q := 115) rfl rfl rfl rfl) ?_
                refine ok (m_aload_n (q := 116) rfl rfl rfl rfl) ?_
                refine ok (m_gft (t := 16) (q := 119) rfl rfl rfl hr rfl f1 rfl rfl rfl) ?_
                refine oke (e_pft (t := 14) (q := 122) rfl rfl rfl hr rfl rfl f0 rfl rfl (show rg (D 2603 i1) from Rp_rg hr 2603 i1)) (fun s26 r25 => ?_)
                refine ok (m_goto (q := 136) rfl rfl rfl) ?_
                obtain ⟨rfl, hp⟩ := hp
                exact ok (m_retv rfl rfl) (ok_vq r25 hp)
              · replace hp := iq c24 hp
                refine okc (c := D 2600 i1 = 8) (rfl) (fun c27 => ?_) (fun c27 => ?_)
                · replace hp := ip c27 hp
                  refine ok (m_aload_n (q := 126) rfl rfl rfl rfl) ?_
                  refine ok (m_aload_n (q := 127) rfl rfl rfl rfl) ?_
                  refine ok (m_gft (t := 16) (q := 130) rfl rfl rfl hr rfl f1 rfl rfl rfl) ?_
                  refine oke (e_pft (t := 14) (q := 133) rfl rfl rfl hr rfl rfl f0 rfl rfl (show rg (D 2603 i1) from Rp_rg hr 2603 i1)) (fun s29 r28 => ?_)
                  refine ok (m_goto (q := 136) rfl rfl rfl) ?_
                  obtain ⟨rfl, hp⟩ := hp
                  exact ok (m_retv rfl rfl) (ok_vq r28 hp)
                · replace hp := iq c27 hp
                  obtain ⟨rfl, hp⟩ := hp
                  exact ok (m_retv rfl rfl) (ok_vq hr hp)
abbrev P_X6_readStatement : Nat → Option am_E := am_fy tb_X6_readStatement
def K_X6_readStatement_0 (n : Nat) (c : Nat) (A : aA) (D : aD) (i1 : Int) (A' : aA) (D' : aD) : Prop := Lp n c P_X6_readStatement 0 [some (am_r (some 47)), some (am_r (some (A 14 i1))), none, none] [] A D rv A' D'
def K_X6_readStatement_3 (n : Nat) (c : Nat) (A : aA) (D : aD) (i1 : Int) (ti0 : Int) (A' : aA) (D' : aD) : Prop := Lp n c P_X6_readStatement 3 [some (am_r (some 47)), some (am_r (some (A 14 i1))), none, none] [am_r (some (A 16 ti0))] A D rv A' D'
def K_X6_readStatement_232 (n : Nat) (c : Nat) (A : aA) (D : aD) (i1 : Int) (i2 : Int) (ta0 : Int) (A' : aA) (D' : aD) : Prop := Lp n c P_X6_readStatement 232 [some (am_r (some 47)), some (am_r (some (A 14 i1))), some (am_r (some (A 16 i2))), none] [am_i (wz ta0)] A D rv A' D'
def K_X6_readStatement_268 (n : Nat) (c : Nat) (A : aA) (D : aD) (i1 : Int) (i2 : Int) (a3 : Int) (A' : aA) (D' : aD) : Prop := Lp n c P_X6_readStatement 268 [some (am_r (some 47)), some (am_r (some (A 14 i1))), some (am_r (some (A 16 i2))), some (am_i (wz a3))] [] A D rv A' D'
def K_X6_readStatement_283 (n : Nat) (c : Nat) (A : aA) (D : aD) (i1 : Int) (i2 : Int) (A' : aA) (D' : aD) : Prop := Lp n c P_X6_readStatement 283 [some (am_r (some 47)), some (am_r (some (A 14 i1))), some (am_r (some (A 16 i2))), none] [] A D rv A' D'
def K_X6_readStatement_297 (n : Nat) (c : Nat) (A : aA) (D : aD) (i1 : Int) (i2 : Int) (A' : aA) (D' : aD) : Prop := Lp n c P_X6_readStatement 297 [some (am_r (some 47)), some (am_r (some (A 14 i1))), some (am_r (some (A 16 i2))), none] [] A D rv A' D'
def K_X6_readStatement_302 (n : Nat) (c : Nat) (A : aA) (D : aD) (A' : aA) (D' : aD) : Prop := Lp n c P_X6_readStatement 302 [none, none, none, none] [] A D rv A' D'
set_option maxRecDepth 100000 in
theorem rl_X6_readStatement {n : Nat} {A A' : aA} {D D' : aD} {c : Nat} (hc : 8 ≤ c) (i1 : Int) (f1 : D 914 i1 = 1) (hp : K_X6_readStatement_0 (n) c A D i1 A' D') : Ev (n) (c + 1) 43 [am_r (some 47), am_r (some (A 14 i1))] A D rv A' D' := by
  refine Ev_of (c := c) (P := P_X6_readStatement) (lo := [some (am_r (some 47)), some (am_r (some (A 14 i1))), none, none]) rfl rfl rfl (fun d hd s hr => ?_)
  exact hp d hd _ hr
set_option maxRecDepth 100000 in
theorem rl_X6_readStatement_3 {n : Nat} {A A' : aA} {D D' : aD} {c : Nat} (hc : 8 ≤ c) (i1 : Int) (ti0 : Int) (f1 : D 914 i1 = 1) (tf0 : D 916 ti0 = 1) (hp : (p_X6_takeWord D 0) ∧ (if (u_X9_init (u_X6_takeWord D 0) ti0 (v_X6_takeWord D 0)) 2600 ti0 = 0 then (p_X6_takeWord (u_X9_init (u_X6_takeWord D 0) ti0 (v_X6_takeWord D 0)) 1) ∧ (p_num (up (u_X6_takeWord (u_X9_init (u_X6_takeWord D 0) ti0 (v_X6_takeWord D 0)) 1) 2601 ti0 (v_X6_takeWord (u_X9_init (u_X6_takeWord D 0) ti0 (v_X6_takeWord D 0)) 1)) 9999) ∧ (p_num (up (u_num (up (u_X6_takeWord (u_X9_init (u_X6_takeWord D 0) ti0 (v_X6_takeWord D 0)) 1) 2601 ti0 (v_X6_takeWord (u_X9_init (u_X6_takeWord D 0) ti0 (v_X6_takeWord D 0)) 1)) 9999) 2603 ti0 (w_num (up (u_X6_takeWord (u_X9_init (u_X6_takeWord D 0) ti0 (v_X6_takeWord D 0)) 1) 2601 ti0 (v_X6_takeWord (u_X9_init (u_X6_takeWord D 0) ti0 (v_X6_takeWord D 0)) 1)) 9999)) 300) ∧ (if (u_num (up (u_num (up (u_X6_takeWord (u_X9_init (u_X6_takeWord D 0) ti0 (v_X6_takeWord D 0)) 1) 2601 ti0 (v_X6_takeWord (u_X9_init (u_X6_takeWord D 0) ti0 (v_X6_takeWord D 0)) 1)) 9999) 2603 ti0 (w_num (up (u_X6_takeWord (u_X9_init (u_X6_takeWord D 0) ti0 (v_X6_takeWord D 0)) 1) 2601 ti0 (v_X6_takeWord (u_X9_init (u_X6_takeWord D 0) ti0 (v_X6_takeWord D 0)) 1)) 9999)) 300) 2600 ti0 = 0 then K_X6_readStatement_232 (n) c A (up (u_num (up (u_num (up (u_X6_takeWord (u_X9_init (u_X6_takeWord D 0) ti0 (v_X6_takeWord D 0)) 1) 2601 ti0 (v_X6_takeWord (u_X9_init (u_X6_takeWord D 0) ti0 (v_X6_takeWord D 0)) 1)) 9999) 2603 ti0 (w_num (up (u_X6_takeWord (u_X9_init (u_X6_takeWord D 0) ti0 (v_X6_takeWord D 0)) 1) 2601 ti0 (v_X6_takeWord (u_X9_init (u_X6_takeWord D 0) ti0 (v_X6_takeWord D 0)) 1)) 9999)) 300) 2604 ti0 (w_num (up (u_num (up (u_X6_takeWord (u_X9_init (u_X6_takeWord D 0) ti0 (v_X6_takeWord D 0)) 1) 2601 ti0 (v_X6_takeWord (u_X9_init (u_X6_takeWord D 0) ti0 (v_X6_takeWord D 0)) 1)) 9999) 2603 ti0 (w_num (up (u_X6_takeWord (u_X9_init (u_X6_takeWord D 0) ti0 (v_X6_takeWord D 0)) 1) 2601 ti0 (v_X6_takeWord (u_X9_init (u_X6_takeWord D 0) ti0 (v_X6_takeWord D 0)) 1)) 9999)) 300)) i1 ti0 1 A' D' else (if (u_num (up (u_num (up (u_X6_takeWord (u_X9_init (u_X6_takeWord D 0) ti0 (v_X6_takeWord D 0)) 1) 2601 ti0 (v_X6_takeWord (u_X9_init (u_X6_takeWord D 0) ti0 (v_X6_takeWord D 0)) 1)) 9999) 2603 ti0 (w_num (up (u_X6_takeWord (u_X9_init (u_X6_takeWord D 0) ti0 (v_X6_takeWord D 0)) 1) 2601 ti0 (v_X6_takeWord (u_X9_init (u_X6_takeWord D 0) ti0 (v_X6_takeWord D 0)) 1)) 9999)) 300) 2600 ti0 = 4 then K_X6_readStatement_232 (n) c A (up (u_num (up (u_num (up (u_X6_takeWord (u_X9_init (u_X6_takeWord D 0) ti0 (v_X6_takeWord D 0)) 1) 2601 ti0 (v_X6_takeWord (u_X9_init (u_X6_takeWord D 0) ti0 (v_X6_takeWord D 0)) 1)) 9999) 2603 ti0 (w_num (up (u_X6_takeWord (u_X9_init (u_X6_takeWord D 0) ti0 (v_X6_takeWord D 0)) 1) 2601 ti0 (v_X6_takeWord (u_X9_init (u_X6_takeWord D 0) ti0 (v_X6_takeWord D 0)) 1)) 9999)) 300) 2604 ti0 (w_num (up (u_num (up (u_X6_takeWord (u_X9_init (u_X6_takeWord D 0) ti0 (v_X6_takeWord D 0)) 1) 2601 ti0 (v_X6_takeWord (u_X9_init (u_X6_takeWord D 0) ti0 (v_X6_takeWord D 0)) 1)) 9999) 2603 ti0 (w_num (up (u_X6_takeWord (u_X9_init (u_X6_takeWord D 0) ti0 (v_X6_takeWord D 0)) 1) 2601 ti0 (v_X6_takeWord (u_X9_init (u_X6_takeWord D 0) ti0 (v_X6_takeWord D 0)) 1)) 9999)) 300)) i1 ti0 1 A' D' else K_X6_readStatement_232 (n) c A (up (u_num (up (u_num (up (u_X6_takeWord (u_X9_init (u_X6_takeWord D 0) ti0 (v_X6_takeWord D 0)) 1) 2601 ti0 (v_X6_takeWord (u_X9_init (u_X6_takeWord D 0) ti0 (v_X6_takeWord D 0)) 1)) 9999) 2603 ti0 (w_num (up (u_X6_takeWord (u_X9_init (u_X6_takeWord D 0) ti0 (v_X6_takeWord D 0)) 1) 2601 ti0 (v_X6_takeWord (u_X9_init (u_X6_takeWord D 0) ti0 (v_X6_takeWord D 0)) 1)) 9999)) 300) 2604 ti0 (w_num (up (u_num (up (u_X6_takeWord (u_X9_init (u_X6_takeWord D 0) ti0 (v_X6_takeWord D 0)) 1) 2601 ti0 (v_X6_takeWord (u_X9_init (u_X6_takeWord D 0) ti0 (v_X6_takeWord D 0)) 1)) 9999) 2603 ti0 (w_num (up (u_X6_takeWord (u_X9_init (u_X6_takeWord D 0) ti0 (v_X6_takeWord D 0)) 1) 2601 ti0 (v_X6_takeWord (u_X9_init (u_X6_takeWord D 0) ti0 (v_X6_takeWord D 0)) 1)) 9999)) 300)) i1 ti0 0 A' D')) else (if (u_X9_init (u_X6_takeWord D 0) ti0 (v_X6_takeWord D 0)) 2600 ti0 = 1 then (p_num (u_X9_init (u_X6_takeWord D 0) ti0 (v_X6_takeWord D 0)) 9999) ∧ (if (u_num (u_X9_init (u_X6_takeWord D 0) ti0 (v_X6_takeWord D 0)) 9999) 2600 ti0 = 0 then K_X6_readStatement_232 (n) c A (up (u_num (u_X9_init (u_X6_takeWord D 0) ti0 (v_X6_takeWord D 0)) 9999) 2603 ti0 (w_num (u_X9_init (u_X6_takeWord D 0) ti0 (v_X6_takeWord D 0)) 9999)) i1 ti0 1 A' D' else (if (u_num (u_X9_init (u_X6_takeWord D 0) ti0 (v_X6_takeWord D 0)) 9999) 2600 ti0 = 4 then K_X6_readStatement_232 (n) c A (up (u_num (u_X9_init (u_X6_takeWord D 0) ti0 (v_X6_takeWord D 0)) 9999) 2603 ti0 (w_num (u_X9_init (u_X6_takeWord D 0) ti0 (v_X6_takeWord D 0)) 9999)) i1 ti0 1 A' D' else K_X6_readStatement_232 (n) c A (up (u_num (u_X9_init (u_X6_takeWord D 0) ti0 (v_X6_takeWord D 0)) 9999) 2603 ti0 (w_num (u_X9_init (u_X6_takeWord D 0) ti0 (v_X6_takeWord D 0)) 9999)) i1 ti0 0 A' D')) else (if (u_X9_init (u_X6_takeWord D 0) ti0 (v_X6_takeWord D 0)) 2600 ti0 = 2 then (p_num (u_X9_init (u_X6_takeWord D 0) ti0 (v_X6_takeWord D 0)) 100) ∧ (p_X6_takeWord (up (u_num (u_X9_init (u_X6_takeWord D 0) ti0 (v_X6_takeWord D 0)) 100) 2604 ti0 (w_num (u_X9_init (u_X6_takeWord D 0) ti0 (v_X6_takeWord D 0)) 100)) 2) ∧ (p_num (u_X6_takeWord (up (u_num (u_X9_init (u_X6_takeWord D 0) ti0 (v_X6_takeWord D 0)) 100) 2604 ti0 (w_num (u_X9_init (u_X6_takeWord D 0) ti0 (v_X6_takeWord D 0)) 100)) 2) 9999) ∧ (if (u_num (u_X6_takeWord (up (u_num (u_X9_init (u_X6_takeWord D 0) ti0 (v_X6_takeWord D 0)) 100) 2604 ti0 (w_num (u_X9_init (u_X6_takeWord D 0) ti0 (v_X6_takeWord D 0)) 100)) 2) 9999) 2600 ti0 = 0 then K_X6_readStatement_232 (n) c A (up (u_num (u_X6_takeWord (up (u_num (u_X9_init (u_X6_takeWord D 0) ti0 (v_X6_takeWord D 0)) 100) 2604 ti0 (w_num (u_X9_init (u_X6_takeWord D 0) ti0 (v_X6_takeWord D 0)) 100)) 2) 9999) 2603 ti0 (w_num (u_X6_takeWord (up (u_num (u_X9_init (u_X6_takeWord D 0) ti0 (v_X6_takeWord D 0)) 100) 2604 ti0 (w_num (u_X9_init (u_X6_takeWord D 0) ti0 (v_X6_takeWord D 0)) 100)) 2) 9999)) i1 ti0 1 A' D' else (if (u_num (u_X6_takeWord (up (u_num (u_X9_init (u_X6_takeWord D 0) ti0 (v_X6_takeWord D 0)) 100) 2604 ti0 (w_num (u_X9_init (u_X6_takeWord D 0) ti0 (v_X6_takeWord D 0)) 100)) 2) 9999) 2600 ti0 = 4 then K_X6_readStatement_232 (n) c A (up (u_num (u_X6_takeWord (up (u_num (u_X9_init (u_X6_takeWord D 0) ti0 (v_X6_takeWord D 0)) 100) 2604 ti0 (w_num (u_X9_init (u_X6_takeWord D 0) ti0 (v_X6_takeWord D 0)) 100)) 2) 9999) 2603 ti0 (w_num (u_X6_takeWord (up (u_num (u_X9_init (u_X6_takeWord D 0) ti0 (v_X6_takeWord D 0)) 100) 2604 ti0 (w_num (u_X9_init (u_X6_takeWord D 0) ti0 (v_X6_takeWord D 0)) 100)) 2) 9999)) i1 ti0 1 A' D' else K_X6_readStatement_232 (n) c A (up (u_num (u_X6_takeWord (up (u_num (u_X9_init (u_X6_takeWord D 0) ti0 (v_X6_takeWord D 0)) 100) 2604 ti0 (w_num (u_X9_init (u_X6_takeWord D 0) ti0 (v_X6_takeWord D 0)) 100)) 2) 9999) 2603 ti0 (w_num (u_X6_takeWord (up (u_num (u_X9_init (u_X6_takeWord D 0) ti0 (v_X6_takeWord D 0)) 100) 2604 ti0 (w_num (u_X9_init (u_X6_takeWord D 0) ti0 (v_X6_takeWord D 0)) 100)) 2) 9999)) i1 ti0 0 A' D')) else (if (u_X9_init (u_X6_takeWord D 0) ti0 (v_X6_takeWord D 0)) 2600 ti0 = 3 then (p_X6_takeWord (u_X9_init (u_X6_takeWord D 0) ti0 (v_X6_takeWord D 0)) 3) ∧ (p_num (up (u_X6_takeWord (u_X9_init (u_X6_takeWord D 0) ti0 (v_X6_takeWord D 0)) 3) 2601 ti0 (v_X6_takeWord (u_X9_init (u_X6_takeWord D 0) ti0 (v_X6_takeWord D 0)) 3)) 9999) ∧ (if (u_num (up (u_X6_takeWord (u_X9_init (u_X6_takeWord D 0) ti0 (v_X6_takeWord D 0)) 3) 2601 ti0 (v_X6_takeWord (u_X9_init (u_X6_takeWord D 0) ti0 (v_X6_takeWord D 0)) 3)) 9999) 2600 ti0 = 0 then K_X6_readStatement_232 (n) c A (up (u_num (up (u_X6_takeWord (u_X9_init (u_X6_takeWord D 0) ti0 (v_X6_takeWord D 0)) 3) 2601 ti0 (v_X6_takeWord (u_X9_init (u_X6_takeWord D 0) ti0 (v_X6_takeWord D 0)) 3)) 9999) 2603 ti0 (w_num (up (u_X6_takeWord (u_X9_init (u_X6_takeWord D 0) ti0 (v_X6_takeWord D 0)) 3) 2601 ti0 (v_X6_takeWord (u_X9_init (u_X6_takeWord D 0) ti0 (v_X6_takeWord D 0)) 3)) 9999)) i1 ti0 1 A' D' else (if (u_num (up (u_X6_takeWord (u_X9_init (u_X6_takeWord D 0) ti0 (v_X6_takeWord D 0)) 3) 2601 ti0 (v_X6_takeWord (u_X9_init (u_X6_takeWord D 0) ti0 (v_X6_takeWord D 0)) 3)) 9999) 2600 ti0 = 4 then K_X6_readStatement_232 (n) c A (up (u_num (up (u_X6_takeWord (u_X9_init (u_X6_takeWord D 0) ti0 (v_X6_takeWord D 0)) 3) 2601 ti0 (v_X6_takeWord (u_X9_init (u_X6_takeWord D 0) ti0 (v_X6_takeWord D 0)) 3)) 9999) 2603 ti0 (w_num (up (u_X6_takeWord (u_X9_init (u_X6_takeWord D 0) ti0 (v_X6_takeWord D 0)) 3) 2601 ti0 (v_X6_takeWord (u_X9_init (u_X6_takeWord D 0) ti0 (v_X6_takeWord D 0)) 3)) 9999)) i1 ti0 1 A' D' else K_X6_readStatement_232 (n) c A (up (u_num (up (u_X6_takeWord (u_X9_init (u_X6_takeWord D 0) ti0 (v_X6_takeWord D 0)) 3) 2601 ti0 (v_X6_takeWord (u_X9_init (u_X6_takeWord D 0) ti0 (v_X6_takeWord D 0)) 3)) 9999) 2603 ti0 (w_num (up (u_X6_takeWord (u_X9_init (u_X6_takeWord D 0) ti0 (v_X6_takeWord D 0)) 3) 2601 ti0 (v_X6_takeWord (u_X9_init (u_X6_takeWord D 0) ti0 (v_X6_takeWord D 0)) 3)) 9999)) i1 ti0 0 A' D')) else (if (u_X9_init (u_X6_takeWord D 0) ti0 (v_X6_takeWord D 0)) 2600 ti0 = 4 then (p_X6_takeWord (u_X9_init (u_X6_takeWord D 0) ti0 (v_X6_takeWord D 0)) 3) ∧ (p_num (up (u_X6_takeWord (u_X9_init (u_X6_takeWord D 0) ti0 (v_X6_takeWord D 0)) 3) 2601 ti0 (v_X6_takeWord (u_X9_init (u_X6_takeWord D 0) ti0 (v_X6_takeWord D 0)) 3)) 9999) ∧ (if (u_num (up (u_X6_takeWord (u_X9_init (u_X6_takeWord D 0) ti0 (v_X6_takeWord D 0)) 3) 2601 ti0 (v_X6_takeWord (u_X9_init (u_X6_takeWord D 0) ti0 (v_X6_takeWord D 0)) 3)) 9999) 2600 ti0 = 0 then K_X6_readStatement_232 (n) c A (up (u_num (up (u_X6_takeWord (u_X9_init (u_X6_takeWord D 0) ti0 (v_X6_takeWord D 0)) 3) 2601 ti0 (v_X6_takeWord (u_X9_init (u_X6_takeWord D 0) ti0 (v_X6_takeWord D 0)) 3)) 9999) 2603 ti0 (w_num (up (u_X6_takeWord (u_X9_init (u_X6_takeWord D 0) ti0 (v_X6_takeWord D 0)) 3) 2601 ti0 (v_X6_takeWord (u_X9_init (u_X6_takeWord D 0) ti0 (v_X6_takeWord D 0)) 3)) 9999)) i1 ti0 1 A' D' else (if (u_num (up (u_X6_takeWord (u_X9_init (u_X6_takeWord D 0) ti0 (v_X6_takeWord D 0)) 3) 2601 ti0 (v_X6_takeWord (u_X9_init (u_X6_takeWord D 0) ti0 (v_X6_takeWord D 0)) 3)) 9999) 2600 ti0 = 4 then K_X6_readStatement_232 (n) c A (up (u_num (up (u_X6_takeWord (u_X9_init (u_X6_takeWord D 0) ti0 (v_X6_takeWord D 0)) 3) 2601 ti0 (v_X6_takeWord (u_X9_init (u_X6_takeWord D 0) ti0 (v_X6_takeWord D 0)) 3)) 9999) 2603 ti0 (w_num (up (u_X6_takeWord (u_X9_init (u_X6_takeWord D 0) ti0 (v_X6_takeWord D 0)) 3) 2601 ti0 (v_X6_takeWord (u_X9_init (u_X6_takeWord D 0) ti0 (v_X6_takeWord D 0)) 3)) 9999)) i1 ti0 1 A' D' else K_X6_readStatement_232 (n) c A (up (u_num (up (u_X6_takeWord (u_X9_init (u_X6_takeWord D 0) ti0 (v_X6_takeWord D 0)) 3) 2601 ti0 (v_X6_takeWord (u_X9_init (u_X6_takeWord D 0) ti0 (v_X6_takeWord D 0)) 3)) 9999) 2603 ti0 (w_num (up (u_X6_takeWord (u_X9_init (u_X6_takeWord D 0) ti0 (v_X6_takeWord D 0)) 3) 2601 ti0 (v_X6_takeWord (u_X9_init (u_X6_takeWord D 0) ti0 (v_X6_takeWord D 0)) 3)) 9999)) i1 ti0 0 A' D')) else (if (u_X9_init (u_X6_takeWord D 0) ti0 (v_X6_takeWord D 0)) 2600 ti0 = 5 then (p_X6_takeWord (u_X9_init (u_X6_takeWord D 0) ti0 (v_X6_takeWord D 0)) 4) ∧ (if (u_X6_takeWord (u_X9_init (u_X6_takeWord D 0) ti0 (v_X6_takeWord D 0)) 4) 2600 ti0 = 0 then K_X6_readStatement_232 (n) c A (u_X6_takeWord (u_X9_init (u_X6_takeWord D 0) ti0 (v_X6_takeWord D 0)) 4) i1 ti0 1 A' D' else (if (u_X6_takeWord (u_X9_init (u_X6_takeWord D 0) ti0 (v_X6_takeWord D 0)) 4) 2600 ti0 = 4 then K_X6_readStatement_232 (n) c A (u_X6_takeWord (u_X9_init (u_X6_takeWord D 0) ti0 (v_X6_takeWord D 0)) 4) i1 ti0 1 A' D' else K_X6_readStatement_232 (n) c A (u_X6_takeWord (u_X9_init (u_X6_takeWord D 0) ti0 (v_X6_takeWord D 0)) 4) i1 ti0 0 A' D')) else (if (u_X9_init (u_X6_takeWord D 0) ti0 (v_X6_takeWord D 0)) 2600 ti0 = 6 then (p_X6_takeWord (u_X9_init (u_X6_takeWord D 0) ti0 (v_X6_takeWord D 0)) 3) ∧ (p_X6_takeWord (up (u_X6_takeWord (u_X9_init (u_X6_takeWord D 0) ti0 (v_X6_takeWord D 0)) 3) 2601 ti0 (v_X6_takeWord (u_X9_init (u_X6_takeWord D 0) ti0 (v_X6_takeWord D 0)) 3)) 3) ∧ (p_X6_takeWord (up (u_X6_takeWord (up (u_X6_takeWord (u_X9_init (u_X6_takeWord D 0) ti0 (v_X6_takeWord D 0)) 3) 2601 ti0 (v_X6_takeWord (u_X9_init (u_X6_takeWord D 0) ti0 (v_X6_takeWord D 0)) 3)) 3) 2602 ti0 (v_X6_takeWord (up (u_X6_takeWord (u_X9_init (u_X6_takeWord D 0) ti0 (v_X6_takeWord D 0)) 3) 2601 ti0 (v_X6_takeWord (u_X9_init (u_X6_takeWord D 0) ti0 (v_X6_takeWord D 0)) 3)) 3)) 5) ∧ (p_num (u_X6_takeWord (up (u_X6_takeWord (up (u_X6_takeWord (u_X9_init (u_X6_takeWord D 0) ti0 (v_X6_takeWord D 0)) 3) 2601 ti0 (v_X6_takeWord (u_X9_init (u_X6_takeWord D 0) ti0 (v_X6_takeWord D 0)) 3)) 3) 2602 ti0 (v_X6_takeWord (up (u_X6_takeWord (u_X9_init (u_X6_takeWord D 0) ti0 (v_X6_takeWord D 0)) 3) 2601 ti0 (v_X6_takeWord (u_X9_init (u_X6_takeWord D 0) ti0 (v_X6_takeWord D 0)) 3)) 3)) 5) 9999) ∧ (if (u_num (u_X6_takeWord (up (u_X6_takeWord (up (u_X6_takeWord (u_X9_init (u_X6_takeWord D 0) ti0 (v_X6_takeWord D 0)) 3) 2601 ti0 (v_X6_takeWord (u_X9_init (u_X6_takeWord D 0) ti0 (v_X6_takeWord D 0)) 3)) 3) 2602 ti0 (v_X6_takeWord (up (u_X6_takeWord (u_X9_init (u_X6_takeWord D 0) ti0 (v_X6_takeWord D 0)) 3) 2601 ti0 (v_X6_takeWord (u_X9_init (u_X6_takeWord D 0) ti0 (v_X6_takeWord D 0)) 3)) 3)) 5) 9999) 2600 ti0 = 0 then K_X6_readStatement_232 (n) c A (up (u_num (u_X6_takeWord (up (u_X6_takeWord (up (u_X6_takeWord (u_X9_init (u_X6_takeWord D 0) ti0 (v_X6_takeWord D 0)) 3) 2601 ti0 (v_X6_takeWord (u_X9_init (u_X6_takeWord D 0) ti0 (v_X6_takeWord D 0)) 3)) 3) 2602 ti0 (v_X6_takeWord (up (u_X6_takeWord (u_X9_init (u_X6_takeWord D 0) ti0 (v_X6_takeWord D 0)) 3) 2601 ti0 (v_X6_takeWord (u_X9_init (u_X6_takeWord D 0) ti0 (v_X6_takeWord D 0)) 3)) 3)) 5) 9999) 2603 ti0 (w_num (u_X6_takeWord (up (u_X6_takeWord (up (u_X6_takeWord (u_X9_init (u_X6_takeWord D 0) ti0 (v_X6_takeWord D 0)) 3) 2601 ti0 (v_X6_takeWord (u_X9_init (u_X6_takeWord D 0) ti0 (v_X6_takeWord D 0)) 3)) 3) 2602 ti0 (v_X6_takeWord (up (u_X6_takeWord (u_X9_init (u_X6_takeWord D 0) ti0 (v_X6_takeWord D 0)) 3) 2601 ti0 (v_X6_takeWord (u_X9_init (u_X6_takeWord D 0) ti0 (v_X6_takeWord D 0)) 3)) 3)) 5) 9999)) i1 ti0 1 A' D' else (if (u_num (u_X6_takeWord (up (u_X6_takeWord (up (u_X6_takeWord (u_X9_init (u_X6_takeWord D 0) ti0 (v_X6_takeWord D 0)) 3) 2601 ti0 (v_X6_takeWord (u_X9_init (u_X6_takeWord D 0) ti0 (v_X6_takeWord D 0)) 3)) 3) 2602 ti0 (v_X6_takeWord (up (u_X6_takeWord (u_X9_init (u_X6_takeWord D 0) ti0 (v_X6_takeWord D 0)) 3) 2601 ti0 (v_X6_takeWord (u_X9_init (u_X6_takeWord D 0) ti0 (v_X6_takeWord D 0)) 3)) 3)) 5) 9999) 2600 ti0 = 4 then K_X6_readStatement_232 (n) c A (up (u_num (u_X6_takeWord (up (u_X6_takeWord (up (u_X6_takeWord (u_X9_init (u_X6_takeWord D 0) ti0 (v_X6_takeWord D 0)) 3) 2601 ti0 (v_X6_takeWord (u_X9_init (u_X6_takeWord D 0) ti0 (v_X6_takeWord D 0)) 3)) 3) 2602 ti0 (v_X6_takeWord (up (u_X6_takeWord (u_X9_init (u_X6_takeWord D 0) ti0 (v_X6_takeWord D 0)) 3) 2601 ti0 (v_X6_takeWord (u_X9_init (u_X6_takeWord D 0) ti0 (v_X6_takeWord D 0)) 3)) 3)) 5) 9999) 2603 ti0 (w_num (u_X6_takeWord (up (u_X6_takeWord (up (u_X6_takeWord (u_X9_init (u_X6_takeWord D 0) ti0 (v_X6_takeWord D 0)) 3) 2601 ti0 (v_X6_takeWord (u_X9_init (u_X6_takeWord D 0) ti0 (v_X6_takeWord D 0)) 3)) 3) 2602 ti0 (v_X6_takeWord (up (u_X6_takeWord (u_X9_init (u_X6_takeWord D 0) ti0 (v_X6_takeWord D 0)) 3) 2601 ti0 (v_X6_takeWord (u_X9_init (u_X6_takeWord D 0) ti0 (v_X6_takeWord D 0)) 3)) 3)) 5) 9999)) i1 ti0 1 A' D' else K_X6_readStatement_232 (n) c A (up (u_num (u_X6_takeWord (up (u_X6_takeWord (up (u_X6_takeWord (u_X9_init (u_X6_takeWord D 0) ti0 (v_X6_takeWord D 0)) 3) 2601 ti0 (v_X6_takeWord (u_X9_init (u_X6_takeWord D 0) ti0 (v_X6_takeWord D 0)) 3)) 3) 2602 ti0 (v_X6_takeWord (up (u_X6_takeWord (u_X9_init (u_X6_takeWord D 0) ti0 (v_X6_takeWord D 0)) 3) 2601 ti0 (v_X6_takeWord (u_X9_init (u_X6_takeWord D 0) ti0 (v_X6_takeWord D 0)) 3)) 3)) 5) 9999) 2603 ti0 (w_num (u_X6_takeWord (up (u_X6_takeWord (up (u_X6_takeWord (u_X9_init (u_X6_takeWord D 0) ti0 (v_X6_takeWord D 0)) 3) 2601 ti0 (v_X6_takeWord (u_X9_init (u_X6_takeWord D 0) ti0 (v_X6_takeWord D 0)) 3)) 3) 2602 ti0 (v_X6_takeWord (up (u_X6_takeWord (u_X9_init (u_X6_takeWord D 0) ti0 (v_X6_takeWord D 0)) 3) 2601 ti0 (v_X6_takeWord (u_X9_init (u_X6_takeWord D 0) ti0 (v_X6_takeWord D 0)) 3)) 3)) 5) 9999)) i1 ti0 0 A' D')) else (p_num (u_X9_init (u_X6_takeWord D 0) ti0 (v_X6_takeWord D 0)) 9999) ∧ (if (u_num (u_X9_init (u_X6_takeWord D 0) ti0 (v_X6_takeWord D 0)) 9999) 2600 ti0 = 0 then K_X6_readStatement_232 (n) c A (up (u_num (u_X9_init (u_X6_takeWord D 0) ti0 (v_X6_takeWord D 0)) 9999) 2603 ti0 (w_num (u_X9_init (u_X6_takeWord D 0) ti0 (v_X6_takeWord D 0)) 9999)) i1 ti0 1 A' D' else (if (u_num (u_X9_init (u_X6_takeWord D 0) ti0 (v_X6_takeWord D 0)) 9999) 2600 ti0 = 4 then K_X6_readStatement_232 (n) c A (up (u_num (u_X9_init (u_X6_takeWord D 0) ti0 (v_X6_takeWord D 0)) 9999) 2603 ti0 (w_num (u_X9_init (u_X6_takeWord D 0) ti0 (v_X6_takeWord D 0)) 9999)) i1 ti0 1 A' D' else K_X6_readStatement_232 (n) c A (up (u_num (u_X9_init (u_X6_takeWord D 0) ti0 (v_X6_takeWord D 0)) 9999) 2603 ti0 (w_num (u_X9_init (u_X6_takeWord D 0) ti0 (v_X6_takeWord D 0)) 9999)) i1 ti0 0 A' D')))))))))) : K_X6_readStatement_3 (n) c A D i1 ti0 A' D' := by
  unfold K_X6_readStatement_3
  refine fun d hd s hr => ?_
  refine ok (m_dup (q := 4) rfl rfl rfl rfl) ?_
  refine ok (m_aload_n (q := 5) rfl rfl rfl rfl) ?_
  refine ok (m_ldcr (q := 7) rfl rfl rfl) ?_
  obtain ⟨g3, hp⟩ := hp
  refine oke (e_ci (x_cv (q := 10) rfl rfl rfl rfl rfl rfl rfl rfl rfl rfl (is_st hr rfl rfl)) (ev_X6_takeWord (D := D) 0 (by decide) g3) (Nat.le_trans (by decide) (Nat.le_trans hc hd)) hr) (fun s1 r2 => ?_)
  refine oke (e_cvd (x_cp (q := 13) rfl rfl rfl rfl rfl rfl rfl rfl rfl rfl (is_ty r2 rfl ((fl_X6_takeWord D 0 16 ti0 rfl).trans tf0))) (ev_X9_init (D := (u_X6_takeWord D 0)) ti0 (v_X6_takeWord D 0) ((fl_X6_takeWord D 0 16 ti0 rfl).trans tf0) (Ev_rg (ev_X6_takeWord (D := D) 0 (by decide) g3) hr)) (Nat.le_trans (by decide) (Nat.le_trans hc hd)) r2) (fun s4 r5 => ?_)
  refine ok (m_astore_n (q := 14) (lo' := [some (am_r (some 47)), some (am_r (some (A 14 i1))), some (am_r (some (A 16 ti0))), none]) rfl rfl rfl rfl rfl) ?_
  refine ok (m_aload_n (q := 15) rfl rfl rfl rfl) ?_
  refine ok (m_gft (t := 16) (q := 18) rfl rfl rfl r5 rfl ((fl_X9_init (u_X6_takeWord D 0) ti0 (v_X6_takeWord D 0) 16 ti0 rfl).trans ((fl_X6_takeWord D 0 16 ti0 rfl).trans tf0)) rfl rfl rfl) ?_
  refine ok (m_tsw (z := 0) (qs := [60, 201, 95, 126, 126, 150, 160]) (qd := 201) rfl rfl (show rg ((u_X9_init (u_X6_takeWord D 0) ti0 (v_X6_takeWord D 0)) 2600 ti0) from Rp_rg r5 2600 ti0) rfl rfl rfl rfl) ?_
  refine okc (c := (u_X9_init (u_X6_takeWord D 0) ti0 (v_X6_takeWord D 0)) 2600 ti0 = 0) (rfl) (fun c13 => ?_) (fun c13 => ?_)
  · replace hp := ip c13 hp
    refine ok (m_aload_n (q := 61) rfl rfl rfl rfl) ?_
    refine ok (m_aload_n (q := 62) rfl rfl rfl rfl) ?_
    refine ok (m_ldcr (q := 64) rfl rfl rfl) ?_
    obtain ⟨g16, hp⟩ := hp
    refine oke (e_ci (x_cv (q := 67) rfl rfl rfl rfl rfl rfl rfl rfl rfl rfl (is_st r5 rfl rfl)) (ev_X6_takeWord (D := (u_X9_init (u_X6_takeWord D 0) ti0 (v_X6_takeWord D 0))) 1 (by decide) g16) (Nat.le_trans (by decide) (Nat.le_trans hc hd)) r5) (fun s14 r15 => ?_)
    refine oke (e_pft (t := 16) (q := 70) rfl rfl rfl r15 rfl rfl ((fl_X6_takeWord (u_X9_init (u_X6_takeWord D 0) ti0 (v_X6_takeWord D 0)) 1 16 ti0 rfl).trans ((fl_X9_init (u_X6_takeWord D 0) ti0 (v_X6_takeWord D 0) 16 ti0 rfl).trans ((fl_X6_takeWord D 0 16 ti0 rfl).trans tf0))) rfl rfl (Ev_rg (ev_X6_takeWord (D := (u_X9_init (u_X6_takeWord D 0) ti0 (v_X6_takeWord D 0))) 1 (by decide) g16) r5)) (fun s18 r17 => ?_)
    refine ok (m_aload_n (q := 71) rfl rfl rfl rfl) ?_
    refine ok (m_aload_n (q := 72) rfl rfl rfl rfl) ?_
    refine ok (m_sipush (q := 75) rfl rfl rfl) ?_
    obtain ⟨g21, hp⟩ := hp
    refine oke (e_ci (x_cv (q := 78) rfl rfl rfl rfl rfl rfl rfl rfl rfl rfl (is_st r17 rfl rfl)) (ev_X6_takeNumber (D := (up (u_X6_takeWord (u_X9_init (u_X6_takeWord D 0) ti0 (v_X6_takeWord D 0)) 1) 2601 ti0 (v_X6_takeWord (u_X9_init (u_X6_takeWord D 0) ti0 (v_X6_takeWord D 0)) 1))) 9999 ⟨by decide, by decide⟩ g21) (Nat.le_trans (by decide) (Nat.le_trans hc hd)) r17) (fun s19 r20 => ?_)
    refine oke (e_pft (t := 16) (q := 81) rfl rfl rfl r20 rfl rfl ((fl_X6_takeNumber (up (u_X6_takeWord (u_X9_init (u_X6_takeWord D 0) ti0 (v_X6_takeWord D 0)) 1) 2601 ti0 (v_X6_takeWord (u_X9_init (u_X6_takeWord D 0) ti0 (v_X6_takeWord D 0)) 1)) 9999 16 ti0 rfl).trans ((fl_X6_takeWord (u_X9_init (u_X6_takeWord D 0) ti0 (v_X6_takeWord D 0)) 1 16 ti0 rfl).trans ((fl_X9_init (u_X6_takeWord D 0) ti0 (v_X6_takeWord D 0) 16 ti0 rfl).trans ((fl_X6_takeWord D 0 16 ti0 rfl).trans tf0)))) rfl rfl (Ev_rg (ev_X6_takeNumber (D := (up (u_X6_takeWord (u_X9_init (u_X6_takeWord D 0) ti0 (v_X6_takeWord D 0)) 1) 2601 ti0 (v_X6_takeWord (u_X9_init (u_X6_takeWord D 0) ti0 (v_X6_takeWord D 0)) 1))) 9999 ⟨by decide, by decide⟩ g21) r17)) (fun s23 r22 => ?_)
    refine ok (m_aload_n (q := 82) rfl rfl rfl rfl) ?_
    refine ok (m_aload_n (q := 83) rfl rfl rfl rfl) ?_
    refine ok (m_sipush (q := 86) rfl rfl rfl) ?_
    obtain ⟨g26, hp⟩ := hp
    refine oke (e_ci (x_cv (q := 89) rfl rfl rfl rfl rfl rfl rfl rfl rfl rfl (is_st r22 rfl rfl)) (ev_X6_takeNumber (D := (up (u_num (up (u_X6_takeWord (u_X9_init (u_X6_takeWord D 0) ti0 (v_X6_takeWord D 0)) 1) 2601 ti0 (v_X6_takeWord (u_X9_init (u_X6_takeWord D 0) ti0 (v_X6_takeWord D 0)) 1)) 9999) 2603 ti0 (w_num (up (u_X6_takeWord (u_X9_init (u_X6_takeWord D 0) ti0 (v_X6_takeWord D 0)) 1) 2601 ti0 (v_X6_takeWord (u_X9_init (u_X6_takeWord D 0) ti0 (v_X6_takeWord D 0)) 1)) 9999))) 300 ⟨by decide, by decide⟩ g26) (Nat.le_trans (by decide) (Nat.le_trans hc hd)) r22) (fun s24 r25 => ?_)
    refine oke (e_pft (t := 16) (q := 92) rfl rfl rfl r25 rfl rfl ((fl_X6_takeNumber (up (u_num (up (u_X6_takeWord (u_X9_init (u_X6_takeWord D 0) ti0 (v_X6_takeWord D 0)) 1) 2601 ti0 (v_X6_takeWord (u_X9_init (u_X6_takeWord D 0) ti0 (v_X6_takeWord D 0)) 1)) 9999) 2603 ti0 (w_num (up (u_X6_takeWord (u_X9_init (u_X6_takeWord D 0) ti0 (v_X6_takeWord D 0)) 1) 2601 ti0 (v_X6_takeWord (u_X9_init (u_X6_takeWord D 0) ti0 (v_X6_takeWord D 0)) 1)) 9999)) 300 16 ti0 rfl).trans ((fl_X6_takeNumber (up (u_X6_takeWord (u_X9_init (u_X6_takeWord D 0) ti0 (v_X6_takeWord D 0)) 1) 2601 ti0 (v_X6_takeWord (u_X9_init (u_X6_takeWord D 0) ti0 (v_X6_takeWord D 0)) 1)) 9999 16 ti0 rfl).trans ((fl_X6_takeWord (u_X9_init (u_X6_takeWord D 0) ti0 (v_X6_takeWord D 0)) 1 16 ti0 rfl).trans ((fl_X9_init (u_X6_takeWord D 0) ti0 (v_X6_takeWord D 0) 16 ti0 rfl).trans ((fl_X6_takeWord D 0 16 ti0 rfl).trans tf0))))) rfl rfl (Ev_rg (ev_X6_takeNumber (D := (up (u_num (up (u_X6_takeWord (u_X9_init (u_X6_takeWord D 0) ti0 (v_X6_takeWord D 0)) 1) 2601 ti0 (v_X6_takeWord (u_X9_init (u_X6_takeWord D 0) ti0 (v_X6_takeWord D 0)) 1)) 9999) 2603 ti0 (w_num (up (u_X6_takeWord (u_X9_init (u_X6_takeWord D 0) ti0 (v_X6_takeWord D 0)) 1) 2601 ti0 (v_X6_takeWord (u_X9_init (u_X6_takeWord D 0) ti0 (v_X6_takeWord D 0)) 1)) 9999))) 300 ⟨by decide, by decide⟩ g26) r22)) (fun s28 r27 => ?_)
    refine ok (m_goto (q := 212) rfl rfl rfl) ?_
    refine ok (m_aload_n (q := 213) rfl rfl rfl rfl) ?_
    refine ok (m_gft (t := 16) (q := 216) (w := (u_num (up (u_num (up (u_X6_takeWord (u_X9_init (u_X6_takeWord D 0) ti0 (v_X6_takeWord D 0)) 1) 2601 ti0 (v_X6_takeWord (u_X9_init (u_X6_takeWord D 0) ti0 (v_X6_takeWord D 0)) 1)) 9999) 2603 ti0 (w_num (up (u_X6_takeWord (u_X9_init (u_X6_takeWord D 0) ti0 (v_X6_takeWord D 0)) 1) 2601 ti0 (v_X6_takeWord (u_X9_init (u_X6_takeWord D 0) ti0 (v_X6_takeWord D 0)) 1)) 9999)) 300) 2600 ti0) rfl rfl rfl r27 rfl ((fl_X6_takeNumber (up (u_num (up (u_X6_takeWord (u_X9_init (u_X6_takeWord D 0) ti0 (v_X6_takeWord D 0)) 1) 2601 ti0 (v_X6_takeWord (u_X9_init (u_X6_takeWord D 0) ti0 (v_X6_takeWord D 0)) 1)) 9999) 2603 ti0 (w_num (up (u_X6_takeWord (u_X9_init (u_X6_takeWord D 0) ti0 (v_X6_takeWord D 0)) 1) 2601 ti0 (v_X6_takeWord (u_X9_init (u_X6_takeWord D 0) ti0 (v_X6_takeWord D 0)) 1)) 9999)) 300 16 ti0 rfl).trans ((fl_X6_takeNumber (up (u_X6_takeWord (u_X9_init (u_X6_takeWord D 0) ti0 (v_X6_takeWord D 0)) 1) 2601 ti0 (v_X6_takeWord (u_X9_init (u_X6_takeWord D 0) ti0 (v_X6_takeWord D 0)) 1)) 9999 16 ti0 rfl).trans ((fl_X6_takeWord (u_X9_init (u_X6_takeWord D 0) ti0 (v_X6_takeWord D 0)) 1 16 ti0 rfl).trans ((fl_X9_init (u_X6_takeWord D 0) ti0 (v_X6_takeWord D 0) 16 ti0 rfl).trans ((fl_X6_takeWord D 0 16 ti0 rfl).trans tf0))))) rfl rfl rfl) ?_
    refine okc (m_ifeq (qt := 227) (qf := 219) rfl rfl (show rg ((u_num (up (u_num (up (u_X6_takeWord (u_X9_init (u_X6_takeWord D 0) ti0 (v_X6_takeWord D 0)) 1) 2601 ti0 (v_X6_takeWord (u_X9_init (u_X6_takeWord D 0) ti0 (v_X6_takeWord D 0)) 1)) 9999) 2603 ti0 (w_num (up (u_X6_takeWord (u_X9_init (u_X6_takeWord D 0) ti0 (v_X6_takeWord D 0)) 1) 2601 ti0 (v_X6_takeWord (u_X9_init (u_X6_takeWord D 0) ti0 (v_X6_takeWord D 0)) 1)) 9999)) 300) 2600 ti0) from Rp_rg r27 2600 ti0) rfl rfl) (fun c29 => ?_) (fun c29 => ?_)
    · replace hp := ip c29 hp
      refine ok (m_iconst (q := 228) rfl rfl rfl) ?_
      refine ok (m_goto (q := 232) rfl rfl rfl) ?_
      exact hp d hd _ r27
    · replace hp := iq c29 hp
      refine ok (m_aload_n (q := 220) rfl rfl rfl rfl) ?_
      refine ok (m_gft (t := 16) (q := 223) (w := (u_num (up (u_num (up (u_X6_takeWord (u_X9_init (u_X6_takeWord D 0) ti0 (v_X6_takeWord D 0)) 1) 2601 ti0 (v_X6_takeWord (u_X9_init (u_X6_takeWord D 0) ti0 (v_X6_takeWord D 0)) 1)) 9999) 2603 ti0 (w_num (up (u_X6_takeWord (u_X9_init (u_X6_takeWord D 0) ti0 (v_X6_takeWord D 0)) 1) 2601 ti0 (v_X6_takeWord (u_X9_init (u_X6_takeWord D 0) ti0 (v_X6_takeWord D 0)) 1)) 9999)) 300) 2600 ti0) rfl rfl rfl r27 rfl ((fl_X6_takeNumber (up (u_num (up (u_X6_takeWord (u_X9_init (u_X6_takeWord D 0) ti0 (v_X6_takeWord D 0)) 1) 2601 ti0 (v_X6_takeWord (u_X9_init (u_X6_takeWord D 0) ti0 (v_X6_takeWord D 0)) 1)) 9999) 2603 ti0 (w_num (up (u_X6_takeWord (u_X9_init (u_X6_takeWord D 0) ti0 (v_X6_takeWord D 0)) 1) 2601 ti0 (v_X6_takeWord (u_X9_init (u_X6_takeWord D 0) ti0 (v_X6_takeWord D 0)) 1)) 9999)) 300 16 ti0 rfl).trans ((fl_X6_takeNumber (up (u_X6_takeWord (u_X9_init (u_X6_takeWord D 0) ti0 (v_X6_takeWord D 0)) 1) 2601 ti0 (v_X6_takeWord (u_X9_init (u_X6_takeWord D 0) ti0 (v_X6_takeWord D 0)) 1)) 9999 16 ti0 rfl).trans ((fl_X6_takeWord (u_X9_init (u_X6_takeWord D 0) ti0 (v_X6_takeWord D 0)) 1 16 ti0 rfl).trans ((fl_X9_init (u_X6_takeWord D 0) ti0 (v_X6_takeWord D 0) 16 ti0 rfl).trans ((fl_X6_takeWord D 0 16 ti0 rfl).trans tf0))))) rfl rfl rfl) ?_
      refine ok (m_iconst (q := 224) rfl rfl rfl) ?_
      refine okc (m_cmpne (qt := 231) (qf := 227) rfl rfl (show rg ((u_num (up (u_num (up (u_X6_takeWord (u_X9_init (u_X6_takeWord D 0) ti0 (v_X6_takeWord D 0)) 1) 2601 ti0 (v_X6_takeWord (u_X9_init (u_X6_takeWord D 0) ti0 (v_X6_takeWord D 0)) 1)) 9999) 2603 ti0 (w_num (up (u_X6_takeWord (u_X9_init (u_X6_takeWord D 0) ti0 (v_X6_takeWord D 0)) 1) 2601 ti0 (v_X6_takeWord (u_X9_init (u_X6_takeWord D 0) ti0 (v_X6_takeWord D 0)) 1)) 9999)) 300) 2600 ti0) from Rp_rg r27 2600 ti0) ⟨by decide, by decide⟩ rfl rfl) (fun c30 => ?_) (fun c30 => ?_)
      · replace hp := ip c30 hp
        refine ok (m_iconst (q := 228) rfl rfl rfl) ?_
        refine ok (m_goto (q := 232) rfl rfl rfl) ?_
        exact hp d hd _ r27
      · replace hp := iq c30 hp
        refine ok (m_iconst (q := 232) rfl rfl rfl) ?_
        exact hp d hd _ r27
  · replace hp := iq c13 hp
    refine okc (c := (u_X9_init (u_X6_takeWord D 0) ti0 (v_X6_takeWord D 0)) 2600 ti0 = 1) (rfl) (fun c31 => ?_) (fun c31 => ?_)
    · replace hp := ip c31 hp
      refine ok (m_aload_n (q := 202) rfl rfl rfl rfl) ?_
      refine ok (m_aload_n (q := 203) rfl rfl rfl rfl) ?_
      refine ok (m_sipush (q := 206) rfl rfl rfl) ?_
      obtain ⟨g34, hp⟩ := hp
      refine oke (e_ci (x_cv (q := 209) rfl rfl rfl rfl rfl rfl rfl rfl rfl rfl (is_st r5 rfl rfl)) (ev_X6_takeNumber (D := (u_X9_init (u_X6_takeWord D 0) ti0 (v_X6_takeWord D 0))) 9999 ⟨by decide, by decide⟩ g34) (Nat.le_trans (by decide) (Nat.le_trans hc hd)) r5) (fun s32 r33 => ?_)
      refine oke (e_pft (t := 16) (q := 212) rfl rfl rfl r33 rfl rfl ((fl_X6_takeNumber (u_X9_init (u_X6_takeWord D 0) ti0 (v_X6_takeWord D 0)) 9999 16 ti0 rfl).trans ((fl_X9_init (u_X6_takeWord D 0) ti0 (v_X6_takeWord D 0) 16 ti0 rfl).trans ((fl_X6_takeWord D 0 16 ti0 rfl).trans tf0))) rfl rfl (Ev_rg (ev_X6_takeNumber (D := (u_X9_init (u_X6_takeWord D 0) ti0 (v_X6_takeWord D 0))) 9999 ⟨by decide, by decide⟩ g34) r5)) (fun s36 r35 => ?_)
      refine ok (m_aload_n (q := 213) rfl rfl rfl rfl) ?_
      refine ok (m_gft (t := 16) (q := 216) (w := (u_num (u_X9_init (u_X6_takeWord D 0) ti0 (v_X6_takeWord D 0)) 9999) 2600 ti0) rfl rfl rfl r35 rfl ((fl_X6_takeNumber (u_X9_init (u_X6_takeWord D 0) ti0 (v_X6_takeWord D 0)) 9999 16 ti0 rfl).trans ((fl_X9_init (u_X6_takeWord D 0) ti0 (v_X6_takeWord D 0) 16 ti0 rfl).trans ((fl_X6_takeWord D 0 16 ti0 rfl).trans tf0))) rfl rfl rfl) ?_
      refine okc (m_ifeq (qt := 227) (qf := 219) rfl rfl (show rg ((u_num (u_X9_init (u_X6_takeWord D 0) ti0 (v_X6_takeWord D 0)) 9999) 2600 ti0) from Rp_rg r35 2600 ti0) rfl rfl) (fun c37 => ?_) (fun c37 => ?_)
      · replace hp := ip c37 hp
        refine ok (m_iconst (q := 228) rfl rfl rfl) ?_
        refine ok (m_goto (q := 232) rfl rfl rfl) ?_
        exact hp d hd _ r35
      · replace hp := iq c37 hp
        refine ok (m_aload_n (q := 220) rfl rfl rfl rfl) ?_
        refine ok (m_gft (t := 16) (q := 223) (w := (u_num (u_X9_init (u_X6_takeWord D 0) ti0 (v_X6_takeWord D 0)) 9999) 2600 ti0) rfl rfl rfl r35 rfl ((fl_X6_takeNumber (u_X9_init (u_X6_takeWord D 0) ti0 (v_X6_takeWord D 0)) 9999 16 ti0 rfl).trans ((fl_X9_init (u_X6_takeWord D 0) ti0 (v_X6_takeWord D 0) 16 ti0 rfl).trans ((fl_X6_takeWord D 0 16 ti0 rfl).trans tf0))) rfl rfl rfl) ?_
        refine ok (m_iconst (q := 224) rfl rfl rfl) ?_
        refine okc (m_cmpne (qt := 231) (qf := 227) rfl rfl (show rg ((u_num (u_X9_init (u_X6_takeWord D 0) ti0 (v_X6_takeWord D 0)) 9999) 2600 ti0) from Rp_rg r35 2600 ti0) ⟨by decide, by decide⟩ rfl rfl) (fun c38 => ?_) (fun c38 => ?_)
        · replace hp := ip c38 hp
          refine ok (m_iconst (q := 228) rfl rfl rfl) ?_
          refine ok (m_goto (q := 232) rfl rfl rfl) ?_
          exact hp d hd _ r35
        · replace hp := iq c38 hp
          refine ok (m_iconst (q := 232) rfl rfl rfl) ?_
          exact hp d hd _ r35
    · replace hp := iq c31 hp
      refine okc (c := (u_X9_init (u_X6_takeWord D 0) ti0 (v_X6_takeWord D 0)) 2600 ti0 = 2) (rfl) (fun c39 => ?_) (fun c39 => ?_)
      · replace hp := ip c39 hp
        refine ok (m_aload_n (q := 96) rfl rfl rfl rfl) ?_
        refine ok (m_aload_n (q := 97) rfl rfl rfl rfl) ?_
        refine ok (m_bipush (q := 99) rfl rfl rfl) ?_
        obtain ⟨g42, hp⟩ := hp
        refine oke (e_ci (x_cv (q := 102) rfl rfl rfl rfl rfl rfl rfl rfl rfl rfl (is_st r5 rfl rfl)) (ev_X6_takeNumber (D := (u_X9_init (u_X6_takeWord D 0) ti0 (v_X6_takeWord D 0))) 100 ⟨by decide, by decide⟩ g42) (Nat.le_trans (by decide) (Nat.le_trans hc hd)) r5) (fun s40 r41 => ?_)
        refine oke (e_pft (t := 16) (q := 105) rfl rfl rfl r41 rfl rfl ((fl_X6_takeNumber (u_X9_init (u_X6_takeWord D 0) ti0 (v_X6_takeWord D 0)) 100 16 ti0 rfl).trans ((fl_X9_init (u_X6_takeWord D 0) ti0 (v_X6_takeWord D 0) 16 ti0 rfl).trans ((fl_X6_takeWord D 0 16 ti0 rfl).trans tf0))) rfl rfl (Ev_rg (ev_X6_takeNumber (D := (u_X9_init (u_X6_takeWord D 0) ti0 (v_X6_takeWord D 0))) 100 ⟨by decide, by decide⟩ g42) r5)) (fun s44 r43 => ?_)
        refine ok (m_aload_n (q := 106) rfl rfl rfl rfl) ?_
        refine ok (m_ldcr (q := 108) rfl rfl rfl) ?_
        obtain ⟨g47, hp⟩ := hp
        refine oke (e_ci (x_cv (q := 111) rfl rfl rfl rfl rfl rfl rfl rfl rfl rfl (is_st r43 rfl rfl)) (ev_X6_takeWord (D := (up (u_num (u_X9_init (u_X6_takeWord D 0) ti0 (v_X6_takeWord D 0)) 100) 2604 ti0 (w_num (u_X9_init (u_X6_takeWord D 0) ti0 (v_X6_takeWord D 0)) 100))) 2 (by decide) g47) (Nat.le_trans (by decide) (Nat.le_trans hc hd)) r43) (fun s45 r46 => ?_)
        refine ok (m_popi (q := 112) rfl rfl rfl) ?_
        refine ok (m_aload_n (q := 113) rfl rfl rfl rfl) ?_
        refine ok (m_aload_n (q := 114) rfl rfl rfl rfl) ?_
        refine ok (m_sipush (q := 117) rfl rfl rfl) ?_
        obtain ⟨g50, hp⟩ := hp
        refine oke (e_ci (x_cv (q := 120) rfl rfl rfl rfl rfl rfl rfl rfl rfl rfl (is_st r46 rfl rfl)) (ev_X6_takeNumber (D := (u_X6_takeWord (up (u_num (u_X9_init (u_X6_takeWord D 0) ti0 (v_X6_takeWord D 0)) 100) 2604 ti0 (w_num (u_X9_init (u_X6_takeWord D 0) ti0 (v_X6_takeWord D 0)) 100)) 2)) 9999 ⟨by decide, by decide⟩ g50) (Nat.le_trans (by decide) (Nat.le_trans hc hd)) r46) (fun s48 r49 => ?_)
        refine oke (e_pft (t := 16) (q := 123) rfl rfl rfl r49 rfl rfl ((fl_X6_takeNumber (u_X6_takeWord (up (u_num (u_X9_init (u_X6_takeWord D 0) ti0 (v_X6_takeWord D 0)) 100) 2604 ti0 (w_num (u_X9_init (u_X6_takeWord D 0) ti0 (v_X6_takeWord D 0)) 100)) 2) 9999 16 ti0 rfl).trans ((fl_X6_takeWord (up (u_num (u_X9_init (u_X6_takeWord D 0) ti0 (v_X6_takeWord D 0)) 100) 2604 ti0 (w_num (u_X9_init (u_X6_takeWord D 0) ti0 (v_X6_takeWord D 0)) 100)) 2 16 ti0 rfl).trans ((fl_X6_takeNumber (u_X9_init (u_X6_takeWord D 0) ti0 (v_X6_takeWord D 0)) 100 16 ti0 rfl).trans ((fl_X9_init (u_X6_takeWord D 0) ti0 (v_X6_takeWord D 0) 16 ti0 rfl).trans ((fl_X6_takeWord D 0 16 ti0 rfl).trans tf0))))) rfl rfl (Ev_rg (ev_X6_takeNumber (D := (u_X6_takeWord (up (u_num (u_X9_init (u_X6_takeWord D 0) ti0 (v_X6_takeWord D 0)) 100) 2604 ti0 (w_num (u_X9_init (u_X6_takeWord D 0) ti0 (v_X6_takeWord D 0)) 100)) 2)) 9999 ⟨by decide, by decide⟩ g50) r46)) (fun s52 r51 => ?_)
        refine ok (m_goto (q := 212) rfl rfl rfl) ?_
        refine ok (m_aload_n (q := 213) rfl rfl rfl rfl) ?_
        refine ok (m_gft (t := 16) (q := 216) (w := (u_num (u_X6_takeWord (up (u_num (u_X9_init (u_X6_takeWord D 0) ti0 (v_X6_takeWord D 0)) 100) 2604 ti0 (w_num (u_X9_init (u_X6_takeWord D 0) ti0 (v_X6_takeWord D 0)) 100)) 2) 9999) 2600 ti0) rfl rfl rfl r51 rfl ((fl_X6_takeNumber (u_X6_takeWord (up (u_num (u_X9_init (u_X6_takeWord D 0) ti0 (v_X6_takeWord D 0)) 100) 2604 ti0 (w_num (u_X9_init (u_X6_takeWord D 0) ti0 (v_X6_takeWord D 0)) 100)) 2) 9999 16 ti0 rfl).trans ((fl_X6_takeWord (up (u_num (u_X9_init (u_X6_takeWord D 0) ti0 (v_X6_takeWord D 0)) 100) 2604 ti0 (w_num (u_X9_init (u_X6_takeWord D 0) ti0 (v_X6_takeWord D 0)) 100)) 2 16 ti0 rfl).trans ((fl_X6_takeNumber (u_X9_init (u_X6_takeWord D 0) ti0 (v_X6_takeWord D 0)) 100 16 ti0 rfl).trans ((fl_X9_init (u_X6_takeWord D 0) ti0 (v_X6_takeWord D 0) 16 ti0 rfl).trans ((fl_X6_takeWord D 0 16 ti0 rfl).trans tf0))))) rfl rfl rfl) ?_
        refine okc (m_ifeq (qt := 227) (qf := 219) rfl rfl (show rg ((u_num (u_X6_takeWord (up (u_num (u_X9_init (u_X6_takeWord D 0) ti0 (v_X6_takeWord D 0)) 100) 2604 ti0 (w_num (u_X9_init (u_X6_takeWord D 0) ti0 (v_X6_takeWord D 0)) 100)) 2) 9999) 2600 ti0) from Rp_rg r51 2600 ti0) rfl rfl) (fun c53 => ?_) (fun c53 => ?_)
        · replace hp := ip c53 hp
          refine ok (m_iconst (q := 228) rfl rfl rfl) ?_
          refine ok (m_goto (q := 232) rfl rfl rfl) ?_
          exact hp d hd _ r51
        · replace hp := iq c53 hp
          refine ok (m_aload_n (q := 220) rfl rfl rfl rfl) ?_
          refine ok (m_gft (t := 16) (q := 223) (w := (u_num (u_X6_takeWord (up (u_num (u_X9_init (u_X6_takeWord D 0) ti0 (v_X6_takeWord D 0)) 100) 2604 ti0 (w_num (u_X9_init (u_X6_takeWord D 0) ti0 (v_X6_takeWord D 0)) 100)) 2) 9999) 2600 ti0) rfl rfl rfl r51 rfl ((fl_X6_takeNumber (u_X6_takeWord (up (u_num (u_X9_init (u_X6_takeWord D 0) ti0 (v_X6_takeWord D 0)) 100) 2604 ti0 (w_num (u_X9_init (u_X6_takeWord D 0) ti0 (v_X6_takeWord D 0)) 100)) 2) 9999 16 ti0 rfl).trans ((fl_X6_takeWord (up (u_num (u_X9_init (u_X6_takeWord D 0) ti0 (v_X6_takeWord D 0)) 100) 2604 ti0 (w_num (u_X9_init (u_X6_takeWord D 0) ti0 (v_X6_takeWord D 0)) 100)) 2 16 ti0 rfl).trans ((fl_X6_takeNumber (u_X9_init (u_X6_takeWord D 0) ti0 (v_X6_takeWord D 0)) 100 16 ti0 rfl).trans ((fl_X9_init (u_X6_takeWord D 0) ti0 (v_X6_takeWord D 0) 16 ti0 rfl).trans ((fl_X6_takeWord D 0 16 ti0 rfl).trans tf0))))) rfl rfl rfl) ?_
          refine ok (m_iconst (q := 224) rfl rfl rfl) ?_
          refine okc (m_cmpne (qt := 231) (qf := 227) rfl rfl (show rg ((u_num (u_X6_takeWord (up (u_num (u_X9_init (u_X6_takeWord D 0) ti0 (v_X6_takeWord D 0)) 100) 2604 ti0 (w_num (u_X9_init (u_X6_takeWord D 0) ti0 (v_X6_takeWord D 0)) 100)) 2) 9999) 2600 ti0) from Rp_rg r51 2600 ti0) ⟨by decide, by decide⟩ rfl rfl) (fun c54 => ?_) (fun c54 => ?_)
          · replace hp := ip c54 hp
            refine ok (m_iconst (q := 228) rfl rfl rfl) ?_
            refine ok (m_goto (q := 232) rfl rfl rfl) ?_
            exact hp d hd _ r51
          · replace hp := iq c54 hp
            refine ok (m_iconst (q := 232) rfl rfl rfl) ?_
            exact hp d hd _ r51
      · replace hp := iq c39 hp
        refine okc (c := (u_X9_init (u_X6_takeWord D 0) ti0 (v_X6_takeWord D 0)) 2600 ti0 = 3) (rfl) (fun c55 => ?_) (fun c55 => ?_)
        · replace hp := ip c55 hp
          refine ok (m_aload_n (q := 127) rfl rfl rfl rfl) ?_
          refine ok (m_aload_n (q := 128) rfl rfl rfl rfl) ?_
          refine ok (m_ldcr (q := 130) rfl rfl rfl) ?_
          obtain ⟨g58, hp⟩ := hp
          refine oke (e_ci (x_cv (q := 133) rfl rfl rfl rfl rfl rfl rfl rfl rfl rfl (is_st r5 rfl rfl)) (ev_X6_takeWord (D := (u_X9_init (u_X6_takeWord D 0) ti0 (v_X6_takeWord D 0))) 3 (by decide) g58) (Nat.le_trans (by decide) (Nat.le_trans hc hd)) r5) (fun s56 r57 => ?_)
          refine oke (e_pft (t := 16) (q := 136) rfl rfl rfl r57 rfl rfl ((fl_X6_takeWord (u_X9_init (u_X6_takeWord D 0) ti0 (v_X6_takeWord D 0)) 3 16 ti0 rfl).trans ((fl_X9_init (u_X6_takeWord D 0) ti0 (v_X6_takeWord D 0) 16 ti0 rfl).trans ((fl_X6_takeWord D 0 16 ti0 rfl).trans tf0))) rfl rfl (Ev_rg (ev_X6_takeWord (D := (u_X9_init (u_X6_takeWord D 0) ti0 (v_X6_takeWord D 0))) 3 (by decide) g58) r5)) (fun s60 r59 => ?_)
          refine ok (m_aload_n (q := 137) rfl rfl rfl rfl) ?_
          refine ok (m_aload_n (q := 138) rfl rfl rfl rfl) ?_
          refine ok (m_sipush (q := 141) rfl rfl rfl) ?_
          obtain ⟨g63, hp⟩ := hp
          refine oke (e_ci (x_cv (q := 144) rfl rfl rfl rfl rfl rfl rfl rfl rfl rfl (is_st r59 rfl rfl)) (ev_X6_takeNumber (D := (up (u_X6_takeWord (u_X9_init (u_X6_takeWord D 0) ti0 (v_X6_takeWord D 0)) 3) 2601 ti0 (v_X6_takeWord (u_X9_init (u_X6_takeWord D 0) ti0 (v_X6_takeWord D 0)) 3))) 9999 ⟨by decide, by decide⟩ g63) (Nat.le_trans (by decide) (Nat.le_trans hc hd)) r59) (fun s61 r62 => ?_)
          refine oke (e_pft (t := 16) (q := 147) rfl rfl rfl r62 rfl rfl ((fl_X6_takeNumber (up (u_X6_takeWord (u_X9_init (u_X6_takeWord D 0) ti0 (v_X6_takeWord D 0)) 3) 2601 ti0 (v_X6_takeWord (u_X9_init (u_X6_takeWord D 0) ti0 (v_X6_takeWord D 0)) 3)) 9999 16 ti0 rfl).trans ((fl_X6_takeWord (u_X9_init (u_X6_takeWord D 0) ti0 (v_X6_takeWord D 0)) 3 16 ti0 rfl).trans ((fl_X9_init (u_X6_takeWord D 0) ti0 (v_X6_takeWord D 0) 16 ti0 rfl).trans ((fl_X6_takeWord D 0 16 ti0 rfl).trans tf0)))) rfl rfl (Ev_rg (ev_X6_takeNumber (D := (up (u_X6_takeWord (u_X9_init (u_X6_takeWord D 0) ti0 (v_X6_takeWord D 0)) 3) 2601 ti0 (v_X6_takeWord (u_X9_init (u_X6_takeWord D 0) ti0 (v_X6_takeWord D 0)) 3))) 9999 ⟨by decide, by decide⟩ g63) r59)) (fun s65 r64 => ?_)
          refine ok (m_goto (q := 212) rfl rfl rfl) ?_
          refine ok (m_aload_n (q := 213) rfl rfl rfl rfl) ?_
          refine ok (m_gft (t := 16) (q := 216) (w := (u_num (up (u_X6_takeWord (u_X9_init (u_X6_takeWord D 0) ti0 (v_X6_takeWord D 0)) 3) 2601 ti0 (v_X6_takeWord (u_X9_init (u_X6_takeWord D 0) ti0 (v_X6_takeWord D 0)) 3)) 9999) 2600 ti0) rfl rfl rfl r64 rfl ((fl_X6_takeNumber (up (u_X6_takeWord (u_X9_init (u_X6_takeWord D 0) ti0 (v_X6_takeWord D 0)) 3) 2601 ti0 (v_X6_takeWord (u_X9_init (u_X6_takeWord D 0) ti0 (v_X6_takeWord D 0)) 3)) 9999 16 ti0 rfl).trans ((fl_X6_takeWord (u_X9_init (u_X6_takeWord D 0) ti0 (v_X6_takeWord D 0)) 3 16 ti0 rfl).trans ((fl_X9_init (u_X6_takeWord D 0) ti0 (v_X6_takeWord D 0) 16 ti0 rfl).trans ((fl_X6_takeWord D 0 16 ti0 rfl).trans tf0)))) rfl rfl rfl) ?_
          refine okc (m_ifeq (qt := 227) (qf := 219) rfl rfl (show rg ((u_num (up (u_X6_takeWord (u_X9_init (u_X6_takeWord D 0) ti0 (v_X6_takeWord D 0)) 3) 2601 ti0 (v_X6_takeWord (u_X9_init (u_X6_takeWord D 0) ti0 (v_X6_takeWord D 0)) 3)) 9999) 2600 ti0) from Rp_rg r64 2600 ti0) rfl rfl) (fun c66 => ?_) (fun c66 => ?_)
          · replace hp := ip c66 hp
            refine ok (m_iconst (q := 228) rfl rfl rfl) ?_
            refine ok (m_goto (q := 232) rfl rfl rfl) ?_
            exact hp d hd _ r64
          · replace hp := iq c66 hp
            refine ok (m_aload_n (q := 220) rfl rfl rfl rfl) ?_
            refine ok (m_gft (t := 16) (q := 223) (w := (u_num (up (u_X6_takeWord (u_X9_init (u_X6_takeWord D 0) ti0 (v_X6_takeWord D 0)) 3) 2601 ti0 (v_X6_takeWord (u_X9_init (u_X6_takeWord D 0) ti0 (v_X6_takeWord D 0)) 3)) 9999) 2600 ti0) rfl rfl rfl r64 rfl ((fl_X6_takeNumber (up (u_X6_takeWord (u_X9_init (u_X6_takeWord D 0) ti0 (v_X6_takeWord D 0)) 3) 2601 ti0 (v_X6_takeWord (u_X9_init (u_X6_takeWord D 0) ti0 (v_X6_takeWord D 0)) 3)) 9999 16 ti0 rfl).trans ((fl_X6_takeWord (u_X9_init (u_X6_takeWord D 0) ti0 (v_X6_takeWord D 0)) 3 16 ti0 rfl).trans ((fl_X9_init (u_X6_takeWord D 0) ti0 (v_X6_takeWord D 0) 16 ti0 rfl).trans ((fl_X6_takeWord D 0 16 ti0 rfl).trans tf0)))) rfl rfl rfl) ?_
            refine ok (m_iconst (q := 224) rfl rfl rfl) ?_
            refine okc (m_cmpne (qt := 231) (qf := 227) rfl rfl (show rg ((u_num (up (u_X6_takeWord (u_X9_init (u_X6_takeWord D 0) ti0 (v_X6_takeWord D 0)) 3) 2601 ti0 (v_X6_takeWord (u_X9_init (u_X6_takeWord D 0) ti0 (v_X6_takeWord D 0)) 3)) 9999) 2600 ti0) from Rp_rg r64 2600 ti0) ⟨by decide, by decide⟩ rfl rfl) (fun c67 => ?_) (fun c67 => ?_)
            · replace hp := ip c67 hp
              refine ok (m_iconst (q := 228) rfl rfl rfl) ?_
              refine ok (m_goto (q := 232) rfl rfl rfl) ?_
              exact hp d hd _ r64
            · replace hp := iq c67 hp
              refine ok (m_iconst (q := 232) rfl rfl rfl) ?_
              exact hp d hd _ r64
        · replace hp := iq c55 hp
          refine okc (c := (u_X9_init (u_X6_takeWord D 0) ti0 (v_X6_takeWord D 0)) 2600 ti0 = 4) (rfl) (fun c68 => ?_) (fun c68 => ?_)
          · replace hp := ip c68 hp
            refine ok (m_aload_n (q := 127) rfl rfl rfl rfl) ?_
            refine ok (m_aload_n (q := 128) rfl rfl rfl rfl) ?_
            refine ok (m_ldcr (q := 130) rfl rfl rfl) ?_
            obtain ⟨g71, hp⟩ := hp
            refine oke (e_ci (x_cv (q := 133) rfl rfl rfl rfl rfl rfl rfl rfl rfl rfl (is_st r5 rfl rfl)) (ev_X6_takeWord (D := (u_X9_init (u_X6_takeWord D 0) ti0 (v_X6_takeWord D 0))) 3 (by decide) g71) (Nat.le_trans (by decide) (Nat.le_trans hc hd)) r5) (fun s69 r70 => ?_)
            refine oke (e_pft (t := 16) (q := 136) rfl rfl rfl r70 rfl rfl ((fl_X6_takeWord (u_X9_init (u_X6_takeWord D 0) ti0 (v_X6_takeWord D 0)) 3 16 ti0 rfl).trans ((fl_X9_init (u_X6_takeWord D 0) ti0 (v_X6_takeWord D 0) 16 ti0 rfl).trans ((fl_X6_takeWord D 0 16 ti0 rfl).trans tf0))) rfl rfl (Ev_rg (ev_X6_takeWord (D := (u_X9_init (u_X6_takeWord D 0) ti0 (v_X6_takeWord D 0))) 3 (by decide) g71) r5)) (fun s73 r72 => ?_)
            refine ok (m_aload_n (q := 137) rfl rfl rfl rfl) ?_
            refine ok (m_aload_n (q := 138) rfl rfl rfl rfl) ?_
            refine ok (m_sipush (q := 141) rfl rfl rfl) ?_
            obtain ⟨g76, hp⟩ := hp
            refine oke (e_ci (x_cv (q := 144) rfl rfl rfl rfl rfl rfl rfl rfl rfl rfl (is_st r72 rfl rfl)) (ev_X6_takeNumber (D := (up (u_X6_takeWord (u_X9_init (u_X6_takeWord D 0) ti0 (v_X6_takeWord D 0)) 3) 2601 ti0 (v_X6_takeWord (u_X9_init (u_X6_takeWord D 0) ti0 (v_X6_takeWord D 0)) 3))) 9999 ⟨by decide, by decide⟩ g76) (Nat.le_trans (by decide) (Nat.le_trans hc hd)) r72) (fun s74 r75 => ?_)
            refine oke (e_pft (t := 16) (q := 147) rfl rfl rfl r75 rfl rfl ((fl_X6_takeNumber (up (u_X6_takeWord (u_X9_init (u_X6_takeWord D 0) ti0 (v_X6_takeWord D 0)) 3) 2601 ti0 (v_X6_takeWord (u_X9_init (u_X6_takeWord D 0) ti0 (v_X6_takeWord D 0)) 3)) 9999 16 ti0 rfl).trans ((fl_X6_takeWord (u_X9_init (u_X6_takeWord D 0) ti0 (v_X6_takeWord D 0)) 3 16 ti0 rfl).trans ((fl_X9_init (u_X6_takeWord D 0) ti0 (v_X6_takeWord D 0) 16 ti0 rfl).trans ((fl_X6_takeWord D 0 16 ti0 rfl).trans tf0)))) rfl rfl (Ev_rg (ev_X6_takeNumber (D := (up (u_X6_takeWord (u_X9_init (u_X6_takeWord D 0) ti0 (v_X6_takeWord D 0)) 3) 2601 ti0 (v_X6_takeWord (u_X9_init (u_X6_takeWord D 0) ti0 (v_X6_takeWord D 0)) 3))) 9999 ⟨by decide, by decide⟩ g76) r72)) (fun s78 r77 => ?_)
            refine ok (m_goto (q := 212) rfl rfl rfl) ?_
            refine ok (m_aload_n (q := 213) rfl rfl rfl rfl) ?_
            refine ok (m_gft (t := 16) (q := 216) (w := (u_num (up (u_X6_takeWord (u_X9_init (u_X6_takeWord D 0) ti0 (v_X6_takeWord D 0)) 3) 2601 ti0 (v_X6_takeWord (u_X9_init (u_X6_takeWord D 0) ti0 (v_X6_takeWord D 0)) 3)) 9999) 2600 ti0) rfl rfl rfl r77 rfl ((fl_X6_takeNumber (up (u_X6_takeWord (u_X9_init (u_X6_takeWord D 0) ti0 (v_X6_takeWord D 0)) 3) 2601 ti0 (v_X6_takeWord (u_X9_init (u_X6_takeWord D 0) ti0 (v_X6_takeWord D 0)) 3)) 9999 16 ti0 rfl).trans ((fl_X6_takeWord (u_X9_init (u_X6_takeWord D 0) ti0 (v_X6_takeWord D 0)) 3 16 ti0 rfl).trans ((fl_X9_init (u_X6_takeWord D 0) ti0 (v_X6_takeWord D 0) 16 ti0 rfl).trans ((fl_X6_takeWord D 0 16 ti0 rfl).trans tf0)))) rfl rfl rfl) ?_
            refine okc (m_ifeq (qt := 227) (qf := 219) rfl rfl (show rg ((u_num (up (u_X6_takeWord (u_X9_init (u_X6_takeWord D 0) ti0 (v_X6_takeWord D 0)) 3) 2601 ti0 (v_X6_takeWord (u_X9_init (u_X6_takeWord D 0) ti0 (v_X6_takeWord D 0)) 3)) 9999) 2600 ti0) from Rp_rg r77 2600 ti0) rfl rfl) (fun c79 => ?_) (fun c79 => ?_)
            · replace hp := ip c79 hp
              refine ok (m_iconst (q := 228) rfl rfl rfl) ?_
              refine ok (m_goto (q := 232) rfl rfl rfl) ?_
              exact hp d hd _ r77
            · replace hp := iq c79 hp
              refine ok (m_aload_n (q := 220) rfl rfl rfl rfl) ?_
              refine ok (m_gft (t := 16) (q := 223) (w := (u_num (up (u_X6_takeWord (u_X9_init (u_X6_takeWord D 0) ti0 (v_X6_takeWord D 0)) 3) 2601 ti0 (v_X6_takeWord (u_X9_init (u_X6_takeWord D 0) ti0 (v_X6_takeWord D 0)) 3)) 9999) 2600 ti0) rfl rfl rfl r77 rfl ((fl_X6_takeNumber (up (u_X6_takeWord (u_X9_init (u_X6_takeWord D 0) ti0 (v_X6_takeWord D 0)) 3) 2601 ti0 (v_X6_takeWord (u_X9_init (u_X6_takeWord D 0) ti0 (v_X6_takeWord D 0)) 3)) 9999 16 ti0 rfl).trans ((fl_X6_takeWord (u_X9_init (u_X6_takeWord D 0) ti0 (v_X6_takeWord D 0)) 3 16 ti0 rfl).trans ((fl_X9_init (u_X6_takeWord D 0) ti0 (v_X6_takeWord D 0) 16 ti0 rfl).trans ((fl_X6_takeWord D 0 16 ti0 rfl).trans tf0)))) rfl rfl rfl) ?_
              refine ok (m_iconst (q := 224) rfl rfl rfl) ?_
              refine okc (m_cmpne (qt := 231) (qf := 227) rfl rfl (show rg ((u_num (up (u_X6_takeWord (u_X9_init (u_X6_takeWord D 0) ti0 (v_X6_takeWord D 0)) 3) 2601 ti0 (v_X6_takeWord (u_X9_init (u_X6_takeWord D 0) ti0 (v_X6_takeWord D 0)) 3)) 9999) 2600 ti0) from Rp_rg r77 2600 ti0) ⟨by decide, by decide⟩ rfl rfl) (fun c80 => ?_) (fun c80 => ?_)
              · replace hp := ip c80 hp
                refine ok (m_iconst (q := 228) rfl rfl rfl) ?_
                refine ok (m_goto (q := 232) rfl rfl rfl) ?_
                exact hp d hd _ r77
              · replace hp := iq c80 hp
                refine ok (m_iconst (q := 232) rfl rfl rfl) ?_
                exact hp d hd _ r77
          · replace hp := iq c68 hp
            refine okc (c := (u_X9_init (u_X6_takeWord D 0) ti0 (v_X6_takeWord D 0)) 2600 ti0 = 5) (rfl) (fun c81 => ?_) (fun c81 => ?_)
            · replace hp := ip c81 hp
              refine ok (m_aload_n (q := 151) rfl rfl rfl rfl) ?_
              refine ok (m_ldcr (q := 153) rfl rfl rfl) ?_
              obtain ⟨g84, hp⟩ := hp
              refine oke (e_ci (x_cv (q := 156) rfl rfl rfl rfl rfl rfl rfl rfl rfl rfl (is_st r5 rfl rfl)) (ev_X6_takeWord (D := (u_X9_init (u_X6_takeWord D 0) ti0 (v_X6_takeWord D 0))) 4 (by decide) g84) (Nat.le_trans (by decide) (Nat.le_trans hc hd)) r5) (fun s82 r83 => ?_)
              refine ok (m_popi (q := 157) rfl rfl rfl) ?_
              refine ok (m_goto (q := 212) rfl rfl rfl) ?_
              refine ok (m_aload_n (q := 213) rfl rfl rfl rfl) ?_
              refine ok (m_gft (t := 16) (q := 216) rfl rfl rfl r83 rfl ((fl_X6_takeWord (u_X9_init (u_X6_takeWord D 0) ti0 (v_X6_takeWord D 0)) 4 16 ti0 rfl).trans ((fl_X9_init (u_X6_takeWord D 0) ti0 (v_X6_takeWord D 0) 16 ti0 rfl).trans ((fl_X6_takeWord D 0 16 ti0 rfl).trans tf0))) rfl rfl rfl) ?_
              refine okc (m_ifeq (qt := 227) (qf := 219) rfl rfl (show rg ((u_X6_takeWord (u_X9_init (u_X6_takeWord D 0) ti0 (v_X6_takeWord D 0)) 4) 2600 ti0) from Rp_rg r83 2600 ti0) rfl rfl) (fun c85 => ?_) (fun c85 => ?_)
              · replace hp := ip c85 hp
                refine ok (m_iconst (q := 228) rfl rfl rfl) ?_
                refine ok (m_goto (q := 232) rfl rfl rfl) ?_
                exact hp d hd _ r83
              · replace hp := iq c85 hp
                refine ok (m_aload_n (q := 220) rfl rfl rfl rfl) ?_
                refine ok (m_gft (t := 16) (q := 223) rfl rfl rfl r83 rfl ((fl_X6_takeWord (u_X9_init (u_X6_takeWord D 0) ti0 (v_X6_takeWord D 0)) 4 16 ti0 rfl).trans ((fl_X9_init (u_X6_takeWord D 0) ti0 (v_X6_takeWord D 0) 16 ti0 rfl).trans ((fl_X6_takeWord D 0 16 ti0 rfl).trans tf0))) rfl rfl rfl) ?_
                refine ok (m_iconst (q := 224) rfl rfl rfl) ?_
                refine okc (m_cmpne (qt := 231) (qf := 227) rfl rfl (show rg ((u_X6_takeWord (u_X9_init (u_X6_takeWord D 0) ti0 (v_X6_takeWord D 0)) 4) 2600 ti0) from Rp_rg r83 2600 ti0) ⟨by decide, by decide⟩ rfl rfl) (fun c86 => ?_) (fun c86 => ?_)
                · replace hp := ip c86 hp
                  refine ok (m_iconst (q := 228) rfl rfl rfl) ?_
                  refine ok (m_goto (q := 232) rfl rfl rfl) ?_
                  exact hp d hd _ r83
                · replace hp := iq c86 hp
                  refine ok (m_iconst (q := 232) rfl rfl rfl) ?_
                  exact hp d hd _ r83
            · replace hp := iq c81 hp
              refine okc (c := (u_X9_init (u_X6_takeWord D 0) ti0 (v_X6_takeWord D 0)) 2600 ti0 = 6) (rfl) (fun c87 => ?_) (fun c87 => ?_)
              · replace hp := ip c87 hp
                refine ok (m_aload_n (q := 161) rfl rfl rfl rfl) ?_
                refine ok (m_aload_n (q := 162) rfl rfl rfl rfl) ?_
                refine ok (m_ldcr (q := 164) rfl rfl rfl) ?_
                obtain ⟨g90, hp⟩ := hp
                refine oke (e_ci (x_cv (q := 167) rfl rfl rfl rfl rfl rfl rfl rfl rfl rfl (is_st r5 rfl rfl)) (ev_X6_takeWord (D := (u_X9_init (u_X6_takeWord D 0) ti0 (v_X6_takeWord D 0))) 3 (by decide) g90) (Nat.le_trans (by decide) (Nat.le_trans hc hd)) r5) (fun s88 r89 => ?_)
                refine oke (e_pft (t := 16) (q := 170) rfl rfl rfl r89 rfl rfl ((fl_X6_takeWord (u_X9_init (u_X6_takeWord D 0) ti0 (v_X6_takeWord D 0)) 3 16 ti0 rfl).trans ((fl_X9_init (u_X6_takeWord D 0) ti0 (v_X6_takeWord D 0) 16 ti0 rfl).trans ((fl_X6_takeWord D 0 16 ti0 rfl).trans tf0))) rfl rfl (Ev_rg (ev_X6_takeWord (D := (u_X9_init (u_X6_takeWord D 0) ti0 (v_X6_takeWord D 0))) 3 (by decide) g90) r5)) (fun s92 r91 => ?_)
                refine ok (m_aload_n (q := 171) rfl rfl rfl rfl) ?_
                refine ok (m_aload_n (q := 172) rfl rfl rfl rfl) ?_
                refine ok (m_ldcr (q := 174) rfl rfl rfl) ?_
                obtain ⟨g95, hp⟩ := hp
                refine oke (e_ci (x_cv (q := 177) rfl rfl rfl rfl rfl rfl rfl rfl rfl rfl (is_st r91 rfl rfl)) (ev_X6_takeWord (D := (up (u_X6_takeWord (u_X9_init (u_X6_takeWord D 0) ti0 (v_X6_takeWord D 0)) 3) 2601 ti0 (v_X6_takeWord (u_X9_init (u_X6_takeWord D 0) ti0 (v_X6_takeWord D 0)) 3))) 3 (by decide) g95) (Nat.le_trans (by decide) (Nat.le_trans hc hd)) r91) (fun s93 r94 => ?_)
                refine oke (e_pft (t := 16) (q := 180) rfl rfl rfl r94 rfl rfl ((fl_X6_takeWord (up (u_X6_takeWord (u_X9_init (u_X6_takeWord D 0) ti0 (v_X6_takeWord D 0)) 3) 2601 ti0 (v_X6_takeWord (u_X9_init (u_X6_takeWord D 0) ti0 (v_X6_takeWord D 0)) 3)) 3 16 ti0 rfl).trans ((fl_X6_takeWord (u_X9_init (u_X6_takeWord D 0) ti0 (v_X6_takeWord D 0)) 3 16 ti0 rfl).trans ((fl_X9_init (u_X6_takeWord D 0) ti0 (v_X6_takeWord D 0) 16 ti0 rfl).trans ((fl_X6_takeWord D 0 16 ti0 rfl).trans tf0)))) rfl rfl (Ev_rg (ev_X6_takeWord (D := (up (u_X6_takeWord (u_X9_init (u_X6_takeWord D 0) ti0 (v_X6_takeWord D 0)) 3) 2601 ti0 (v_X6_takeWord (u_X9_init (u_X6_takeWord D 0) ti0 (v_X6_takeWord D 0)) 3))) 3 (by decide) g95) r91)) (fun s97 r96 => ?_)
                refine ok (m_aload_n (q := 181) rfl rfl rfl rfl) ?_
                refine ok (m_ldcr (q := 183) rfl rfl rfl) ?_
                obtain ⟨g100, hp⟩ := hp
                refine oke (e_ci (x_cv (q := 186) rfl rfl rfl rfl rfl rfl rfl rfl rfl rfl (is_st r96 rfl rfl)) (ev_X6_takeWord (D := (up (u_X6_takeWord (up (u_X6_takeWord (u_X9_init (u_X6_takeWord D 0) ti0 (v_X6_takeWord D 0)) 3) 2601 ti0 (v_X6_takeWord (u_X9_init (u_X6_takeWord D 0) ti0 (v_X6_takeWord D 0)) 3)) 3) 2602 ti0 (v_X6_takeWord (up (u_X6_takeWord (u_X9_init (u_X6_takeWord D 0) ti0 (v_X6_takeWord D 0)) 3) 2601 ti0 (v_X6_takeWord (u_X9_init (u_X6_takeWord D 0) ti0 (v_X6_takeWord D 0)) 3)) 3))) 5 (by decide) g100) (Nat.le_trans (by decide) (Nat.le_trans hc hd)) r96) (fun s98 r99 => ?_)
                refine ok (m_popi (q := 187) rfl rfl rfl) ?_
                refine ok (m_aload_n (q := 188) rfl rfl rfl rfl) ?_
                refine ok (m_aload_n (q := 189) rfl rfl rfl rfl) ?_
                refine ok (m_sipush (q := 192) rfl rfl rfl) ?_
                obtain ⟨g103, hp⟩ := hp
                refine oke (e_ci (x_cv (q := 195) rfl rfl rfl rfl rfl rfl rfl rfl rfl rfl (is_st r99 rfl rfl)) (ev_X6_takeNumber (D := (u_X6_takeWord (up (u_X6_takeWord (up (u_X6_takeWord (u_X9_init (u_X6_takeWord D 0) ti0 (v_X6_takeWord D 0)) 3) 2601 ti0 (v_X6_takeWord (u_X9_init (u_X6_takeWord D 0) ti0 (v_X6_takeWord D 0)) 3)) 3) 2602 ti0 (v_X6_takeWord (up (u_X6_takeWord (u_X9_init (u_X6_takeWord D 0) ti0 (v_X6_takeWord D 0)) 3) 2601 ti0 (v_X6_takeWord (u_X9_init (u_X6_takeWord D 0) ti0 (v_X6_takeWord D 0)) 3)) 3)) 5)) 9999 ⟨by decide, by decide⟩ g103) (Nat.le_trans (by decide) (Nat.le_trans hc hd)) r99) (fun s101 r102 => ?_)
                refine oke (e_pft (t := 16) (q := 198) rfl rfl rfl r102 rfl rfl ((fl_X6_takeNumber (u_X6_takeWord (up (u_X6_takeWord (up (u_X6_takeWord (u_X9_init (u_X6_takeWord D 0) ti0 (v_X6_takeWord D 0)) 3) 2601 ti0 (v_X6_takeWord (u_X9_init (u_X6_takeWord D 0) ti0 (v_X6_takeWord D 0)) 3)) 3) 2602 ti0 (v_X6_takeWord (up (u_X6_takeWord (u_X9_init (u_X6_takeWord D 0) ti0 (v_X6_takeWord D 0)) 3) 2601 ti0 (v_X6_takeWord (u_X9_init (u_X6_takeWord D 0) ti0 (v_X6_takeWord D 0)) 3)) 3)) 5) 9999 16 ti0 rfl).trans ((fl_X6_takeWord (up (u_X6_takeWord (up (u_X6_takeWord (u_X9_init (u_X6_takeWord D 0) ti0 (v_X6_takeWord D 0)) 3) 2601 ti0 (v_X6_takeWord (u_X9_init (u_X6_takeWord D 0) ti0 (v_X6_takeWord D 0)) 3)) 3) 2602 ti0 (v_X6_takeWord (up (u_X6_takeWord (u_X9_init (u_X6_takeWord D 0) ti0 (v_X6_takeWord D 0)) 3) 2601 ti0 (v_X6_takeWord (u_X9_init (u_X6_takeWord D 0) ti0 (v_X6_takeWord D 0)) 3)) 3)) 5 16 ti0 rfl).trans ((fl_X6_takeWord (up (u_X6_takeWord (u_X9_init (u_X6_takeWord D 0) ti0 (v_X6_takeWord D 0)) 3) 2601 ti0 (v_X6_takeWord (u_X9_init (u_X6_takeWord D 0) ti0 (v_X6_takeWord D 0)) 3)) 3 16 ti0 rfl).trans ((fl_X6_takeWord (u_X9_init (u_X6_takeWord D 0) ti0 (v_X6_takeWord D 0)) 3 16 ti0 rfl).trans ((fl_X9_init (u_X6_takeWord D 0) ti0 (v_X6_takeWord D 0) 16 ti0 rfl).trans ((fl_X6_takeWord D 0 16 ti0 rfl).trans tf0)))))) rfl rfl (Ev_rg (ev_X6_takeNumber (D := (u_X6_takeWord (up (u_X6_takeWord (up (u_X6_takeWord (u_X9_init (u_X6_takeWord D 0) ti0 (v_X6_takeWord D 0)) 3) 2601 ti0 (v_X6_takeWord (u_X9_init (u_X6_takeWord D 0) ti0 (v_X6_takeWord D 0)) 3)) 3) 2602 ti0 (v_X6_takeWord (up (u_X6_takeWord (u_X9_init (u_X6_takeWord D 0) ti0 (v_X6_takeWord D 0)) 3) 2601 ti0 (v_X6_takeWord (u_X9_init (u_X6_takeWord D 0) ti0 (v_X6_takeWord D 0)) 3)) 3)) 5)) 9999 ⟨by decide, by decide⟩ g103) r99)) (fun s105 r104 => ?_)
                refine ok (m_goto (q := 212) rfl rfl rfl) ?_
                refine ok (m_aload_n (q := 213) rfl rfl rfl rfl) ?_
                refine ok (m_gft (t := 16) (q := 216) (w := (u_num (u_X6_takeWord (up (u_X6_takeWord (up (u_X6_takeWord (u_X9_init (u_X6_takeWord D 0) ti0 (v_X6_takeWord D 0)) 3) 2601 ti0 (v_X6_takeWord (u_X9_init (u_X6_takeWord D 0) ti0 (v_X6_takeWord D 0)) 3)) 3) 2602 ti0 (v_X6_takeWord (up (u_X6_takeWord (u_X9_init (u_X6_takeWord D 0) ti0 (v_X6_takeWord D 0)) 3) 2601 ti0 (v_X6_takeWord (u_X9_init (u_X6_takeWord D 0) ti0 (v_X6_takeWord D 0)) 3)) 3)) 5) 9999) 2600 ti0) rfl rfl rfl r104 rfl ((fl_X6_takeNumber (u_X6_takeWord (up (u_X6_takeWord (up (u_X6_takeWord (u_X9_init (u_X6_takeWord D 0) ti0 (v_X6_takeWord D 0)) 3) 2601 ti0 (v_X6_takeWord (u_X9_init (u_X6_takeWord D 0) ti0 (v_X6_takeWord D 0)) 3)) 3) 2602 ti0 (v_X6_takeWord (up (u_X6_takeWord (u_X9_init (u_X6_takeWord D 0) ti0 (v_X6_takeWord D 0)) 3) 2601 ti0 (v_X6_takeWord (u_X9_init (u_X6_takeWord D 0) ti0 (v_X6_takeWord D 0)) 3)) 3)) 5) 9999 16 ti0 rfl).trans ((fl_X6_takeWord (up (u_X6_takeWord (up (u_X6_takeWord (u_X9_init (u_X6_takeWord D 0) ti0 (v_X6_takeWord D 0)) 3) 2601 ti0 (v_X6_takeWord (u_X9_init (u_X6_takeWord D 0) ti0 (v_X6_takeWord D 0)) 3)) 3) 2602 ti0 (v_X6_takeWord (up (u_X6_takeWord (u_X9_init (u_X6_takeWord D 0) ti0 (v_X6_takeWord D 0)) 3) 2601 ti0 (v_X6_takeWord (u_X9_init (u_X6_takeWord D 0) ti0 (v_X6_takeWord D 0)) 3)) 3)) 5 16 ti0 rfl).trans ((fl_X6_takeWord (up (u_X6_takeWord (u_X9_init (u_X6_takeWord D 0) ti0 (v_X6_takeWord D 0)) 3) 2601 ti0 (v_X6_takeWord (u_X9_init (u_X6_takeWord D 0) ti0 (v_X6_takeWord D 0)) 3)) 3 16 ti0 rfl).trans ((fl_X6_takeWord (u_X9_init (u_X6_takeWord D 0) ti0 (v_X6_takeWord D 0)) 3 16 ti0 rfl).trans ((fl_X9_init (u_X6_takeWord D 0) ti0 (v_X6_takeWord D 0) 16 ti0 rfl).trans ((fl_X6_takeWord D 0 16 ti0 rfl).trans tf0)))))) rfl rfl rfl) ?_
                refine okc (m_ifeq (qt := 227) (qf := 219) rfl rfl (show rg ((u_num (u_X6_takeWord (up (u_X6_takeWord (up (u_X6_takeWord (u_X9_init (u_X6_takeWord D 0) ti0 (v_X6_takeWord D 0)) 3) 2601 ti0 (v_X6_takeWord (u_X9_init (u_X6_takeWord D 0) ti0 (v_X6_takeWord D 0)) 3)) 3) 2602 ti0 (v_X6_takeWord (up (u_X6_takeWord (u_X9_init (u_X6_takeWord D 0) ti0 (v_X6_takeWord D 0)) 3) 2601 ti0 (v_X6_takeWord (u_X9_init (u_X6_takeWord D 0) ti0 (v_X6_takeWord D 0)) 3)) 3)) 5) 9999) 2600 ti0) from Rp_rg r104 2600 ti0) rfl rfl) (fun c106 => ?_) (fun c106 => ?_)
                · replace hp := ip c106 hp
                  refine ok (m_iconst (q := 228) rfl rfl rfl) ?_
                  refine ok (m_goto (q := 232) rfl rfl rfl) ?_
                  exact hp d hd _ r104
                · replace hp := iq c106 hp
                  refine ok (m_aload_n (q := 220) rfl rfl rfl rfl) ?_
                  refine ok (m_gft (t := 16) (q := 223) (w := (u_num (u_X6_takeWord (up (u_X6_takeWord (up (u_X6_takeWord (u_X9_init (u_X6_takeWord D 0) ti0 (v_X6_takeWord D 0)) 3) 2601 ti0 (v_X6_takeWord (u_X9_init (u_X6_takeWord D 0) ti0 (v_X6_takeWord D 0)) 3)) 3) 2602 ti0 (v_X6_takeWord (up (u_X6_takeWord (u_X9_init (u_X6_takeWord D 0) ti0 (v_X6_takeWord D 0)) 3) 2601 ti0 (v_X6_takeWord (u_X9_init (u_X6_takeWord D 0) ti0 (v_X6_takeWord D 0)) 3)) 3)) 5) 9999) 2600 ti0) rfl rfl rfl r104 rfl ((fl_X6_takeNumber (u_X6_takeWord (up (u_X6_takeWord (up (u_X6_takeWord (u_X9_init (u_X6_takeWord D 0) ti0 (v_X6_takeWord D 0)) 3) 2601 ti0 (v_X6_takeWord (u_X9_init (u_X6_takeWord D 0) ti0 (v_X6_takeWord D 0)) 3)) 3) 2602 ti0 (v_X6_takeWord (up (u_X6_takeWord (u_X9_init (u_X6_takeWord D 0) ti0 (v_X6_takeWord D 0)) 3) 2601 ti0 (v_X6_takeWord (u_X9_init (u_X6_takeWord D 0) ti0 (v_X6_takeWord D 0)) 3)) 3)) 5) 9999 16 ti0 rfl).trans ((fl_X6_takeWord (up (u_X6_takeWord (up (u_X6_takeWord (u_X9_init (u_X6_takeWord D 0) ti0 (v_X6_takeWord D 0)) 3) 2601 ti0 (v_X6_takeWord (u_X9_init (u_X6_takeWord D 0) ti0 (v_X6_takeWord D 0)) 3)) 3) 2602 ti0 (v_X6_takeWord (up (u_X6_takeWord (u_X9_init (u_X6_takeWord D 0) ti0 (v_X6_takeWord D 0)) 3) 2601 ti0 (v_X6_takeWord (u_X9_init (u_X6_takeWord D 0) ti0 (v_X6_takeWord D 0)) 3)) 3)) 5 16 ti0 rfl).trans ((fl_X6_takeWord (up (u_X6_takeWord (u_X9_init (u_X6_takeWord D 0) ti0 (v_X6_takeWord D 0)) 3) 2601 ti0 (v_X6_takeWord (u_X9_init (u_X6_takeWord D 0) ti0 (v_X6_takeWord D 0)) 3)) 3 16 ti0 rfl).trans ((fl_X6_takeWord (u_X9_init (u_X6_takeWord D 0) ti0 (v_X6_takeWord D 0)) 3 16 ti0 rfl).trans ((fl_X9_init (u_X6_takeWord D 0) ti0 (v_X6_takeWord D 0) 16 ti0 rfl).trans ((fl_X6_takeWord D 0 16 ti0 rfl).trans tf0)))))) rfl rfl rfl) ?_
                  refine ok (m_iconst (q := 224) rfl rfl rfl) ?_
                  refine okc (m_cmpne (qt := 231) (qf := 227) rfl rfl (show rg ((u_num (u_X6_takeWord (up (u_X6_takeWord (up (u_X6_takeWord (u_X9_init (u_X6_takeWord D 0) ti0 (v_X6_takeWord D 0)) 3) 2601 ti0 (v_X6_takeWord (u_X9_init (u_X6_takeWord D 0) ti0 (v_X6_takeWord D 0)) 3)) 3) 2602 ti0 (v_X6_takeWord (up (u_X6_takeWord (u_X9_init (u_X6_takeWord D 0) ti0 (v_X6_takeWord D 0)) 3) 2601 ti0 (v_X6_takeWord (u_X9_init (u_X6_takeWord D 0) ti0 (v_X6_takeWord D 0)) 3)) 3)) 5) 9999) 2600 ti0) from Rp_rg r104 2600 ti0) ⟨by decide, by decide⟩ rfl rfl) (fun c107 => ?_) (fun c107 => ?_)
                  · replace hp := ip c107 hp
                    refine ok (m_iconst (q := 228) rfl rfl rfl) ?_
                    refine ok (m_goto (q := 232) rfl rfl rfl) ?_
                    exact hp d hd _ r104
                  · replace hp := iq c107 hp
                    refine ok (m_iconst (q := 232) rfl rfl rfl) ?_
                    exact hp d hd _ r104
              · replace hp := iq c87 hp
                refine ok (m_aload_n (q := 202) rfl rfl rfl rfl) ?_
                refine ok (m_aload_n (q := 203) rfl rfl rfl rfl) ?_
                refine ok (m_sipush (q := 206) rfl rfl rfl) ?_
                obtain ⟨g8, hp⟩ := hp
                refine oke (e_ci (x_cv (q := 209) rfl rfl rfl rfl rfl rfl rfl rfl rfl rfl (is_st r5 rfl rfl)) (ev_X6_takeNumber (D := (u_X9_init (u_X6_takeWord D 0) ti0 (v_X6_takeWord D 0))) 9999 ⟨by decide, by decide⟩ g8) (Nat.le_trans (by decide) (Nat.le_trans hc hd)) r5) (fun s6 r7 => ?_)
                refine oke (e_pft (t := 16) (q := 212) rfl rfl rfl r7 rfl rfl ((fl_X6_takeNumber (u_X9_init (u_X6_takeWord D 0) ti0 (v_X6_takeWord D 0)) 9999 16 ti0 rfl).trans ((fl_X9_init (u_X6_takeWord D 0) ti0 (v_X6_takeWord D 0) 16 ti0 rfl).trans ((fl_X6_takeWord D 0 16 ti0 rfl).trans tf0))) rfl rfl (Ev_rg (ev_X6_takeNumber (D := (u_X9_init (u_X6_takeWord D 0) ti0 (v_X6_takeWord D 0))) 9999 ⟨by decide, by decide⟩ g8) r5)) (fun s10 r9 => ?_)
                refine ok (m_aload_n (q := 213) rfl rfl rfl rfl) ?_
                refine ok (m_gft (t := 16) (q := 216) (w := (u_num (u_X9_init (u_X6_takeWord D 0) ti0 (v_X6_takeWord D 0)) 9999) 2600 ti0) rfl rfl rfl r9 rfl ((fl_X6_takeNumber (u_X9_init (u_X6_takeWord D 0) ti0 (v_X6_takeWord D 0)) 9999 16 ti0 rfl).trans ((fl_X9_init (u_X6_takeWord D 0) ti0 (v_X6_takeWord D 0) 16 ti0 rfl).trans ((fl_X6_takeWord D 0 16 ti0 rfl).trans tf0))) rfl rfl rfl) ?_
                refine okc (m_ifeq (qt := 227) (qf := 219) rfl rfl (show rg ((u_num (u_X9_init (u_X6_takeWord D 0) ti0 (v_X6_takeWord D 0)) 9999) 2600 ti0) from Rp_rg r9 2600 ti0) rfl rfl) (fun c11 => ?_) (fun c11 => ?_)
                · replace hp := ip c11 hp
                  refine ok (m_iconst (q := 228) rfl rfl rfl) ?_
                  refine ok (m_goto (q := 232) rfl rfl rfl) ?_
                  exact hp d hd _ r9
                · replace hp := iq c11 hp
                  refine ok (m_aload_n (q := 220) rfl rfl rfl rfl) ?_
                  refine ok (m_gft (t := 16) (q := 223) (w := (u_num (u_X9_init (u_X6_takeWord D 0) ti0 (v_X6_takeWord D 0)) 9999) 2600 ti0) rfl rfl rfl r9 rfl ((fl_X6_takeNumber (u_X9_init (u_X6_takeWord D 0) ti0 (v_X6_takeWord D 0)) 9999 16 ti0 rfl).trans ((fl_X9_init (u_X6_takeWord D 0) ti0 (v_X6_takeWord D 0) 16 ti0 rfl).trans ((fl_X6_takeWord D 0 16 ti0 rfl).trans tf0))) rfl rfl rfl) ?_
                  refine ok (m_iconst (q := 224) rfl rfl rfl) ?_
                  refine okc (m_cmpne (qt := 231) (qf := 227) rfl rfl (show rg ((u_num (u_X9_init (u_X6_takeWord D 0) ti0 (v_X6_takeWord D 0)) 9999) 2600 ti0) from Rp_rg r9 2600 ti0) ⟨by decide, by decide⟩ rfl rfl) (fun c12 => ?_) (fun c12 => ?_)
                  · replace hp := ip c12 hp
                    refine ok (m_iconst (q := 228) rfl rfl rfl) ?_
                    refine ok (m_goto (q := 232) rfl rfl rfl) ?_
                    exact hp d hd _ r9
                  · replace hp := iq c12 hp
                    refine ok (m_iconst (q := 232) rfl rfl rfl) ?_
                    exact hp d hd _ r9
set_option maxRecDepth 100000 in
theorem rl_X6_readStatement_232 {n : Nat} {A A' : aA} {D D' : aD} {c : Nat} (hc : 8 ≤ c) (i1 : Int) (i2 : Int) (ta0 : Int) (f1 : D 914 i1 = 1) (f2 : D 916 i2 = 1) (th0 : rg ta0) (tb0 : 0 ≤ ta0 ∧ ta0 ≤ 1) (hp : (if ta0 = 0 then K_X6_readStatement_283 (n) c A D i1 i2 A' D' else (if D 47 3 = (-1) then (p_X6_isWord D 6) ∧ (if v_X6_isWord D 6 = 0 then K_X6_readStatement_283 (n) c A D i1 i2 A' D' else (p_adv D) ∧ (∃ D122 : aD, Ev (n) c 44 [am_r (some 47), am_i (wz 0)] A (up (u_adv D) 47 5 0) rv A D122 ∧ K_X6_readStatement_268 (n) c A D122 i1 i2 ta0 A' D')) else K_X6_readStatement_283 (n) c A D i1 i2 A' D'))) : K_X6_readStatement_232 (n) c A D i1 i2 ta0 A' D' := by
  unfold K_X6_readStatement_232
  refine fun d hd s hr => ?_
  refine ok (m_istore_n (q := 233) (lo' := [some (am_r (some 47)), some (am_r (some (A 14 i1))), some (am_r (some (A 16 i2))), some (am_i (wz ta0))]) rfl rfl rfl rfl rfl) ?_
  refine ok (m_iload_n (q := 234) rfl rfl rfl rfl) ?_
  refine okc (m_ifeq (qt := 283) (qf := 237) rfl rfl th0 rfl rfl) (fun c108 => ?_) (fun c108 => ?_)
  · replace hp := ip c108 hp
    refine ok (mk rfl (lo' := [some (am_r (some 47)), some (am_r (some (A 14 i1))), some (am_r (some (A 16 i2))), none]) rfl) ?_
    exact hp d hd _ hr
  · replace hp := iq c108 hp
    refine ok (m_aload_n (q := 238) rfl rfl rfl rfl) ?_
    refine ok (m_gfs (z := 3) (q := 241) rfl rfl rfl hr rfl rfl rfl rfl rfl) ?_
    refine ok (m_iconst (q := 242) rfl rfl rfl) ?_
    refine okc (m_cmpne (qt := 283) (qf := 245) rfl rfl (Rp_rg hr 47 3) ⟨by decide, by decide⟩ rfl rfl) (fun c109 => ?_) (fun c109 => ?_)
    · replace hp := ip c109 hp
      refine ok (m_aload_n (q := 246) rfl rfl rfl rfl) ?_
      refine ok (m_ldcr (q := 248) rfl rfl rfl) ?_
      obtain ⟨g112, hp⟩ := hp
      refine oke (e_ci (x_cv (q := 251) rfl rfl rfl rfl rfl rfl rfl rfl rfl rfl (is_st hr rfl rfl)) (ev_X6_isWord (D := D) 6 (by decide) g112) (Nat.le_trans (by decide) (Nat.le_trans hc hd)) hr) (fun s110 r111 => ?_)
      refine okc (m_ifeq (qt := 283) (qf := 254) rfl rfl (Ev_rg (ev_X6_isWord (D := D) 6 (by decide) g112) hr) rfl rfl) (fun c113 => ?_) (fun c113 => ?_)
      · replace hp := ip c113 hp
        refine ok (mk rfl (lo' := [some (am_r (some 47)), some (am_r (some (A 14 i1))), some (am_r (some (A 16 i2))), none]) rfl) ?_
        exact hp d hd _ r111
      · replace hp := iq c113 hp
        refine ok (m_aload_n (q := 255) rfl rfl rfl rfl) ?_
        obtain ⟨g116, hp⟩ := hp
        refine oke (e_cvd (x_cv (q := 258) rfl rfl rfl rfl rfl rfl rfl rfl rfl rfl (is_st r111 rfl rfl)) (ev_X6_advance (D := D) g116) (Nat.le_trans (by decide) (Nat.le_trans hc hd)) r111) (fun s114 r115 => ?_)
        refine ok (m_aload_n (q := 259) rfl rfl rfl rfl) ?_
        refine ok (m_iconst (q := 260) rfl rfl rfl) ?_
        refine oke (e_pfs (q := 263) rfl rfl rfl r115 rfl rfl rfl rfl ⟨by decide, by decide⟩) (fun s118 r117 => ?_)
        refine ok (m_aload_n (q := 264) rfl rfl rfl rfl) ?_
        refine ok (m_iconst (q := 265) rfl rfl rfl) ?_
        obtain ⟨D122, e123, hp⟩ := hp
        refine oke (e_cvd (x_cv (q := 268) rfl rfl rfl rfl rfl rfl rfl rfl rfl rfl (is_st r117 rfl rfl)) e123 hd r117) (fun s119 r120 => ?_)
        exact hp d hd _ r120
    · replace hp := iq c109 hp
      refine ok (mk rfl (lo' := [some (am_r (some 47)), some (am_r (some (A 14 i1))), some (am_r (some (A 16 i2))), none]) rfl) ?_
      exact hp d hd _ hr
set_option maxRecDepth 100000 in
theorem rl_X6_readStatement_283 {n : Nat} {A A' : aA} {D D' : aD} {c : Nat} (hc : 8 ≤ c) (i1 : Int) (i2 : Int) (f1 : D 914 i1 = 1) (f2 : D 916 i2 = 1) (hp : (p_X6_takeSign D 59) ∧ (if (u_X6_takeSign D 59) 47 3 = (-1) then K_X6_readStatement_297 (n) c A (u_X6_takeSign D 59) i1 i2 A' D' else K_X6_readStatement_302 (n) c A (u_X6_takeSign D 59) A' D')) : K_X6_readStatement_283 (n) c A D i1 i2 A' D' := by
  unfold K_X6_readStatement_283
  refine fun d hd s hr => ?_
  refine ok (m_aload_n (q := 284) rfl rfl rfl rfl) ?_
  refine ok (m_bipush (q := 286) rfl rfl rfl) ?_
  obtain ⟨g126, hp⟩ := hp
  refine oke (e_cvd (x_cv (q := 289) rfl rfl rfl rfl rfl rfl rfl rfl rfl rfl (is_st hr rfl rfl)) (ev_X6_takeSign (D := D) 59 ⟨by decide, by decide⟩ g126) (Nat.le_trans (by decide) (Nat.le_trans hc hd)) hr) (fun s124 r125 => ?_)
  refine ok (m_aload_n (q := 290) rfl rfl rfl rfl) ?_
  refine ok (m_gfs (z := 3) (q := 293) rfl rfl rfl r125 rfl rfl rfl rfl rfl) ?_
  refine ok (m_iconst (q := 294) rfl rfl rfl) ?_
  refine okc (m_cmpne (qt := 302) (qf := 297) rfl rfl (Rp_rg r125 47 3) ⟨by decide, by decide⟩ rfl rfl) (fun c127 => ?_) (fun c127 => ?_)
  · replace hp := ip c127 hp
    exact hp d hd _ r125
  · replace hp := iq c127 hp
    refine ok (mk rfl (lo' := [none, none, none, none]) rfl) ?_
    exact hp d hd _ r125
set_option maxRecDepth 100000 in
theorem rl_X6_readStatement_302 {n : Nat} {A A' : aA} {D D' : aD} {c : Nat} (hc : 8 ≤ c) (hp : (A' = A ∧ D' = D)) : K_X6_readStatement_302 (n) c A D A' D' := by
  unfold K_X6_readStatement_302
  refine fun d hd s hr => ?_
  obtain ⟨rfl, hp⟩ := hp
  exact ok (m_retv rfl rfl) (ok_vq hr hp)
abbrev P_X6_readInto : Nat → Option am_E := am_fy tb_X6_readInto
def K_X6_readInto_37 (n : Nat) (c : Nat) (A : aA) (D : aD) (i1 : Int) (a3 : Int) (x : Int) (A' : aA) (D' : aD) : Prop := Lp n c P_X6_readInto 37 [some (am_r (some 47)), some (am_r (some (A 14 i1))), none, some (am_i (wz a3))] [] A D (ri x) A' D'
def K_X6_readInto_75 (n : Nat) (c : Nat) (A : aA) (D : aD) (i1 : Int) (a3 : Int) (x : Int) (A' : aA) (D' : aD) : Prop := Lp n c P_X6_readInto 75 [some (am_r (some 47)), some (am_r (some (A 14 i1))), none, some (am_i (wz a3))] [] A D (ri x) A' D'
def K_X6_readInto_80 (n : Nat) (c : Nat) (A : aA) (D : aD) (i1 : Int) (a3 : Int) (x : Int) (A' : aA) (D' : aD) : Prop := Lp n c P_X6_readInto 80 [some (am_r (some 47)), some (am_r (some (A 14 i1))), none, some (am_i (wz a3))] [] A D (ri x) A' D'
set_option maxRecDepth 100000 in
theorem rl_X6_readInto {n : Nat} {A A' : aA} {D D' : aD} {c : Nat} (hc : 8 ≤ c) (i1 : Int) (a2 : Int) (f1 : D 914 i1 = 1) (h2 : rg a2) {x : Int} (hp : (p_adv (up (up (up (up D 47 4 (max 0 (min a2 (D 47 2)))) 47 2 0) 47 3 (-1)) 47 8 0)) ∧ K_X6_readInto_37 (n) c A (u_adv (up (up (up (up D 47 4 (max 0 (min a2 (D 47 2)))) 47 2 0) 47 3 (-1)) 47 8 0)) i1 0 x A' D') : Ev (n) (c + 1) 42 [am_r (some 47), am_r (some (A 14 i1)), am_i (wz a2)] A D (ri x) A' D' := by
  refine Ev_of (c := c) (P := P_X6_readInto) (lo := [some (am_r (some 47)), some (am_r (some (A 14 i1))), some (am_i (wz a2)), none]) rfl rfl rfl (fun d hd s hr => ?_)
  refine ok (m_aload_n (q := 1) rfl rfl rfl rfl) ?_
  refine ok (m_iconst (q := 2) rfl rfl rfl) ?_
  refine ok (m_iload_n (q := 3) rfl rfl rfl rfl) ?_
  refine ok (m_aload_n (q := 4) rfl rfl rfl rfl) ?_
  refine ok (m_gfs (z := 2) (q := 7) rfl rfl rfl hr rfl rfl rfl rfl rfl) ?_
  refine ok (m_min (q := 10) rfl rfl rfl h2 (Rp_rg hr 47 2) rfl) ?_
  refine ok (m_max (q := 13) rfl rfl rfl ⟨by decide, by decide⟩ (rg_min h2 (Rp_rg hr 47 2)) rfl) ?_
  refine oke (e_pfs (q := 16) rfl rfl rfl hr rfl rfl rfl rfl (rg_max ⟨by decide, by decide⟩ (rg_min h2 (Rp_rg hr 47 2)))) (fun s2 r1 => ?_)
  refine ok (m_aload_n (q := 17) rfl rfl rfl rfl) ?_
  refine ok (m_iconst (q := 18) rfl rfl rfl) ?_
  refine oke (e_pfs (q := 21) rfl rfl rfl r1 rfl rfl rfl rfl ⟨by decide, by decide⟩) (fun s4 r3 => ?_)
  refine ok (m_aload_n (q := 22) rfl rfl rfl rfl) ?_
  refine ok (m_iconst (q := 23) rfl rfl rfl) ?_
  refine oke (e_pfs (q := 26) rfl rfl rfl r3 rfl rfl rfl rfl ⟨by decide, by decide⟩) (fun s6 r5 => ?_)
  refine ok (m_aload_n (q := 27) rfl rfl rfl rfl) ?_
  refine ok (m_iconst (q := 28) rfl rfl rfl) ?_
  refine oke (e_pfs (q := 31) rfl rfl rfl r5 rfl rfl rfl rfl ⟨by decide, by decide⟩) (fun s8 r7 => ?_)
  refine ok (m_aload_n (q := 32) rfl rfl rfl rfl) ?_
  obtain ⟨g11, hp⟩ := hp
  refine oke (e_cvd (x_cv (q := 35) rfl rfl rfl rfl rfl rfl rfl rfl rfl rfl (is_st r7 rfl rfl)) (ev_X6_advance (D := (up (up (up (up D 47 4 (max 0 (min a2 (D 47 2)))) 47 2 0) 47 3 (-1)) 47 8 0)) g11) (Nat.le_trans (by decide) (Nat.le_trans hc hd)) r7) (fun s9 r10 => ?_)
  refine ok (m_iconst (q := 36) rfl rfl rfl) ?_
  refine ok (m_istore_n (q := 37) (lo' := [some (am_r (some 47)), some (am_r (some (A 14 i1))), some (am_i (wz a2)), some (am_i (wz 0))]) rfl rfl rfl rfl rfl) ?_
  refine ok (mk rfl (lo' := [some (am_r (some 47)), some (am_r (some (A 14 i1))), none, some (am_i (wz 0))]) rfl) ?_
  exact hp d hd _ r10
set_option maxRecDepth 100000 in
theorem rl_X6_readInto_37 {n : Nat} {A A' : aA} {D D' : aD} {c : Nat} (hc : 8 ≤ c) (i1 : Int) (a3 : Int) (f1 : D 914 i1 = 1) (h3 : rg a3) {x : Int} (hp : (if 30 < a3 then (if D 47 3 = (-1) then (A' = A ∧ x = 1 ∧ D' = D) else (A' = A ∧ x = 0 ∧ D' = D)) else (if D 47 6 = 0 then (if D 47 3 = (-1) then (A' = A ∧ x = 1 ∧ D' = D) else (A' = A ∧ x = 0 ∧ D' = D)) else (if D 47 3 = (-1) then (if a3 = 30 then K_X6_readInto_80 (n) c A (up D 47 3 (D 47 7)) i1 a3 x A' D' else K_X6_readInto_75 (n) c A D i1 a3 x A' D') else (if D 47 3 = (-1) then (A' = A ∧ x = 1 ∧ D' = D) else (A' = A ∧ x = 0 ∧ D' = D)))))) : K_X6_readInto_37 (n) c A D i1 a3 x A' D' := by
  unfold K_X6_readInto_37
  refine fun d hd s hr => ?_
  refine ok (m_iload_n (q := 38) rfl rfl rfl rfl) ?_
  refine ok (m_bipush (q := 40) rfl rfl rfl) ?_
  refine okc (m_cmpgt (qt := 86) (qf := 43) rfl rfl h3 ⟨by decide, by decide⟩ rfl rfl) (fun c12 => ?_) (fun c12 => ?_)
  · replace hp := ip c12 hp
    refine ok (m_aload_n (q := 87) rfl rfl rfl rfl) ?_
    refine ok (m_gfs (z := 3) (q := 90) rfl rfl rfl hr rfl rfl rfl rfl rfl) ?_
    refine ok (m_iconst (q := 91) rfl rfl rfl) ?_
    refine okc (m_cmpne (qt := 98) (qf := 94) rfl rfl (Rp_rg hr 47 3) ⟨by decide, by decide⟩ rfl rfl) (fun c13 => ?_) (fun c13 => ?_)
    · replace hp := ip c13 hp
      refine ok (m_iconst (q := 95) rfl rfl rfl) ?_
      refine ok (m_goto (q := 99) rfl rfl rfl) ?_
      obtain ⟨rfl, hp⟩ := hp
      exact ok (m_retb rfl rfl ⟨by decide, by decide⟩) (ok_iq hr ⟨by decide, by decide⟩ hp)
    · replace hp := iq c13 hp
      refine ok (m_iconst (q := 99) rfl rfl rfl) ?_
      obtain ⟨rfl, hp⟩ := hp
      exact ok (m_retb rfl rfl ⟨by decide, by decide⟩) (ok_iq hr ⟨by decide, by decide⟩ hp)
  · replace hp := iq c12 hp
    refine ok (m_aload_n (q := 44) rfl rfl rfl rfl) ?_
    refine ok (m_gfs (z := 6) (q := 47) rfl rfl rfl hr rfl rfl rfl rfl rfl) ?_
    refine okc (m_ifeq (qt := 86) (qf := 50) rfl rfl (Rp_rg hr 47 6) rfl rfl) (fun c14 => ?_) (fun c14 => ?_)
    · replace hp := ip c14 hp
      refine ok (m_aload_n (q := 87) rfl rfl rfl rfl) ?_
      refine ok (m_gfs (z := 3) (q := 90) rfl rfl rfl hr rfl rfl rfl rfl rfl) ?_
      refine ok (m_iconst (q := 91) rfl rfl rfl) ?_
      refine okc (m_cmpne (qt := 98) (qf := 94) rfl rfl (Rp_rg hr 47 3) ⟨by decide, by decide⟩ rfl rfl) (fun c15 => ?_) (fun c15 => ?_)
      · replace hp := ip c15 hp
        refine ok (m_iconst (q := 95) rfl rfl rfl) ?_
        refine ok (m_goto (q := 99) rfl rfl rfl) ?_
        obtain ⟨rfl, hp⟩ := hp
        exact ok (m_retb rfl rfl ⟨by decide, by decide⟩) (ok_iq hr ⟨by decide, by decide⟩ hp)
      · replace hp := iq c15 hp
        refine ok (m_iconst (q := 99) rfl rfl rfl) ?_
        obtain ⟨rfl, hp⟩ := hp
        exact ok (m_retb rfl rfl ⟨by decide, by decide⟩) (ok_iq hr ⟨by decide, by decide⟩ hp)
    · replace hp := iq c14 hp
      refine ok (m_aload_n (q := 51) rfl rfl rfl rfl) ?_
      refine ok (m_gfs (z := 3) (q := 54) rfl rfl rfl hr rfl rfl rfl rfl rfl) ?_
      refine ok (m_iconst (q := 55) rfl rfl rfl) ?_
      refine okc (m_cmpne (qt := 86) (qf := 58) rfl rfl (Rp_rg hr 47 3) ⟨by decide, by decide⟩ rfl rfl) (fun c16 => ?_) (fun c16 => ?_)
      · replace hp := ip c16 hp
        refine ok (m_iload_n (q := 59) rfl rfl rfl rfl) ?_
        refine ok (m_bipush (q := 61) rfl rfl rfl) ?_
        refine okc (m_cmpne (qt := 75) (qf := 64) rfl rfl h3 ⟨by decide, by decide⟩ rfl rfl) (fun c17 => ?_) (fun c17 => ?_)
        · replace hp := ip c17 hp
          refine ok (m_aload_n (q := 65) rfl rfl rfl rfl) ?_
          refine ok (m_aload_n (q := 66) rfl rfl rfl rfl) ?_
          refine ok (m_gfs (z := 7) (q := 69) rfl rfl rfl hr rfl rfl rfl rfl rfl) ?_
          refine oke (e_pfs (q := 72) rfl rfl rfl hr rfl rfl rfl rfl (Rp_rg hr 47 7)) (fun s19 r18 => ?_)
          refine ok (m_goto (q := 80) rfl rfl rfl) ?_
          exact hp d hd _ r18
        · replace hp := iq c17 hp
          exact hp d hd _ hr
      · replace hp := iq c16 hp
        refine ok (m_aload_n (q := 87) rfl rfl rfl rfl) ?_
        refine ok (m_gfs (z := 3) (q := 90) rfl rfl rfl hr rfl rfl rfl rfl rfl) ?_
        refine ok (m_iconst (q := 91) rfl rfl rfl) ?_
        refine okc (m_cmpne (qt := 98) (qf := 94) rfl rfl (Rp_rg hr 47 3) ⟨by decide, by decide⟩ rfl rfl) (fun c20 => ?_) (fun c20 => ?_)
        · replace hp := ip c20 hp
          refine ok (m_iconst (q := 95) rfl rfl rfl) ?_
          refine ok (m_goto (q := 99) rfl rfl rfl) ?_
          obtain ⟨rfl, hp⟩ := hp
          exact ok (m_retb rfl rfl ⟨by decide, by decide⟩) (ok_iq hr ⟨by decide, by decide⟩ hp)
        · replace hp := iq c20 hp
          refine ok (m_iconst (q := 99) rfl rfl rfl) ?_
          obtain ⟨rfl, hp⟩ := hp
          exact ok (m_retb rfl rfl ⟨by decide, by decide⟩) (ok_iq hr ⟨by decide, by decide⟩ hp)
set_option maxRecDepth 100000 in
theorem rl_X6_readInto_80 {n : Nat} {A A' : aA} {D D' : aD} {c : Nat} (hc : 8 ≤ c) (i1 : Int) (a3 : Int) (f1 : D 914 i1 = 1) (h3 : rg a3) {x : Int} (hp : K_X6_readInto_37 (n) c A D i1 (wr (a3 + 1)) x A' D') : K_X6_readInto_80 (n) c A D i1 a3 x A' D' := by
  unfold K_X6_readInto_80
  refine fun d hd s hr => ?_
  refine ok (m_iinc (q := 83) (lo' := [some (am_r (some 47)), some (am_r (some (A 14 i1))), none, some (am_i (wz (wr (a3 + 1))))]) rfl rfl rfl rfl rfl rfl rfl) ?_
  refine ok (m_goto (q := 37) rfl rfl rfl) ?_
  exact hp d hd _ hr
theorem K_rs0 {i1 e : Int} (h9 : ∀ i, D 901 i = 1 → D 900 i = 1) (hn : D 916 e ≠ 1) (hh : D 950 0 ≤ 1000000000 ∧ D 951 0 ≤ 1000000000) (H : K_X6_readStatement_3 n c (upA A 16 e (D 950 0).toNat) (smD D e 0 0 0 0 0 0) i1 e A' D') : K_X6_readStatement_0 n c A D i1 A' D' := by
  intro d hd s hr
  refine oke (n := n) (A1 := upA A 16 e (D 950 0).toNat) (D1 := smD D e 0 0 0 0 0 0) ?_ (fun s' hr' => H d hd s' hr')
  rw [upA_eq, upA_t (show (14 : Nat) ≠ 16 by decide), Rp_len hr]
  refine ⟨_, ?_, Rp_sm (x0 := 0) (x1 := 0) (x2 := 0) (x3 := 0) (x4 := 0) (x5 := 0) hr h9 hn rfl rg0 rg0 rg0 rg0 rg0 rg0 hh⟩
  refine (x_new (q := 3) (fs := [am_i 0, am_i 0, am_i 0, am_i 0, am_i 0, am_r none]) rfl rfl rfl rfl).trans ?_
  rfl
theorem Rp_ws22 {i : Int} {m : Nat} {src : Int → Int} (hr : Rp n A D s) (hf : D 916 i = 1) (hm : m ≤ 1024) (hs : ∀ j, rg (src j)) (hh : D 950 0 ≤ 1000000000 ∧ D 951 0 ≤ 1000000000) : Rp n (upA A 22 i s.1.length) (up (rwD D 22 i m src) 2605 i 1) ((s.1 ++ ([.inr (.inl (0, m, fun k => if k < m then wz (src k) else 0))] : List am_Ce)).set (A 16 i) (.inl (10, [am_i (wz (D 2600 i)), am_i (wz (D 2601 i)), am_i (wz (D 2602 i)), am_i (wz (D 2603 i)), am_i (wz (D 2604 i)), am_r (some s.1.length)])), s.2 + m) := by
  obtain ⟨hg, F, H⟩ := hr
  refine ⟨rg_up (rg_rwD hg hs hm hh) ⟨by decide, by decide⟩, F, ?_⟩
  rw [mxx_up rfl, mxx_rwD (Or.inr (Or.inr rfl))]
  have hl := H.2.2.2.2.1
  have k := Rp0_row (t := 16) (u := 22) (i := i) (k := m) (g := fun k => if k < m then wz (src k) else 0) (D' := up (rwD (mxx n D F) 22 i m src) 2605 i 1) H (Or.inr (Or.inr ⟨rfl, rfl⟩)) ((mxx_v rfl).trans hf) (fun c j q => by
    by_cases z : c = 2605 ∧ j = i
    · exact Or.inr (Or.inr (Or.inr ⟨rfl, z⟩))
    · rw [up_n z] at q
      exact (rwD_d (by decide) c j q).elim Or.inl (fun z => z.elim (fun y => Or.inr (Or.inl y)) (fun y => Or.inr (Or.inr (Or.inl y))))) (by rw [up_c (by decide)]; exact (rwD_k (by decide)).2.2.1) (by rw [up_c (by decide)]; exact (rwD_k (by decide)).1) hm (fun q => by rw [up_c (by decide)]; exact rwD_g (by decide) hm q) ⟨by rw [up_c (by decide), (rwD_h (by decide)).1, hl.1], by rw [up_c (by decide), (rwD_h (by decide)).2, hl.2]⟩
  have e : mkT (upA A 22 i s.1.length) (up (rwD (mxx n D F) 22 i m src) 2605 i 1) 16 i = .inl (10, [am_i (wz (D 2600 i)), am_i (wz (D 2601 i)), am_i (wz (D 2602 i)), am_i (wz (D 2603 i)), am_i (wz (D 2604 i)), am_r (some s.1.length)]) := by
    show (Sum.inl (10, [am_i (wz (up (rwD (mxx n D F) 22 i m src) 2605 i 1 2600 i)), am_i (wz (up (rwD (mxx n D F) 22 i m src) 2605 i 1 2601 i)), am_i (wz (up (rwD (mxx n D F) 22 i m src) 2605 i 1 2602 i)), am_i (wz (up (rwD (mxx n D F) 22 i m src) 2605 i 1 2603 i)), am_i (wz (up (rwD (mxx n D F) 22 i m src) 2605 i 1 2604 i)), am_r (if up (rwD (mxx n D F) 22 i m src) 2605 i 1 2605 i = 0 then none else some (upA A 22 i s.1.length 22 i))]) : am_Ce) = _
    rw [up_eq, if_neg (by decide), upA_eq, up_c (by decide), up_c (by decide), up_c (by decide), up_c (by decide), up_c (by decide), rwD_f (by decide), rwD_f (by decide), rwD_f (by decide), rwD_f (by decide), rwD_f (by decide), mxx_v rfl, mxx_v rfl, mxx_v rfl, mxx_v rfl, mxx_v rfl]
  rw [e] at k
  exact k
theorem K_rs268 {i1 i2 t0 : Int} {m : Nat} (hc : 3 ≤ c) (hm : D 47 5 = m) (hm2 : m ≤ 700) (f2 : D 916 i2 = 1) (hh : D 950 0 ≤ 1000000000 ∧ D 951 0 ≤ 1000000000) (H : K_X6_readStatement_283 (n + 1) c (upA A 22 i2 (D 950 0).toNat) (up (rwD D 22 i2 m (D 49)) 2605 i2 1) i1 i2 A' D') : K_X6_readStatement_268 (n + 1) c A D i1 i2 t0 A' D' := by
  intro d hd s hr
  obtain ⟨e, rfl⟩ : ∃ e, d = e + 3 := ⟨d - 3, by omega⟩
  refine oke (n := n + 1) (A1 := upA A 22 i2 (D 950 0).toNat) (D1 := up (rwD D 22 i2 m (D 49)) 2605 i2 1) ?_ (fun s' hr' => H (e + 3) hd s' hr')
  have h135 : 135 ≤ s.1.length := by obtain ⟨_, F, H⟩ := hr; exact Rp0_135 H
  have h950 := Rp_rg hr 950 0
  have h951 := Rp_rg hr 951 0
  unfold rg at h950 h951
  have h49 : s.1[49]? = some (.inr (.inl (0, 700, fun k => wz (D 49 k)))) := Rp_st (a := 49) (sh := .inr (0, 700)) hr rfl (Nat.ble_eq_true_of_le (show 1 ≤ n + 1 by omega))
  have hg := Rp_grow (cs := ([.inr (.inl (0, m, fun k => if k < m then wz (D 49 k) else 0))] : List am_Ce)) (k := m) hr ⟨by simp only [List.length_singleton]; omega, by simp only [List.length_singleton]; omega⟩ ⟨by omega, by omega⟩
  have f2' : (up (up D 950 0 (D 950 0 + (([.inr (.inl (0, m, fun k => if k < m then wz (D 49 k) else 0))] : List am_Ce).length : Nat))) 951 0 (D 951 0 + (m : Nat))) 916 i2 = 1 := by
    rw [up_c (by decide), up_c (by decide)]; exact f2
  have h32 : 32 ≤ A 16 i2 := by obtain ⟨_, F, H⟩ := hr; exact (H.2.2.1 16 i2 (by decide) ((mxx_v rfl).trans f2)).2.1
  rw [upA_t (show (14 : Nat) ≠ 22 by decide), upA_t (show (16 : Nat) ≠ 22 by decide), Rp_len hr]
  refine ⟨_, ?_, Rp_ws22 (src := D 49) hr f2 (by omega) (fun j => Rp_rg hr 49 j) hh⟩
  refine (m_aload_n (q := 269) rfl rfl rfl rfl).trans ?_
  refine (m_aload_n (q := 270) rfl rfl rfl rfl).trans ?_
  refine (m_gfc (q := 273) rfl rfl rfl hr rfl rfl rfl).trans ?_
  refine (m_aload_n (q := 274) rfl rfl rfl rfl).trans ?_
  refine (m_gfs (z := 5) (q := 277) (w := (m : Int)) rfl rfl rfl hr rfl rfl rfl rfl hm).trans ?_
  refine (x_cs (rk := 3) (as := [am_r (some 49), am_i (wz (m : Int))]) (rest := [am_r (some (A 16 i2))]) (q := 280) rfl rfl rfl rfl rfl rfl rfl rfl rfl).trans ?_
  rw [rw_cpi (d := e + 2) h49 (by decide) (by omega) (by decide) (by omega)]
  refine (x_pfr (q := 283) rfl rfl rfl (put_of (Rp_ob (t := 16) hg rfl f2') h32 (show (5 : Nat) < 6 by decide))).trans ?_
  refine mk rfl (lo' := [some (am_r (some 47)), some (am_r (some (A 14 i1))), some (am_r (some (A 16 i2))), none]) rfl
theorem K_rs297 {i1 i2 : Int} {m : Nat} (hc : m ≤ c) (f1 : D 914 i1 = 1) (H : Ev n m 58 [am_r (some (A 14 i1)), am_r (some (A 16 i2))] A D rv A' D') : K_X6_readStatement_297 n c A D i1 i2 A' D' := by
  intro d hd s hr
  refine ok (m_aload_n (q := 298) rfl rfl rfl rfl) ?_
  refine ok (m_aload_n (q := 299) rfl rfl rfl rfl) ?_
  refine oke (e_cvd (x_cv (q := 302) (rest := []) rfl rfl rfl rfl rfl rfl rfl rfl rfl rfl (is_ty hr rfl f1)) H (Nat.le_trans hc hd) hr) (fun s' hr' => ?_)
  refine ok (mk rfl (lo' := [none, none, none, none]) rfl) ?_
  exact ⟨_, s', m_retv rfl rfl, rfl, hr'⟩
theorem K_ri75 {i1 a3 x : Int} {A1 : aA} {D1 : aD} {m : Nat} (hc : m ≤ c) (H : Ev n m 43 [am_r (some 47), am_r (some (A 14 i1))] A D rv A1 D1) (hA : A1 14 i1 = A 14 i1) (K : K_X6_readInto_80 n c A1 D1 i1 a3 x A' D') : K_X6_readInto_75 n c A D i1 a3 x A' D' := by
  intro d hd s hr
  refine ok (m_aload_n (q := 76) rfl rfl rfl rfl) ?_
  refine ok (m_aload_n (q := 77) rfl rfl rfl rfl) ?_
  refine oke (e_cvd (x_cv (q := 80) (rest := []) rfl rfl rfl rfl rfl rfl rfl rfl rfl rfl (is_st hr rfl rfl)) H (Nat.le_trans hc hd) hr) (fun s' hr' => ?_)
  have := K d hd s' hr'
  rw [hA] at this
  exact this
end Xgn
