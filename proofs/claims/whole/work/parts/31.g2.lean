/-! Counts. -/
section G2
variable {n : Nat} {A : aA} {D : aD}
def cf (P : Int → Bool) (j : Int) : Int := foi (fun a i => if P i = true then a + 1 else a) 0 j
theorem cf_s {P : Int → Bool} {j : Int} (h : 0 ≤ j) : cf P (j + 1) = if P j = true then cf P j + 1 else cf P j := foi_s h
theorem cf_t {P : Int → Bool} {j : Int} (h : 0 ≤ j) (hp : P j = true) : cf P (j + 1) = cf P j + 1 := by rw [cf_s h, if_pos hp]
theorem cf_f {P : Int → Bool} {j : Int} (h : 0 ≤ j) (hp : P j = false) : cf P (j + 1) = cf P j := by rw [cf_s h, hp]; rfl
theorem cf_b {P : Int → Bool} : ∀ j, 0 ≤ j → 0 ≤ cf P j ∧ cf P j ≤ j := fun j h => foi_ind (Q := fun j x => 0 ≤ x ∧ x ≤ j) ⟨Int.le_refl _, Int.le_refl _⟩ (N := j) (fun i x h0 h1 q => by split <;> omega) j h (Int.le_refl _)
theorem cf_cg {P Q : Int → Bool} {N : Int} (h0 : 0 ≤ N) (h : ∀ i, 0 ≤ i → i < N → P i = Q i) : cf P N = cf Q N := foi_cg (N := N) (fun j x q1 q2 => by rw [h j q1 q2]) N h0 (Int.le_refl _)
theorem one0 (D : aD) : v_X12_one D 0 = 0 := rfl
theorem one1 (D : aD) : v_X12_one D 1 = 1 := rfl
abbrev P_X3_leftCount : Nat → Option am_E := am_fy tb_X3_leftCount
def K_X3_leftCount_4 (n : Nat) (A : aA) (D : aD) (a1 : Int) (a2 : Int) (x : Int) (D' : aD) : Prop := Lp n 4 P_X3_leftCount 4 [some (am_r (some 50)), some (am_i (wz a1)), some (am_i (wz a2))] [] A D (ri x) A D'
set_option maxRecDepth 100000 in
theorem rl_X3_leftCount {n : Nat} {A : aA} {D D' : aD} {x : Int} (hp : K_X3_leftCount_4 (n) A D 0 0 x D') : Ev (n) (5) 31 [am_r (some 50)] A D (ri x) A D' := by
  refine Ev_of (c := 4) (P := P_X3_leftCount) (lo := [some (am_r (some 50)), none, none]) rfl rfl rfl (fun d hd s hr => ?_)
  refine ok (m_iconst (q := 1) rfl rfl rfl) ?_
  refine ok (m_istore_n (q := 2) (lo' := [some (am_r (some 50)), some (am_i (wz 0)), none]) rfl rfl rfl rfl rfl) ?_
  refine ok (m_iconst (q := 3) rfl rfl rfl) ?_
  refine ok (m_istore_n (q := 4) (lo' := [some (am_r (some 50)), some (am_i (wz 0)), some (am_i (wz 0))]) rfl rfl rfl rfl rfl) ?_
  exact hp d hd _ hr
set_option maxRecDepth 100000 in
theorem rl_X3_leftCount_4 {n : Nat} {A : aA} {D D' : aD} (a1 : Int) (a2 : Int) (h1 : rg a1) (h2 : rg a2) {x : Int} (hp : (if D 1002 5 ≤ a2 then (x = a1 ∧ D' = D) else (0 ≤ a2 ∧ a2 < D 1002 5) ∧ (if D 2505 a2 = (-1) then K_X3_leftCount_4 (n) A D (wr (a1 + 0)) (wr (a2 + 1)) x D' else K_X3_leftCount_4 (n) A D (wr (a1 + 1)) (wr (a2 + 1)) x D'))) : K_X3_leftCount_4 (n) A D a1 a2 x D' := by
  unfold K_X3_leftCount_4
  refine fun d hd s hr => ?_
  refine ok (m_iload_n (q := 5) rfl rfl rfl rfl) ?_
  refine ok (m_aload_n (q := 6) rfl rfl rfl rfl) ?_
  have f_1 := Rp_fx0_5 hr
  refine ok (m_gfy (q := 9) rfl rfl rfl hr rfl rfl rfl) ?_
  refine oke (e_ci (x_cv (q := 12) rfl rfl rfl rfl rfl rfl rfl rfl rfl rfl (is_ty hr rfl f_1)) (ev_size 5 f_1) (Nat.le_trans (by decide) hd) hr) (fun s2 r3 => ?_)
  refine okc (m_cmpge (qt := 47) (qf := 15) rfl rfl h2 (show rg (D 1002 5) from Rp_rg hr 1002 5) rfl rfl) (fun c4 => ?_) (fun c4 => ?_)
  · replace hp := ip c4 hp
    refine ok (m_iload_n (q := 48) rfl rfl rfl rfl) ?_
    exact ok (m_reti rfl rfl) (ok_iq r3 h1 hp)
  · replace hp := iq c4 hp
    refine ok (m_iload_n (q := 16) rfl rfl rfl rfl) ?_
    refine ok (m_aload_n (q := 17) rfl rfl rfl rfl) ?_
    have f_5 := Rp_fx0_5 r3
    refine ok (m_gfy (q := 20) rfl rfl rfl r3 rfl rfl rfl) ?_
    refine ok (m_iload_n (q := 21) rfl rfl rfl rfl) ?_
    obtain ⟨g8, hp⟩ := hp
    have f_9 := Rp_el5 (D := D) r3 g8
    refine oke (e_cr (x_cv (q := 24) rfl rfl rfl rfl rfl rfl rfl rfl rfl rfl (is_ty r3 rfl f_5)) (ev_get5 a2 g8) (Nat.le_trans (by decide) hd) r3) (fun s6 r7 => ?_)
    refine ok (m_cast (q := 27) rfl rfl rfl (isN_ty r7 rfl f_9)) ?_
    refine ok (m_gft (t := 15) (q := 30) rfl rfl rfl r7 rfl f_9 rfl rfl rfl) ?_
    refine ok (m_iconst (q := 31) rfl rfl rfl) ?_
    refine okc (m_cmpne (qt := 38) (qf := 34) rfl rfl (show rg (D 2505 a2) from Rp_rg r7 2505 a2) ⟨by decide, by decide⟩ rfl rfl) (fun c10 => ?_) (fun c10 => ?_)
    · replace hp := ip c10 hp
      refine ok (m_iconst (q := 35) rfl rfl rfl) ?_
      refine ok (m_goto (q := 39) rfl rfl rfl) ?_
      refine ok (m_iadd (q := 40) rfl rfl rfl) ?_
      refine ok (m_istore_n (q := 41) (lo' := [some (am_r (some 50)), some (am_i (wz (wr (a1 + 0)))), some (am_i (wz a2))]) rfl rfl rfl rfl rfl) ?_
      refine ok (m_iinc (q := 44) (lo' := [some (am_r (some 50)), some (am_i (wz (wr (a1 + 0)))), some (am_i (wz (wr (a2 + 1))))]) rfl rfl rfl rfl rfl rfl rfl) ?_
      refine ok (m_goto (q := 4) rfl rfl rfl) ?_
      exact hp d hd _ r7
    · replace hp := iq c10 hp
      refine ok (m_iconst (q := 39) rfl rfl rfl) ?_
      refine ok (m_iadd (q := 40) rfl rfl rfl) ?_
      refine ok (m_istore_n (q := 41) (lo' := [some (am_r (some 50)), some (am_i (wz (wr (a1 + 1)))), some (am_i (wz a2))]) rfl rfl rfl rfl rfl) ?_
      refine ok (m_iinc (q := 44) (lo' := [some (am_r (some 50)), some (am_i (wz (wr (a1 + 1)))), some (am_i (wz (wr (a2 + 1))))]) rfl rfl rfl rfl rfl rfl rfl) ?_
      refine ok (m_goto (q := 4) rfl rfl rfl) ?_
      exact hp d hd _ r7
abbrev P_X3_undoneCount : Nat → Option am_E := am_fy tb_X3_undoneCount
def K_X3_undoneCount_4 (n : Nat) (A : aA) (D : aD) (a1 : Int) (a2 : Int) (x : Int) (D' : aD) : Prop := Lp n 4 P_X3_undoneCount 4 [some (am_r (some 50)), some (am_i (wz a1)), some (am_i (wz a2))] [] A D (ri x) A D'
set_option maxRecDepth 100000 in
theorem rl_X3_undoneCount {n : Nat} {A : aA} {D D' : aD} {x : Int} (hp : K_X3_undoneCount_4 (n) A D 0 0 x D') : Ev (n) (5) 32 [am_r (some 50)] A D (ri x) A D' := by
  refine Ev_of (c := 4) (P := P_X3_undoneCount) (lo := [some (am_r (some 50)), none, none]) rfl rfl rfl (fun d hd s hr => ?_)
  refine ok (m_iconst (q := 1) rfl rfl rfl) ?_
  refine ok (m_istore_n (q := 2) (lo' := [some (am_r (some 50)), some (am_i (wz 0)), none]) rfl rfl rfl rfl rfl) ?_
  refine ok (m_iconst (q := 3) rfl rfl rfl) ?_
  refine ok (m_istore_n (q := 4) (lo' := [some (am_r (some 50)), some (am_i (wz 0)), some (am_i (wz 0))]) rfl rfl rfl rfl rfl) ?_
  exact hp d hd _ hr
set_option maxRecDepth 100000 in
theorem rl_X3_undoneCount_4 {n : Nat} {A : aA} {D D' : aD} (a1 : Int) (a2 : Int) (h1 : rg a1) (h2 : rg a2) {x : Int} (hp : (if D 1002 5 ≤ a2 then (x = a1 ∧ D' = D) else (0 ≤ a2 ∧ a2 < D 1002 5) ∧ (if D 2509 a2 = (-1) then K_X3_undoneCount_4 (n) A D (wr (a1 + 0)) (wr (a2 + 1)) x D' else K_X3_undoneCount_4 (n) A D (wr (a1 + 1)) (wr (a2 + 1)) x D'))) : K_X3_undoneCount_4 (n) A D a1 a2 x D' := by
  unfold K_X3_undoneCount_4
  refine fun d hd s hr => ?_
  refine ok (m_iload_n (q := 5) rfl rfl rfl rfl) ?_
  refine ok (m_aload_n (q := 6) rfl rfl rfl rfl) ?_
  have f_1 := Rp_fx0_5 hr
  refine ok (m_gfy (q := 9) rfl rfl rfl hr rfl rfl rfl) ?_
  refine oke (e_ci (x_cv (q := 12) rfl rfl rfl rfl rfl rfl rfl rfl rfl rfl (is_ty hr rfl f_1)) (ev_size 5 f_1) (Nat.le_trans (by decide) hd) hr) (fun s2 r3 => ?_)
  refine okc (m_cmpge (qt := 47) (qf := 15) rfl rfl h2 (show rg (D 1002 5) from Rp_rg hr 1002 5) rfl rfl) (fun c4 => ?_) (fun c4 => ?_)
  · replace hp := ip c4 hp
    refine ok (m_iload_n (q := 48) rfl rfl rfl rfl) ?_
    exact ok (m_reti rfl rfl) (ok_iq r3 h1 hp)
  · replace hp := iq c4 hp
    refine ok (m_iload_n (q := 16) rfl rfl rfl rfl) ?_
    refine ok (m_aload_n (q := 17) rfl rfl rfl rfl) ?_
    have f_5 := Rp_fx0_5 r3
    refine ok (m_gfy (q := 20) rfl rfl rfl r3 rfl rfl rfl) ?_
    refine ok (m_iload_n (q := 21) rfl rfl rfl rfl) ?_
    obtain ⟨g8, hp⟩ := hp
    have f_9 := Rp_el5 (D := D) r3 g8
    refine oke (e_cr (x_cv (q := 24) rfl rfl rfl rfl rfl rfl rfl rfl rfl rfl (is_ty r3 rfl f_5)) (ev_get5 a2 g8) (Nat.le_trans (by decide) hd) r3) (fun s6 r7 => ?_)
    refine ok (m_cast (q := 27) rfl rfl rfl (isN_ty r7 rfl f_9)) ?_
    refine ok (m_gft (t := 15) (q := 30) rfl rfl rfl r7 rfl f_9 rfl rfl rfl) ?_
    refine ok (m_iconst (q := 31) rfl rfl rfl) ?_
    refine okc (m_cmpne (qt := 38) (qf := 34) rfl rfl (show rg (D 2509 a2) from Rp_rg r7 2509 a2) ⟨by decide, by decide⟩ rfl rfl) (fun c10 => ?_) (fun c10 => ?_)
    · replace hp := ip c10 hp
      refine ok (m_iconst (q := 35) rfl rfl rfl) ?_
      refine ok (m_goto (q := 39) rfl rfl rfl) ?_
      refine ok (m_iadd (q := 40) rfl rfl rfl) ?_
      refine ok (m_istore_n (q := 41) (lo' := [some (am_r (some 50)), some (am_i (wz (wr (a1 + 0)))), some (am_i (wz a2))]) rfl rfl rfl rfl rfl) ?_
      refine ok (m_iinc (q := 44) (lo' := [some (am_r (some 50)), some (am_i (wz (wr (a1 + 0)))), some (am_i (wz (wr (a2 + 1))))]) rfl rfl rfl rfl rfl rfl rfl) ?_
      refine ok (m_goto (q := 4) rfl rfl rfl) ?_
      exact hp d hd _ r7
    · replace hp := iq c10 hp
      refine ok (m_iconst (q := 39) rfl rfl rfl) ?_
      refine ok (m_iadd (q := 40) rfl rfl rfl) ?_
      refine ok (m_istore_n (q := 41) (lo' := [some (am_r (some 50)), some (am_i (wz (wr (a1 + 1)))), some (am_i (wz a2))]) rfl rfl rfl rfl rfl) ?_
      refine ok (m_iinc (q := 44) (lo' := [some (am_r (some 50)), some (am_i (wz (wr (a1 + 1)))), some (am_i (wz (wr (a2 + 1))))]) rfl rfl rfl rfl rfl rfl rfl) ?_
      refine ok (m_goto (q := 4) rfl rfl rfl) ?_
      exact hp d hd _ r7
abbrev P_X12_count : Nat → Option am_E := am_fy tb_X12_count
def K_X12_count_95 (n : Nat) (A : aA) (D : aD) (a2 : Int) (a3 : Int) (x : Int) (D' : aD) : Prop := Lp n 1 P_X12_count 95 [some (am_r (some 70)), none, some (am_i (wz a2)), some (am_i (wz a3))] [] A D (ri x) A D'
def K_X12_count_134 (n : Nat) (A : aA) (D : aD) (a2 : Int) (a3 : Int) (x : Int) (D' : aD) : Prop := Lp n 1 P_X12_count 134 [some (am_r (some 70)), none, some (am_i (wz a2)), some (am_i (wz a3))] [] A D (ri x) A D'
set_option maxRecDepth 100000 in
theorem rl_X12_count {n : Nat} {A : aA} {D D' : aD} (a1 : Int) (h1 : rg a1) {x : Int} (hp : (if a1 = 0 then (x = D 70 0 ∧ D' = D) else (if a1 = 1 then (x = D 70 1 ∧ D' = D) else (if a1 = 2 then (x = D 70 2 ∧ D' = D) else (if a1 = 3 then (x = D 70 3 ∧ D' = D) else (if a1 = 4 then (x = D 70 4 ∧ D' = D) else (if a1 = 5 then K_X12_count_95 (n) A D 0 0 x D' else (if a1 = 6 then K_X12_count_134 (n) A D 0 0 x D' else (if a1 = 7 then (x = D 70 26 ∧ D' = D) else (if a1 = 8 then (x = D 70 51 ∧ D' = D) else (if a1 = 9 then (x = D 70 78 ∧ D' = D) else (if a1 = 10 then (x = D 70 83 ∧ D' = D) else (if a1 = 11 then (x = D 70 84 ∧ D' = D) else (if a1 = 12 then (x = D 70 28 ∧ D' = D) else (x = (-1) ∧ D' = D))))))))))))))) : Ev (n) (2) 211 [am_r (some 70), am_i (wz a1)] A D (ri x) A D' := by
  refine Ev_of (c := 1) (P := P_X12_count) (lo := [some (am_r (some 70)), some (am_i (wz a1)), none, none]) rfl rfl rfl (fun d hd s hr => ?_)
  refine ok (m_iconst (q := 1) rfl rfl rfl) ?_
  refine ok (m_istore_n (q := 2) (lo' := [some (am_r (some 70)), some (am_i (wz a1)), some (am_i (wz 0)), none]) rfl rfl rfl rfl rfl) ?_
  refine ok (m_iload_n (q := 3) rfl rfl rfl rfl) ?_
  refine ok (m_tsw (z := 0) (qs := [68, 73, 78, 83, 88, 93, 132, 173, 178, 183, 188, 193, 198]) (qd := 203) rfl rfl h1 rfl rfl rfl rfl) ?_
  refine okc (c := a1 = 0) (rfl) (fun c1 => ?_) (fun c1 => ?_)
  · replace hp := ip c1 hp
    refine ok (m_aload_n (q := 69) rfl rfl rfl rfl) ?_
    refine ok (m_gfs (z := 0) (q := 72) rfl rfl rfl hr rfl rfl rfl rfl rfl) ?_
    exact ok (m_reti rfl rfl) (ok_iq hr (Rp_rg hr 70 0) hp)
  · replace hp := iq c1 hp
    refine okc (c := a1 = 1) (rfl) (fun c2 => ?_) (fun c2 => ?_)
    · replace hp := ip c2 hp
      refine ok (m_aload_n (q := 74) rfl rfl rfl rfl) ?_
      refine ok (m_gfs (z := 1) (q := 77) rfl rfl rfl hr rfl rfl rfl rfl rfl) ?_
      exact ok (m_reti rfl rfl) (ok_iq hr (Rp_rg hr 70 1) hp)
    · replace hp := iq c2 hp
      refine okc (c := a1 = 2) (rfl) (fun c3 => ?_) (fun c3 => ?_)
      · replace hp := ip c3 hp
        refine ok (m_aload_n (q := 79) rfl rfl rfl rfl) ?_
        refine ok (m_gfs (z := 2) (q := 82) rfl rfl rfl hr rfl rfl rfl rfl rfl) ?_
        exact ok (m_reti rfl rfl) (ok_iq hr (Rp_rg hr 70 2) hp)
      · replace hp := iq c3 hp
        refine okc (c := a1 = 3) (rfl) (fun c4 => ?_) (fun c4 => ?_)
        · replace hp := ip c4 hp
          refine ok (m_aload_n (q := 84) rfl rfl rfl rfl) ?_
          refine ok (m_gfs (z := 3) (q := 87) rfl rfl rfl hr rfl rfl rfl rfl rfl) ?_
          exact ok (m_reti rfl rfl) (ok_iq hr (Rp_rg hr 70 3) hp)
        · replace hp := iq c4 hp
          refine okc (c := a1 = 4) (rfl) (fun c5 => ?_) (fun c5 => ?_)
          · replace hp := ip c5 hp
            refine ok (m_aload_n (q := 89) rfl rfl rfl rfl) ?_
            refine ok (m_gfs (z := 4) (q := 92) rfl rfl rfl hr rfl rfl rfl rfl rfl) ?_
            exact ok (m_reti rfl rfl) (ok_iq hr (Rp_rg hr 70 4) hp)
          · replace hp := iq c5 hp
            refine okc (c := a1 = 5) (rfl) (fun c6 => ?_) (fun c6 => ?_)
            · replace hp := ip c6 hp
              refine ok (m_iconst (q := 94) rfl rfl rfl) ?_
              refine ok (m_istore_n (q := 95) (lo' := [some (am_r (some 70)), some (am_i (wz a1)), some (am_i (wz 0)), some (am_i (wz 0))]) rfl rfl rfl rfl rfl) ?_
              refine ok (mk rfl (lo' := [some (am_r (some 70)), none, some (am_i (wz 0)), some (am_i (wz 0))]) rfl) ?_
              exact hp d hd _ hr
            · replace hp := iq c6 hp
              refine okc (c := a1 = 6) (rfl) (fun c7 => ?_) (fun c7 => ?_)
              · replace hp := ip c7 hp
                refine ok (m_iconst (q := 133) rfl rfl rfl) ?_
                refine ok (m_istore_n (q := 134) (lo' := [some (am_r (some 70)), some (am_i (wz a1)), some (am_i (wz 0)), some (am_i (wz 0))]) rfl rfl rfl rfl rfl) ?_
                refine ok (mk rfl (lo' := [some (am_r (some 70)), none, some (am_i (wz 0)), some (am_i (wz 0))]) rfl) ?_
                exact hp d hd _ hr
              · replace hp := iq c7 hp
                refine okc (c := a1 = 7) (rfl) (fun c8 => ?_) (fun c8 => ?_)
                · replace hp := ip c8 hp
                  refine ok (m_aload_n (q := 174) rfl rfl rfl rfl) ?_
                  refine ok (m_gfs (z := 26) (q := 177) rfl rfl rfl hr rfl rfl rfl rfl rfl) ?_
                  exact ok (m_reti rfl rfl) (ok_iq hr (Rp_rg hr 70 26) hp)
                · replace hp := iq c8 hp
                  refine okc (c := a1 = 8) (rfl) (fun c9 => ?_) (fun c9 => ?_)
                  · replace hp := ip c9 hp
                    refine ok (m_aload_n (q := 179) rfl rfl rfl rfl) ?_
                    refine ok (m_gfs (z := 51) (q := 182) rfl rfl rfl hr rfl rfl rfl rfl rfl) ?_
                    exact ok (m_reti rfl rfl) (ok_iq hr (Rp_rg hr 70 51) hp)
                  · replace hp := iq c9 hp
                    refine okc (c := a1 = 9) (rfl) (fun c10 => ?_) (fun c10 => ?_)
                    · replace hp := ip c10 hp
                      refine ok (m_aload_n (q := 184) rfl rfl rfl rfl) ?_
                      refine ok (m_gfs (z := 78) (q := 187) rfl rfl rfl hr rfl rfl rfl rfl rfl) ?_
                      exact ok (m_reti rfl rfl) (ok_iq hr (Rp_rg hr 70 78) hp)
                    · replace hp := iq c10 hp
                      refine okc (c := a1 = 10) (rfl) (fun c11 => ?_) (fun c11 => ?_)
                      · replace hp := ip c11 hp
                        refine ok (m_aload_n (q := 189) rfl rfl rfl rfl) ?_
                        refine ok (m_gfs (z := 83) (q := 192) rfl rfl rfl hr rfl rfl rfl rfl rfl) ?_
                        exact ok (m_reti rfl rfl) (ok_iq hr (Rp_rg hr 70 83) hp)
                      · replace hp := iq c11 hp
                        refine okc (c := a1 = 11) (rfl) (fun c12 => ?_) (fun c12 => ?_)
                        · replace hp := ip c12 hp
                          refine ok (m_aload_n (q := 194) rfl rfl rfl rfl) ?_
                          refine ok (m_gfs (z := 84) (q := 197) rfl rfl rfl hr rfl rfl rfl rfl rfl) ?_
                          exact ok (m_reti rfl rfl) (ok_iq hr (Rp_rg hr 70 84) hp)
                        · replace hp := iq c12 hp
                          refine okc (c := a1 = 12) (rfl) (fun c13 => ?_) (fun c13 => ?_)
                          · replace hp := ip c13 hp
                            refine ok (m_aload_n (q := 199) rfl rfl rfl rfl) ?_
                            refine ok (m_gfs (z := 28) (q := 202) rfl rfl rfl hr rfl rfl rfl rfl rfl) ?_
                            exact ok (m_reti rfl rfl) (ok_iq hr (Rp_rg hr 70 28) hp)
                          · replace hp := iq c13 hp
                            refine ok (m_iconst (q := 204) rfl rfl rfl) ?_
                            exact ok (m_reti rfl rfl) (ok_iq hr ⟨by decide, by decide⟩ hp)
set_option maxRecDepth 100000 in
theorem rl_X12_count_95 {n : Nat} {A : aA} {D D' : aD} (a2 : Int) (a3 : Int) (h2 : rg a2) (h3 : rg a3) {x : Int} (hp : (if D 70 4 ≤ a3 then (x = a2 ∧ D' = D) else (0 ≤ a3 ∧ a3 < 60) ∧ (if D 88 a3 = (-1) then K_X12_count_95 (n) A D (wr (a2 + (v_X12_one D 0))) (wr (a3 + 1)) x D' else K_X12_count_95 (n) A D (wr (a2 + (v_X12_one D 1))) (wr (a3 + 1)) x D'))) : K_X12_count_95 (n) A D a2 a3 x D' := by
  unfold K_X12_count_95
  refine fun d hd s hr => ?_
  refine ok (m_iload_n (q := 96) rfl rfl rfl rfl) ?_
  refine ok (m_aload_n (q := 97) rfl rfl rfl rfl) ?_
  refine ok (m_gfs (z := 4) (q := 100) rfl rfl rfl hr rfl rfl rfl rfl rfl) ?_
  refine okc (m_cmpge (qt := 130) (qf := 103) rfl rfl h3 (Rp_rg hr 70 4) rfl rfl) (fun c14 => ?_) (fun c14 => ?_)
  · replace hp := ip c14 hp
    refine ok (m_iload_n (q := 131) rfl rfl rfl rfl) ?_
    exact ok (m_reti rfl rfl) (ok_iq hr h2 hp)
  · replace hp := iq c14 hp
    refine ok (m_iload_n (q := 104) rfl rfl rfl rfl) ?_
    refine ok (m_aload_n (q := 105) rfl rfl rfl rfl) ?_
    refine ok (m_gfc (q := 108) rfl rfl rfl hr rfl rfl rfl) ?_
    refine ok (m_iload_n (q := 109) rfl rfl rfl rfl) ?_
    obtain ⟨g15, hp⟩ := hp
    refine ok (m_ials (q := 110) rfl rfl rfl hr rfl rfl g15 rfl) ?_
    refine ok (m_iconst (q := 111) rfl rfl rfl) ?_
    refine okc (m_cmpeq (qt := 118) (qf := 114) rfl rfl (Rp_rg hr 88 a3) ⟨by decide, by decide⟩ rfl rfl) (fun c16 => ?_) (fun c16 => ?_)
    · replace hp := ip c16 hp
      refine ok (m_iconst (q := 119) rfl rfl rfl) ?_
      refine oke (e_ci (x_cs (q := 122) rfl rfl rfl rfl rfl rfl rfl rfl rfl) (ev_X12_one (D := D) 0 ⟨by decide, by decide⟩ ⟨by decide, by decide⟩) (Nat.le_trans (by decide) hd) hr) (fun s17 r18 => ?_)
      refine ok (m_iadd (q := 123) rfl rfl rfl) ?_
      refine ok (m_istore_n (q := 124) (lo' := [some (am_r (some 70)), none, some (am_i (wz (wr (a2 + (v_X12_one D 0))))), some (am_i (wz a3))]) rfl rfl rfl rfl rfl) ?_
      refine ok (m_iinc (q := 127) (lo' := [some (am_r (some 70)), none, some (am_i (wz (wr (a2 + (v_X12_one D 0))))), some (am_i (wz (wr (a3 + 1))))]) rfl rfl rfl rfl rfl rfl rfl) ?_
      refine ok (m_goto (q := 95) rfl rfl rfl) ?_
      exact hp d hd _ r18
    · replace hp := iq c16 hp
      refine ok (m_iconst (q := 115) rfl rfl rfl) ?_
      refine ok (m_goto (q := 119) rfl rfl rfl) ?_
      refine oke (e_ci (x_cs (q := 122) rfl rfl rfl rfl rfl rfl rfl rfl rfl) (ev_X12_one (D := D) 1 ⟨by decide, by decide⟩ ⟨by decide, by decide⟩) (Nat.le_trans (by decide) hd) hr) (fun s19 r20 => ?_)
      refine ok (m_iadd (q := 123) rfl rfl rfl) ?_
      refine ok (m_istore_n (q := 124) (lo' := [some (am_r (some 70)), none, some (am_i (wz (wr (a2 + (v_X12_one D 1))))), some (am_i (wz a3))]) rfl rfl rfl rfl rfl) ?_
      refine ok (m_iinc (q := 127) (lo' := [some (am_r (some 70)), none, some (am_i (wz (wr (a2 + (v_X12_one D 1))))), some (am_i (wz (wr (a3 + 1))))]) rfl rfl rfl rfl rfl rfl rfl) ?_
      refine ok (m_goto (q := 95) rfl rfl rfl) ?_
      exact hp d hd _ r20
set_option maxRecDepth 100000 in
theorem rl_X12_count_134 {n : Nat} {A : aA} {D D' : aD} (a2 : Int) (a3 : Int) (h2 : rg a2) (h3 : rg a3) {x : Int} (hp : (if D 70 4 ≤ a3 then (x = a2 ∧ D' = D) else (0 ≤ a3 ∧ a3 < 60) ∧ (if D 87 a3 = 5000 then K_X12_count_134 (n) A D (wr (a2 + (v_X12_one D 0))) (wr (a3 + 1)) x D' else K_X12_count_134 (n) A D (wr (a2 + (v_X12_one D 1))) (wr (a3 + 1)) x D'))) : K_X12_count_134 (n) A D a2 a3 x D' := by
  unfold K_X12_count_134
  refine fun d hd s hr => ?_
  refine ok (m_iload_n (q := 135) rfl rfl rfl rfl) ?_
  refine ok (m_aload_n (q := 136) rfl rfl rfl rfl) ?_
  refine ok (m_gfs (z := 4) (q := 139) rfl rfl rfl hr rfl rfl rfl rfl rfl) ?_
  refine okc (m_cmpge (qt := 171) (qf := 142) rfl rfl h3 (Rp_rg hr 70 4) rfl rfl) (fun c21 => ?_) (fun c21 => ?_)
  · replace hp := ip c21 hp
    refine ok (m_iload_n (q := 172) rfl rfl rfl rfl) ?_
    exact ok (m_reti rfl rfl) (ok_iq hr h2 hp)
  · replace hp := iq c21 hp
    refine ok (m_iload_n (q := 143) rfl rfl rfl rfl) ?_
    refine ok (m_aload_n (q := 144) rfl rfl rfl rfl) ?_
    refine ok (m_gfc (q := 147) rfl rfl rfl hr rfl rfl rfl) ?_
    refine ok (m_iload_n (q := 148) rfl rfl rfl rfl) ?_
    obtain ⟨g22, hp⟩ := hp
    refine ok (m_ials (q := 149) rfl rfl rfl hr rfl rfl g22 rfl) ?_
    refine ok (m_sipush (q := 152) rfl rfl rfl) ?_
    refine okc (m_cmpeq (qt := 159) (qf := 155) rfl rfl (Rp_rg hr 87 a3) ⟨by decide, by decide⟩ rfl rfl) (fun c23 => ?_) (fun c23 => ?_)
    · replace hp := ip c23 hp
      refine ok (m_iconst (q := 160) rfl rfl rfl) ?_
      refine oke (e_ci (x_cs (q := 163) rfl rfl rfl rfl rfl rfl rfl rfl rfl) (ev_X12_one (D := D) 0 ⟨by decide, by decide⟩ ⟨by decide, by decide⟩) (Nat.le_trans (by decide) hd) hr) (fun s24 r25 => ?_)
      refine ok (m_iadd (q := 164) rfl rfl rfl) ?_
      refine ok (m_istore_n (q := 165) (lo' := [some (am_r (some 70)), none, some (am_i (wz (wr (a2 + (v_X12_one D 0))))), some (am_i (wz a3))]) rfl rfl rfl rfl rfl) ?_
      refine ok (m_iinc (q := 168) (lo' := [some (am_r (some 70)), none, some (am_i (wz (wr (a2 + (v_X12_one D 0))))), some (am_i (wz (wr (a3 + 1))))]) rfl rfl rfl rfl rfl rfl rfl) ?_
      refine ok (m_goto (q := 134) rfl rfl rfl) ?_
      exact hp d hd _ r25
    · replace hp := iq c23 hp
      refine ok (m_iconst (q := 156) rfl rfl rfl) ?_
      refine ok (m_goto (q := 160) rfl rfl rfl) ?_
      refine oke (e_ci (x_cs (q := 163) rfl rfl rfl rfl rfl rfl rfl rfl rfl) (ev_X12_one (D := D) 1 ⟨by decide, by decide⟩ ⟨by decide, by decide⟩) (Nat.le_trans (by decide) hd) hr) (fun s26 r27 => ?_)
      refine ok (m_iadd (q := 164) rfl rfl rfl) ?_
      refine ok (m_istore_n (q := 165) (lo' := [some (am_r (some 70)), none, some (am_i (wz (wr (a2 + (v_X12_one D 1))))), some (am_i (wz a3))]) rfl rfl rfl rfl rfl) ?_
      refine ok (m_iinc (q := 168) (lo' := [some (am_r (some 70)), none, some (am_i (wz (wr (a2 + (v_X12_one D 1))))), some (am_i (wz (wr (a3 + 1))))]) rfl rfl rfl rfl rfl rfl rfl) ?_
      refine ok (m_goto (q := 134) rfl rfl rfl) ?_
      exact hp d hd _ r27
abbrev P_X3_knownOf : Nat → Option am_E := am_fy tb_X3_knownOf
def K_X3_knownOf_5 (n : Nat) (A : aA) (D : aD) (a1 : Int) (a2 : Int) (a3 : Int) (a4 : Int) (x : Int) (D' : aD) : Prop := Lp n 4 P_X3_knownOf 5 [some (am_r (some 50)), some (am_i (wz a1)), some (am_i (wz a2)), some (am_i (wz a3)), some (am_i (wz a4)), none] [] A D (ri x) A D'
set_option maxRecDepth 100000 in
theorem rl_X3_knownOf {n : Nat} {A : aA} {D D' : aD} (a1 : Int) (a2 : Int) (h1 : rg a1) (h2 : rg a2) {x : Int} (hp : K_X3_knownOf_5 (n) A D a1 a2 0 0 x D') : Ev (n) (5) 29 [am_r (some 50), am_i (wz a1), am_i (wz a2)] A D (ri x) A D' := by
  refine Ev_of (c := 4) (P := P_X3_knownOf) (lo := [some (am_r (some 50)), some (am_i (wz a1)), some (am_i (wz a2)), none, none, none]) rfl rfl rfl (fun d hd s hr => ?_)
  refine ok (m_iconst (q := 1) rfl rfl rfl) ?_
  refine ok (m_istore_n (q := 2) (lo' := [some (am_r (some 50)), some (am_i (wz a1)), some (am_i (wz a2)), some (am_i (wz 0)), none, none]) rfl rfl rfl rfl rfl) ?_
  refine ok (m_iconst (q := 3) rfl rfl rfl) ?_
  refine ok (m_istore (q := 5) (lo' := [some (am_r (some 50)), some (am_i (wz a1)), some (am_i (wz a2)), some (am_i (wz 0)), some (am_i (wz 0)), none]) rfl rfl rfl rfl rfl) ?_
  exact hp d hd _ hr
set_option maxRecDepth 100000 in
theorem rl_X3_knownOf_5 {n : Nat} {A : aA} {D D' : aD} (a1 : Int) (a2 : Int) (a3 : Int) (a4 : Int) (h1 : rg a1) (h2 : rg a2) (h3 : rg a3) (h4 : rg a4) {x : Int} (hp : (if D 1002 5 ≤ a4 then (x = a3 ∧ D' = D) else (0 ≤ a4 ∧ a4 < D 1002 5) ∧ (if v_X5_isKnownBy D a4 a2 = 0 then K_X3_knownOf_5 (n) A D a1 a2 a3 (wr (a4 + 1)) x D' else (if a1 = (-1) then K_X3_knownOf_5 (n) A D a1 a2 (wr (a3 + 1)) (wr (a4 + 1)) x D' else (if D 2101 (D 2502 a4) = a1 then K_X3_knownOf_5 (n) A D a1 a2 (wr (a3 + 1)) (wr (a4 + 1)) x D' else K_X3_knownOf_5 (n) A D a1 a2 a3 (wr (a4 + 1)) x D'))))) : K_X3_knownOf_5 (n) A D a1 a2 a3 a4 x D' := by
  unfold K_X3_knownOf_5
  refine fun d hd s hr => ?_
  refine ok (m_iload (q := 7) rfl rfl rfl rfl) ?_
  refine ok (m_aload_n (q := 8) rfl rfl rfl rfl) ?_
  have f_1 := Rp_fx0_5 hr
  refine ok (m_gfy (q := 11) rfl rfl rfl hr rfl rfl rfl) ?_
  refine oke (e_ci (x_cv (q := 14) rfl rfl rfl rfl rfl rfl rfl rfl rfl rfl (is_ty hr rfl f_1)) (ev_size 5 f_1) (Nat.le_trans (by decide) hd) hr) (fun s2 r3 => ?_)
  refine okc (m_cmpge (qt := 66) (qf := 17) rfl rfl h4 (show rg (D 1002 5) from Rp_rg hr 1002 5) rfl rfl) (fun c4 => ?_) (fun c4 => ?_)
  · replace hp := ip c4 hp
    refine ok (m_iload_n (q := 67) rfl rfl rfl rfl) ?_
    exact ok (m_reti rfl rfl) (ok_iq r3 h3 hp)
  · replace hp := iq c4 hp
    refine ok (m_aload_n (q := 18) rfl rfl rfl rfl) ?_
    have f_5 := Rp_fx0_5 r3
    refine ok (m_gfy (q := 21) rfl rfl rfl r3 rfl rfl rfl) ?_
    refine ok (m_iload (q := 23) rfl rfl rfl rfl) ?_
    obtain ⟨g8, hp⟩ := hp
    have f_9 := Rp_el5 (D := D) r3 g8
    refine oke (e_cr (x_cv (q := 26) rfl rfl rfl rfl rfl rfl rfl rfl rfl rfl (is_ty r3 rfl f_5)) (ev_get5 a4 g8) (Nat.le_trans (by decide) hd) r3) (fun s6 r7 => ?_)
    refine ok (m_cast (q := 29) rfl rfl rfl (isN_ty r7 rfl f_9)) ?_
    refine ok (m_astore (q := 31) (lo' := [some (am_r (some 50)), some (am_i (wz a1)), some (am_i (wz a2)), some (am_i (wz a3)), some (am_i (wz a4)), some (am_r (some (A 15 a4)))]) rfl rfl rfl rfl rfl) ?_
    refine ok (m_aload (q := 33) rfl rfl rfl rfl) ?_
    refine ok (m_iload_n (q := 34) rfl rfl rfl rfl) ?_
    refine oke (e_ci (x_cv (q := 37) rfl rfl rfl rfl rfl rfl rfl rfl rfl rfl (is_ty r7 rfl f_9)) (ev_X5_isKnownBy (D := D) a4 a2 f_9 h2) (Nat.le_trans (by decide) hd) r7) (fun s10 r11 => ?_)
    refine okc (m_ifeq (qt := 60) (qf := 40) rfl rfl (Ev_rg (ev_X5_isKnownBy (D := D) a4 a2 f_9 h2) r7) rfl rfl) (fun c12 => ?_) (fun c12 => ?_)
    · replace hp := ip c12 hp
      refine ok (m_iinc (q := 63) (lo' := [some (am_r (some 50)), some (am_i (wz a1)), some (am_i (wz a2)), some (am_i (wz a3)), some (am_i (wz (wr (a4 + 1)))), some (am_r (some (A 15 a4)))]) rfl rfl rfl rfl rfl rfl rfl) ?_
      refine ok (m_goto (q := 5) rfl rfl rfl) ?_
      refine ok (mk rfl (lo' := [some (am_r (some 50)), some (am_i (wz a1)), some (am_i (wz a2)), some (am_i (wz a3)), some (am_i (wz (wr (a4 + 1)))), none]) rfl) ?_
      exact hp d hd _ r11
    · replace hp := iq c12 hp
      refine ok (m_iload_n (q := 41) rfl rfl rfl rfl) ?_
      refine ok (m_iconst (q := 42) rfl rfl rfl) ?_
      refine okc (m_cmpeq (qt := 57) (qf := 45) rfl rfl h1 ⟨by decide, by decide⟩ rfl rfl) (fun c13 => ?_) (fun c13 => ?_)
      · replace hp := ip c13 hp
        refine ok (m_iinc (q := 60) (lo' := [some (am_r (some 50)), some (am_i (wz a1)), some (am_i (wz a2)), some (am_i (wz (wr (a3 + 1)))), some (am_i (wz a4)), some (am_r (some (A 15 a4)))]) rfl rfl rfl rfl rfl rfl rfl) ?_
        refine ok (m_iinc (q := 63) (lo' := [some (am_r (some 50)), some (am_i (wz a1)), some (am_i (wz a2)), some (am_i (wz (wr (a3 + 1)))), some (am_i (wz (wr (a4 + 1)))), some (am_r (some (A 15 a4)))]) rfl rfl rfl rfl rfl rfl rfl) ?_
        refine ok (m_goto (q := 5) rfl rfl rfl) ?_
        refine ok (mk rfl (lo' := [some (am_r (some 50)), some (am_i (wz a1)), some (am_i (wz a2)), some (am_i (wz (wr (a3 + 1)))), some (am_i (wz (wr (a4 + 1)))), none]) rfl) ?_
        exact hp d hd _ r11
      · replace hp := iq c13 hp
        refine ok (m_aload (q := 47) rfl rfl rfl rfl) ?_
        have f_14 : D 911 (D 2502 a4) = 1 := Rp_f15_11 (D := D) (i := a4) r11 f_9
        refine ok (m_gfx (t := 15) (q := 50) (r := some (A 11 (D 2502 a4))) rfl rfl rfl r11 rfl f_9 rfl rfl rfl) ?_
        refine ok (m_gft (t := 11) (q := 53) rfl rfl rfl r11 rfl f_14 rfl rfl rfl) ?_
        refine ok (m_iload_n (q := 54) rfl rfl rfl rfl) ?_
        refine okc (m_cmpne (qt := 60) (qf := 57) rfl rfl (show rg (D 2101 (D 2502 a4)) from Rp_rg r11 2101 (D 2502 a4)) h1 rfl rfl) (fun c15 => ?_) (fun c15 => ?_)
        · replace hp := ip c15 hp
          refine ok (m_iinc (q := 60) (lo' := [some (am_r (some 50)), some (am_i (wz a1)), some (am_i (wz a2)), some (am_i (wz (wr (a3 + 1)))), some (am_i (wz a4)), some (am_r (some (A 15 a4)))]) rfl rfl rfl rfl rfl rfl rfl) ?_
          refine ok (m_iinc (q := 63) (lo' := [some (am_r (some 50)), some (am_i (wz a1)), some (am_i (wz a2)), some (am_i (wz (wr (a3 + 1)))), some (am_i (wz (wr (a4 + 1)))), some (am_r (some (A 15 a4)))]) rfl rfl rfl rfl rfl rfl rfl) ?_
          refine ok (m_goto (q := 5) rfl rfl rfl) ?_
          refine ok (mk rfl (lo' := [some (am_r (some 50)), some (am_i (wz a1)), some (am_i (wz a2)), some (am_i (wz (wr (a3 + 1)))), some (am_i (wz (wr (a4 + 1)))), none]) rfl) ?_
          exact hp d hd _ r11
        · replace hp := iq c15 hp
          refine ok (m_iinc (q := 63) (lo' := [some (am_r (some 50)), some (am_i (wz a1)), some (am_i (wz a2)), some (am_i (wz a3)), some (am_i (wz (wr (a4 + 1)))), some (am_r (some (A 15 a4)))]) rfl rfl rfl rfl rfl rfl rfl) ?_
          refine ok (m_goto (q := 5) rfl rfl rfl) ?_
          refine ok (mk rfl (lo' := [some (am_r (some 50)), some (am_i (wz a1)), some (am_i (wz a2)), some (am_i (wz a3)), some (am_i (wz (wr (a4 + 1)))), none]) rfl) ?_
          exact hp d hd _ r11
abbrev P_X12_leftMore : Nat → Option am_E := am_fy tb_X12_leftMore
def K_X12_leftMore_23 (n : Nat) (A : aA) (D : aD) (a1 : Int) (a2 : Int) (a3 : Int) (a4 : Int) (a5 : Int) (a6 : Int) (x : Int) (D' : aD) : Prop := Lp n 2 P_X12_leftMore 23 [some (am_r (some 70)), some (am_i (wz a1)), some (am_i (wz a2)), some (am_i (wz a3)), some (am_i (wz a4)), some (am_i (wz a5)), some (am_i (wz a6)), none] [] A D (ri x) A D'
set_option maxRecDepth 100000 in
theorem rl_X12_leftMore {n : Nat} {A : aA} {D D' : aD} (a1 : Int) (h1 : rg a1) {x : Int} (hp : (if v_X12_isHouse D a1 = 0 then (x = (-1) ∧ D' = D) else K_X12_leftMore_23 (n) A D a1 0 0 0 0 0 x D')) : Ev (n) (3) 210 [am_r (some 70), am_i (wz a1)] A D (ri x) A D' := by
  refine Ev_of (c := 2) (P := P_X12_leftMore) (lo := [some (am_r (some 70)), some (am_i (wz a1)), none, none, none, none, none, none]) rfl rfl rfl (fun d hd s hr => ?_)
  refine ok (m_aload_n (q := 1) rfl rfl rfl rfl) ?_
  refine ok (m_iload_n (q := 2) rfl rfl rfl rfl) ?_
  refine oke (e_ci (x_cv (q := 5) rfl rfl rfl rfl rfl rfl rfl rfl rfl rfl (is_st hr rfl rfl)) (ev_X12_isHouse (D := D) a1 h1) (Nat.le_trans (by decide) hd) hr) (fun s1 r2 => ?_)
  refine okc (m_ifne (qt := 10) (qf := 8) rfl rfl (Ev_rg (ev_X12_isHouse (D := D) a1 h1) hr) rfl rfl) (fun c3 => ?_) (fun c3 => ?_)
  · replace hp := ip c3 hp
    refine ok (m_iconst (q := 9) rfl rfl rfl) ?_
    exact ok (m_reti rfl rfl) (ok_iq r2 ⟨by decide, by decide⟩ hp)
  · replace hp := iq c3 hp
    refine ok (m_iconst (q := 11) rfl rfl rfl) ?_
    refine ok (m_istore_n (q := 12) (lo' := [some (am_r (some 70)), some (am_i (wz a1)), some (am_i (wz 0)), none, none, none, none, none]) rfl rfl rfl rfl rfl) ?_
    refine ok (m_iconst (q := 13) rfl rfl rfl) ?_
    refine ok (m_istore_n (q := 14) (lo' := [some (am_r (some 70)), some (am_i (wz a1)), some (am_i (wz 0)), some (am_i (wz 0)), none, none, none, none]) rfl rfl rfl rfl rfl) ?_
    refine ok (m_iconst (q := 15) rfl rfl rfl) ?_
    refine ok (m_istore (q := 17) (lo' := [some (am_r (some 70)), some (am_i (wz a1)), some (am_i (wz 0)), some (am_i (wz 0)), some (am_i (wz 0)), none, none, none]) rfl rfl rfl rfl rfl) ?_
    refine ok (m_iconst (q := 18) rfl rfl rfl) ?_
    refine ok (m_istore (q := 20) (lo' := [some (am_r (some 70)), some (am_i (wz a1)), some (am_i (wz 0)), some (am_i (wz 0)), some (am_i (wz 0)), some (am_i (wz 0)), none, none]) rfl rfl rfl rfl rfl) ?_
    refine ok (m_iconst (q := 21) rfl rfl rfl) ?_
    refine ok (m_istore (q := 23) (lo' := [some (am_r (some 70)), some (am_i (wz a1)), some (am_i (wz 0)), some (am_i (wz 0)), some (am_i (wz 0)), some (am_i (wz 0)), some (am_i (wz 0)), none]) rfl rfl rfl rfl rfl) ?_
    exact hp d hd _ r2
set_option maxRecDepth 100000 in
theorem rl_X12_leftMore_23 {n : Nat} {A : aA} {D D' : aD} (a1 : Int) (a2 : Int) (a3 : Int) (a4 : Int) (a5 : Int) (a6 : Int) (h1 : rg a1) (h2 : rg a2) (h3 : rg a3) (h4 : rg a4) (h5 : rg a5) (h6 : rg a6) {x : Int} (hp : (if D 70 4 ≤ a6 then (if 3 ≤ a2 then (a2 ≠ 0) ∧ (a4 ≠ 0) ∧ (if wr ((wr (100 * a3)).tdiv a2) ≤ wr (2 * (wr ((wr (100 * a5)).tdiv a4))) then (x = v_X12_one D 0 ∧ D' = D) else (x = v_X12_one D 1 ∧ D' = D)) else (x = 0 ∧ D' = D)) else (p_X12_isKnown D a6 (D 70 0)) ∧ (if v_X12_isKnown D a6 (D 70 0) = 0 then K_X12_leftMore_23 (n) A D a1 a2 a3 a4 a5 (wr (a6 + 1)) x D' else (0 ≤ a6 ∧ a6 < 60) ∧ (0 ≤ D 84 a6 ∧ D 84 a6 < 30) ∧ (if D 77 (D 84 a6) = a1 then (p_X12_wasLeftSoon D a6) ∧ (if v_X12_wasLeftSoon D a6 = 0 then K_X12_leftMore_23 (n) A D a1 (wr (a2 + (v_X12_one D 1))) (wr (a3 + (v_X12_one D 0))) (wr (a4 + 1)) (wr (a5 + (v_X12_one D (v_X12_wasLeftSoon D a6)))) (wr (a6 + 1)) x D' else K_X12_leftMore_23 (n) A D a1 (wr (a2 + (v_X12_one D 1))) (wr (a3 + (v_X12_one D 1))) (wr (a4 + 1)) (wr (a5 + (v_X12_one D (v_X12_wasLeftSoon D a6)))) (wr (a6 + 1)) x D') else (p_X12_wasLeftSoon D a6) ∧ K_X12_leftMore_23 (n) A D a1 (wr (a2 + (v_X12_one D 0))) (wr (a3 + (v_X12_one D 0))) (wr (a4 + 1)) (wr (a5 + (v_X12_one D (v_X12_wasLeftSoon D a6)))) (wr (a6 + 1)) x D')))) : K_X12_leftMore_23 (n) A D a1 a2 a3 a4 a5 a6 x D' := by
  unfold K_X12_leftMore_23
  refine fun d hd s hr => ?_
  refine ok (m_iload (q := 25) rfl rfl rfl rfl) ?_
  refine ok (m_aload_n (q := 26) rfl rfl rfl rfl) ?_
  refine ok (m_gfs (z := 4) (q := 29) rfl rfl rfl hr rfl rfl rfl rfl rfl) ?_
  refine okc (m_cmpge (qt := 127) (qf := 32) rfl rfl h6 (Rp_rg hr 70 4) rfl rfl) (fun c4 => ?_) (fun c4 => ?_)
  · replace hp := ip c4 hp
    refine ok (m_iload_n (q := 128) rfl rfl rfl rfl) ?_
    refine ok (m_iconst (q := 129) rfl rfl rfl) ?_
    refine okc (m_cmpge (qt := 136) (qf := 132) rfl rfl h2 ⟨by decide, by decide⟩ rfl rfl) (fun c5 => ?_) (fun c5 => ?_)
    · replace hp := ip c5 hp
      refine ok (m_bipush (q := 138) rfl rfl rfl) ?_
      refine ok (m_iload_n (q := 139) rfl rfl rfl rfl) ?_
      refine ok (m_imul (q := 140) rfl rfl rfl) ?_
      refine ok (m_iload_n (q := 141) rfl rfl rfl rfl) ?_
      obtain ⟨g6, hp⟩ := hp
      refine ok (m_idiv (q := 142) rfl rfl (rg_wr _) h2 g6 rfl) ?_
      refine ok (m_iconst (q := 143) rfl rfl rfl) ?_
      refine ok (m_bipush (q := 145) rfl rfl rfl) ?_
      refine ok (m_iload (q := 147) rfl rfl rfl rfl) ?_
      refine ok (m_imul (q := 148) rfl rfl rfl) ?_
      refine ok (m_iload (q := 150) rfl rfl rfl rfl) ?_
      obtain ⟨g7, hp⟩ := hp
      refine ok (m_idiv (q := 151) rfl rfl (rg_wr _) h4 g7 rfl) ?_
      refine ok (m_imul (q := 152) rfl rfl rfl) ?_
      refine okc (m_cmple (qt := 159) (qf := 155) rfl rfl (rg_wr _) (rg_wr _) rfl rfl) (fun c8 => ?_) (fun c8 => ?_)
      · replace hp := ip c8 hp
        refine ok (m_iconst (q := 160) rfl rfl rfl) ?_
        refine oke (e_ci (x_cs (q := 163) rfl rfl rfl rfl rfl rfl rfl rfl rfl) (ev_X12_one (D := D) 0 ⟨by decide, by decide⟩ ⟨by decide, by decide⟩) (Nat.le_trans (by decide) hd) hr) (fun s9 r10 => ?_)
        exact ok (m_reti rfl rfl) (ok_iq r10 (Ev_rg (ev_X12_one (D := D) 0 ⟨by decide, by decide⟩ ⟨by decide, by decide⟩) hr) hp)
      · replace hp := iq c8 hp
        refine ok (m_iconst (q := 156) rfl rfl rfl) ?_
        refine ok (m_goto (q := 160) rfl rfl rfl) ?_
        refine oke (e_ci (x_cs (q := 163) rfl rfl rfl rfl rfl rfl rfl rfl rfl) (ev_X12_one (D := D) 1 ⟨by decide, by decide⟩ ⟨by decide, by decide⟩) (Nat.le_trans (by decide) hd) hr) (fun s11 r12 => ?_)
        exact ok (m_reti rfl rfl) (ok_iq r12 (Ev_rg (ev_X12_one (D := D) 1 ⟨by decide, by decide⟩ ⟨by decide, by decide⟩) hr) hp)
    · replace hp := iq c5 hp
      refine ok (m_iconst (q := 133) rfl rfl rfl) ?_
      refine ok (m_goto (q := 163) rfl rfl rfl) ?_
      exact ok (m_reti rfl rfl) (ok_iq hr ⟨by decide, by decide⟩ hp)
  · replace hp := iq c4 hp
    refine ok (m_aload_n (q := 33) rfl rfl rfl rfl) ?_
    refine ok (m_iload (q := 35) rfl rfl rfl rfl) ?_
    refine ok (m_aload_n (q := 36) rfl rfl rfl rfl) ?_
    refine ok (m_gfs (z := 0) (q := 39) rfl rfl rfl hr rfl rfl rfl rfl rfl) ?_
    obtain ⟨g15, hp⟩ := hp
    refine oke (e_ci (x_cv (q := 42) rfl rfl rfl rfl rfl rfl rfl rfl rfl rfl (is_st hr rfl rfl)) (ev_X12_isKnown (D := D) a6 (D 70 0) h6 (Rp_rg hr 70 0) g15) (Nat.le_trans (by decide) hd) hr) (fun s13 r14 => ?_)
    refine okc (m_ifne (qt := 48) (qf := 45) rfl rfl (Ev_rg (ev_X12_isKnown (D := D) a6 (D 70 0) h6 (Rp_rg hr 70 0) g15) hr) rfl rfl) (fun c16 => ?_) (fun c16 => ?_)
    · replace hp := ip c16 hp
      refine ok (m_goto (q := 121) rfl rfl rfl) ?_
      refine ok (m_iinc (q := 124) (lo' := [some (am_r (some 70)), some (am_i (wz a1)), some (am_i (wz a2)), some (am_i (wz a3)), some (am_i (wz a4)), some (am_i (wz a5)), some (am_i (wz (wr (a6 + 1)))), none]) rfl rfl rfl rfl rfl rfl rfl) ?_
      refine ok (m_goto (q := 23) rfl rfl rfl) ?_
      exact hp d hd _ r14
    · replace hp := iq c16 hp
      refine ok (m_aload_n (q := 49) rfl rfl rfl rfl) ?_
      refine ok (m_gfc (q := 52) rfl rfl rfl r14 rfl rfl rfl) ?_
      refine ok (m_aload_n (q := 53) rfl rfl rfl rfl) ?_
      refine ok (m_gfc (q := 56) rfl rfl rfl r14 rfl rfl rfl) ?_
      refine ok (m_iload (q := 58) rfl rfl rfl rfl) ?_
      obtain ⟨g17, hp⟩ := hp
      refine ok (m_ials (q := 59) rfl rfl rfl r14 rfl rfl g17 rfl) ?_
      obtain ⟨g18, hp⟩ := hp
      refine ok (m_ials (q := 60) rfl rfl rfl r14 rfl rfl g18 rfl) ?_
      refine ok (m_iload_n (q := 61) rfl rfl rfl rfl) ?_
      refine okc (m_cmpne (qt := 68) (qf := 64) rfl rfl (Rp_rg r14 77 (D 84 a6)) h1 rfl rfl) (fun c19 => ?_) (fun c19 => ?_)
      · replace hp := ip c19 hp
        refine ok (m_iconst (q := 65) rfl rfl rfl) ?_
        refine ok (m_goto (q := 69) rfl rfl rfl) ?_
        refine ok (m_istore (q := 71) (lo' := [some (am_r (some 70)), some (am_i (wz a1)), some (am_i (wz a2)), some (am_i (wz a3)), some (am_i (wz a4)), some (am_i (wz a5)), some (am_i (wz a6)), some (am_i (wz 1))]) rfl rfl rfl rfl rfl) ?_
        refine ok (m_iinc (q := 74) (lo' := [some (am_r (some 70)), some (am_i (wz a1)), some (am_i (wz a2)), some (am_i (wz a3)), some (am_i (wz (wr (a4 + 1)))), some (am_i (wz a5)), some (am_i (wz a6)), some (am_i (wz 1))]) rfl rfl rfl rfl rfl rfl rfl) ?_
        refine ok (m_iload_n (q := 75) rfl rfl rfl rfl) ?_
        refine ok (m_iload (q := 77) rfl rfl rfl rfl) ?_
        refine oke (e_ci (x_cs (q := 80) rfl rfl rfl rfl rfl rfl rfl rfl rfl) (ev_X12_one (D := D) 1 ⟨by decide, by decide⟩ ⟨by decide, by decide⟩) (Nat.le_trans (by decide) hd) r14) (fun s20 r21 => ?_)
        refine ok (m_iadd (q := 81) rfl rfl rfl) ?_
        refine ok (m_istore_n (q := 82) (lo' := [some (am_r (some 70)), some (am_i (wz a1)), some (am_i (wz (wr (a2 + (v_X12_one D 1))))), some (am_i (wz a3)), some (am_i (wz (wr (a4 + 1)))), some (am_i (wz a5)), some (am_i (wz a6)), some (am_i (wz 1))]) rfl rfl rfl rfl rfl) ?_
        refine ok (m_iload (q := 84) rfl rfl rfl rfl) ?_
        refine ok (m_aload_n (q := 85) rfl rfl rfl rfl) ?_
        refine ok (m_iload (q := 87) rfl rfl rfl rfl) ?_
        obtain ⟨g24, hp⟩ := hp
        refine oke (e_ci (x_cv (q := 90) rfl rfl rfl rfl rfl rfl rfl rfl rfl rfl (is_st r21 rfl rfl)) (ev_X12_wasLeftSoon (D := D) a6 h6 g24) (Nat.le_trans (by decide) hd) r21) (fun s22 r23 => ?_)
        refine oke (e_ci (x_cs (q := 93) rfl rfl rfl rfl rfl rfl rfl rfl rfl) (ev_X12_one (D := D) (v_X12_wasLeftSoon D a6) (Ev_rg (ev_X12_wasLeftSoon (D := D) a6 h6 g24) r21) (b_X12_wasLeftSoon D a6)) (Nat.le_trans (by decide) hd) r23) (fun s25 r26 => ?_)
        refine ok (m_iadd (q := 94) rfl rfl rfl) ?_
        refine ok (m_istore (q := 96) (lo' := [some (am_r (some 70)), some (am_i (wz a1)), some (am_i (wz (wr (a2 + (v_X12_one D 1))))), some (am_i (wz a3)), some (am_i (wz (wr (a4 + 1)))), some (am_i (wz (wr (a5 + (v_X12_one D (v_X12_wasLeftSoon D a6)))))), some (am_i (wz a6)), some (am_i (wz 1))]) rfl rfl rfl rfl rfl) ?_
        refine ok (m_iload_n (q := 97) rfl rfl rfl rfl) ?_
        refine ok (m_iload (q := 99) rfl rfl rfl rfl) ?_
        refine ok ((m_ifeq (qt := 115) (qf := 102) rfl rfl ⟨by decide, by decide⟩ rfl rfl).trans (if_neg (by decide))) ?_
        refine ok (m_aload_n (q := 103) rfl rfl rfl rfl) ?_
        refine ok (m_iload (q := 105) rfl rfl rfl rfl) ?_
        refine oke (e_ci (x_cv (q := 108) rfl rfl rfl rfl rfl rfl rfl rfl rfl rfl (is_st r26 rfl rfl)) (ev_X12_wasLeftSoon (D := D) a6 h6 g24) (Nat.le_trans (by decide) hd) r26) (fun s27 r28 => ?_)
        refine okc (m_ifeq (qt := 115) (qf := 111) rfl rfl (Ev_rg (ev_X12_wasLeftSoon (D := D) a6 h6 g24) r26) rfl rfl) (fun c29 => ?_) (fun c29 => ?_)
        · replace hp := ip c29 hp
          refine ok (m_iconst (q := 116) rfl rfl rfl) ?_
          refine oke (e_ci (x_cs (q := 119) rfl rfl rfl rfl rfl rfl rfl rfl rfl) (ev_X12_one (D := D) 0 ⟨by decide, by decide⟩ ⟨by decide, by decide⟩) (Nat.le_trans (by decide) hd) r28) (fun s30 r31 => ?_)
          refine ok (m_iadd (q := 120) rfl rfl rfl) ?_
          refine ok (m_istore_n (q := 121) (lo' := [some (am_r (some 70)), some (am_i (wz a1)), some (am_i (wz (wr (a2 + (v_X12_one D 1))))), some (am_i (wz (wr (a3 + (v_X12_one D 0))))), some (am_i (wz (wr (a4 + 1)))), some (am_i (wz (wr (a5 + (v_X12_one D (v_X12_wasLeftSoon D a6)))))), some (am_i (wz a6)), some (am_i (wz 1))]) rfl rfl rfl rfl rfl) ?_
          refine ok (m_iinc (q := 124) (lo' := [some (am_r (some 70)), some (am_i (wz a1)), some (am_i (wz (wr (a2 + (v_X12_one D 1))))), some (am_i (wz (wr (a3 + (v_X12_one D 0))))), some (am_i (wz (wr (a4 + 1)))), some (am_i (wz (wr (a5 + (v_X12_one D (v_X12_wasLeftSoon D a6)))))), some (am_i (wz (wr (a6 + 1)))), some (am_i (wz 1))]) rfl rfl rfl rfl rfl rfl rfl) ?_
          refine ok (m_goto (q := 23) rfl rfl rfl) ?_
          refine ok (mk rfl (lo' := [some (am_r (some 70)), some (am_i (wz a1)), some (am_i (wz (wr (a2 + (v_X12_one D 1))))), some (am_i (wz (wr (a3 + (v_X12_one D 0))))), some (am_i (wz (wr (a4 + 1)))), some (am_i (wz (wr (a5 + (v_X12_one D (v_X12_wasLeftSoon D a6)))))), some (am_i (wz (wr (a6 + 1)))), none]) rfl) ?_
          exact hp d hd _ r31
        · replace hp := iq c29 hp
          refine ok (m_iconst (q := 112) rfl rfl rfl) ?_
          refine ok (m_goto (q := 116) rfl rfl rfl) ?_
          refine oke (e_ci (x_cs (q := 119) rfl rfl rfl rfl rfl rfl rfl rfl rfl) (ev_X12_one (D := D) 1 ⟨by decide, by decide⟩ ⟨by decide, by decide⟩) (Nat.le_trans (by decide) hd) r28) (fun s32 r33 => ?_)
          refine ok (m_iadd (q := 120) rfl rfl rfl) ?_
          refine ok (m_istore_n (q := 121) (lo' := [some (am_r (some 70)), some (am_i (wz a1)), some (am_i (wz (wr (a2 + (v_X12_one D 1))))), some (am_i (wz (wr (a3 + (v_X12_one D 1))))), some (am_i (wz (wr (a4 + 1)))), some (am_i (wz (wr (a5 + (v_X12_one D (v_X12_wasLeftSoon D a6)))))), some (am_i (wz a6)), some (am_i (wz 1))]) rfl rfl rfl rfl rfl) ?_
          refine ok (m_iinc (q := 124) (lo' := [some (am_r (some 70)), some (am_i (wz a1)), some (am_i (wz (wr (a2 + (v_X12_one D 1))))), some (am_i (wz (wr (a3 + (v_X12_one D 1))))), some (am_i (wz (wr (a4 + 1)))), some (am_i (wz (wr (a5 + (v_X12_one D (v_X12_wasLeftSoon D a6)))))), some (am_i (wz (wr (a6 + 1)))), some (am_i (wz 1))]) rfl rfl rfl rfl rfl rfl rfl) ?_
          refine ok (m_goto (q := 23) rfl rfl rfl) ?_
          refine ok (mk rfl (lo' := [some (am_r (some 70)), some (am_i (wz a1)), some (am_i (wz (wr (a2 + (v_X12_one D 1))))), some (am_i (wz (wr (a3 + (v_X12_one D 1))))), some (am_i (wz (wr (a4 + 1)))), some (am_i (wz (wr (a5 + (v_X12_one D (v_X12_wasLeftSoon D a6)))))), some (am_i (wz (wr (a6 + 1)))), none]) rfl) ?_
          exact hp d hd _ r33
      · replace hp := iq c19 hp
        refine ok (m_iconst (q := 69) rfl rfl rfl) ?_
        refine ok (m_istore (q := 71) (lo' := [some (am_r (some 70)), some (am_i (wz a1)), some (am_i (wz a2)), some (am_i (wz a3)), some (am_i (wz a4)), some (am_i (wz a5)), some (am_i (wz a6)), some (am_i (wz 0))]) rfl rfl rfl rfl rfl) ?_
        refine ok (m_iinc (q := 74) (lo' := [some (am_r (some 70)), some (am_i (wz a1)), some (am_i (wz a2)), some (am_i (wz a3)), some (am_i (wz (wr (a4 + 1)))), some (am_i (wz a5)), some (am_i (wz a6)), some (am_i (wz 0))]) rfl rfl rfl rfl rfl rfl rfl) ?_
        refine ok (m_iload_n (q := 75) rfl rfl rfl rfl) ?_
        refine ok (m_iload (q := 77) rfl rfl rfl rfl) ?_
        refine oke (e_ci (x_cs (q := 80) rfl rfl rfl rfl rfl rfl rfl rfl rfl) (ev_X12_one (D := D) 0 ⟨by decide, by decide⟩ ⟨by decide, by decide⟩) (Nat.le_trans (by decide) hd) r14) (fun s34 r35 => ?_)
        refine ok (m_iadd (q := 81) rfl rfl rfl) ?_
        refine ok (m_istore_n (q := 82) (lo' := [some (am_r (some 70)), some (am_i (wz a1)), some (am_i (wz (wr (a2 + (v_X12_one D 0))))), some (am_i (wz a3)), some (am_i (wz (wr (a4 + 1)))), some (am_i (wz a5)), some (am_i (wz a6)), some (am_i (wz 0))]) rfl rfl rfl rfl rfl) ?_
        refine ok (m_iload (q := 84) rfl rfl rfl rfl) ?_
        refine ok (m_aload_n (q := 85) rfl rfl rfl rfl) ?_
        refine ok (m_iload (q := 87) rfl rfl rfl rfl) ?_
        obtain ⟨g38, hp⟩ := hp
        refine oke (e_ci (x_cv (q := 90) rfl rfl rfl rfl rfl rfl rfl rfl rfl rfl (is_st r35 rfl rfl)) (ev_X12_wasLeftSoon (D := D) a6 h6 g38) (Nat.le_trans (by decide) hd) r35) (fun s36 r37 => ?_)
        refine oke (e_ci (x_cs (q := 93) rfl rfl rfl rfl rfl rfl rfl rfl rfl) (ev_X12_one (D := D) (v_X12_wasLeftSoon D a6) (Ev_rg (ev_X12_wasLeftSoon (D := D) a6 h6 g38) r35) (b_X12_wasLeftSoon D a6)) (Nat.le_trans (by decide) hd) r37) (fun s39 r40 => ?_)
        refine ok (m_iadd (q := 94) rfl rfl rfl) ?_
        refine ok (m_istore (q := 96) (lo' := [some (am_r (some 70)), some (am_i (wz a1)), some (am_i (wz (wr (a2 + (v_X12_one D 0))))), some (am_i (wz a3)), some (am_i (wz (wr (a4 + 1)))), some (am_i (wz (wr (a5 + (v_X12_one D (v_X12_wasLeftSoon D a6)))))), some (am_i (wz a6)), some (am_i (wz 0))]) rfl rfl rfl rfl rfl) ?_
        refine ok (m_iload_n (q := 97) rfl rfl rfl rfl) ?_
        refine ok (m_iload (q := 99) rfl rfl rfl rfl) ?_
        refine ok ((m_ifeq (qt := 115) (qf := 102) rfl rfl ⟨by decide, by decide⟩ rfl rfl).trans (if_pos (by decide))) ?_
        refine ok (m_iconst (q := 116) rfl rfl rfl) ?_
        refine oke (e_ci (x_cs (q := 119) rfl rfl rfl rfl rfl rfl rfl rfl rfl) (ev_X12_one (D := D) 0 ⟨by decide, by decide⟩ ⟨by decide, by decide⟩) (Nat.le_trans (by decide) hd) r40) (fun s41 r42 => ?_)
        refine ok (m_iadd (q := 120) rfl rfl rfl) ?_
        refine ok (m_istore_n (q := 121) (lo' := [some (am_r (some 70)), some (am_i (wz a1)), some (am_i (wz (wr (a2 + (v_X12_one D 0))))), some (am_i (wz (wr (a3 + (v_X12_one D 0))))), some (am_i (wz (wr (a4 + 1)))), some (am_i (wz (wr (a5 + (v_X12_one D (v_X12_wasLeftSoon D a6)))))), some (am_i (wz a6)), some (am_i (wz 0))]) rfl rfl rfl rfl rfl) ?_
        refine ok (m_iinc (q := 124) (lo' := [some (am_r (some 70)), some (am_i (wz a1)), some (am_i (wz (wr (a2 + (v_X12_one D 0))))), some (am_i (wz (wr (a3 + (v_X12_one D 0))))), some (am_i (wz (wr (a4 + 1)))), some (am_i (wz (wr (a5 + (v_X12_one D (v_X12_wasLeftSoon D a6)))))), some (am_i (wz (wr (a6 + 1)))), some (am_i (wz 0))]) rfl rfl rfl rfl rfl rfl rfl) ?_
        refine ok (m_goto (q := 23) rfl rfl rfl) ?_
        refine ok (mk rfl (lo' := [some (am_r (some 70)), some (am_i (wz a1)), some (am_i (wz (wr (a2 + (v_X12_one D 0))))), some (am_i (wz (wr (a3 + (v_X12_one D 0))))), some (am_i (wz (wr (a4 + 1)))), some (am_i (wz (wr (a5 + (v_X12_one D (v_X12_wasLeftSoon D a6)))))), some (am_i (wz (wr (a6 + 1)))), none]) rfl) ?_
        exact hp d hd _ r42
def lfP (D : aD) (i : Int) : Bool := decide (¬ D 88 i = -1)
def udP (D : aD) (i : Int) : Bool := decide (¬ D 87 i = 5000)
theorem ev_X3_leftCount (hI : Iv D) : Ev n 5 31 [am_r (some 50)] A D (ri (cf (lfP D) (D 70 4))) A D := by
  have hc := hI.ct; unfold I_ct at hc
  refine rl_X3_leftCount ?_
  refine dn_ind (K := fun j => K_X3_leftCount_4 n A D (cf (lfP D) j) j (cf (lfP D) (D 70 4)) D) (lo := 0) (N := D 70 4) ?_ ?_ 0 (by omega) (by omega)
  · have hb := cf_b (P := lfP D) (D 70 4) (by omega)
    refine rl_X3_leftCount_4 _ _ (rgb (by omega) (by omega)) (rgb (by omega) (by omega)) ?_
    rw [if_pos (by omega)]; exact ⟨rfl, rfl⟩
  · intro j j0 j1 ih
    have hb := cf_b (P := lfP D) j j0
    refine rl_X3_leftCount_4 _ _ (rgb (by omega) (by omega)) (rgb (by omega) (by omega)) ?_
    rw [if_neg (by omega), wr1 j0 j1 (by omega), wr_id (by omega) (by omega), wr_id (by omega) (by omega), (hI.pg j j0 j1).2.2.2.2.2.1]
    refine ⟨⟨by omega, by omega⟩, ?_⟩
    split
    · rename_i c; rw [cf_f j0 (by unfold lfP; exact decide_eq_false (fun q => q c))] at ih; rw [Int.add_zero]; exact ih
    · rename_i c; rw [cf_t j0 (by unfold lfP; exact decide_eq_true c)] at ih; exact ih
theorem ev_X3_undoneCount (hI : Iv D) : Ev n 5 32 [am_r (some 50)] A D (ri (cf (udP D) (D 70 4))) A D := by
  have hc := hI.ct; unfold I_ct at hc
  refine rl_X3_undoneCount ?_
  refine dn_ind (K := fun j => K_X3_undoneCount_4 n A D (cf (udP D) j) j (cf (udP D) (D 70 4)) D) (lo := 0) (N := D 70 4) ?_ ?_ 0 (by omega) (by omega)
  · have hb := cf_b (P := udP D) (D 70 4) (by omega)
    refine rl_X3_undoneCount_4 _ _ (rgb (by omega) (by omega)) (rgb (by omega) (by omega)) ?_
    rw [if_pos (by omega)]; exact ⟨rfl, rfl⟩
  · intro j j0 j1 ih
    have hb := cf_b (P := udP D) j j0
    have hg := hI.pg j j0 j1
    refine rl_X3_undoneCount_4 _ _ (rgb (by omega) (by omega)) (rgb (by omega) (by omega)) ?_
    rw [if_neg (by omega), wr1 j0 j1 (by omega), wr_id (by omega) (by omega), wr_id (by omega) (by omega)]
    refine ⟨⟨by omega, by omega⟩, ?_⟩
    split
    · rename_i c; rw [cf_f j0 (by unfold udP; exact decide_eq_false (fun q => by omega))] at ih; rw [Int.add_zero]; exact ih
    · rename_i c; rw [cf_t j0 (by unfold udP; exact decide_eq_true (by omega))] at ih; exact ih
def p_I (D : aD) : Prop := Iv D
def w_leftCount (D : aD) : Int := cf (lfP D) (D 70 4)
def w_undoneCount (D : aD) : Int := cf (udP D) (D 70 4)
theorem ev_lc (hp : p_I D) : Ev n 5 31 [am_r (some 50)] A D (ri (w_leftCount D)) A D := ev_X3_leftCount hp
theorem ev_uc (hp : p_I D) : Ev n 5 32 [am_r (some 50)] A D (ri (w_undoneCount D)) A D := ev_X3_undoneCount hp
abbrev P_X11_count : Nat → Option am_E := am_fy tb_X11_count
def v_X11_count (D : aD) (a1 : Int) : Int := if a1 = 0 then D 32 14 else if a1 = 1 then D 1002 0 else if a1 = 2 then D 32 15 else if a1 = 3 then D 1002 1 else if a1 = 4 then D 1002 5 else if a1 = 5 then w_leftCount D else if a1 = 6 then w_undoneCount D else if a1 = 7 then D 1002 4 else if a1 = 8 then D 1002 2 else if a1 = 9 then D 1002 3 else if a1 = 10 then D 32 16 else if a1 = 11 then D 32 17 else if a1 = 12 then D 47 2 else (-1)
def p_X11_count (D : aD) (a1 : Int) : Prop := (if a1 = 0 then True else (if a1 = 1 then True else (if a1 = 2 then True else (if a1 = 3 then True else (if a1 = 4 then True else (if a1 = 5 then (p_I D) else (if a1 = 6 then (p_I D) else True)))))))
set_option maxRecDepth 100000 in
theorem ev_X11_count {n : Nat} {A : aA} {D : aD} (a1 : Int) (h1 : rg a1) (hp : p_X11_count D a1) : Ev (n) 6 106 [am_r (some 32), am_i (wz a1)] A D (ri (v_X11_count D a1)) A D := by
  unfold p_X11_count at hp
  unfold v_X11_count
  refine Ev_of (c := 5) (P := P_X11_count) (lo := [some (am_r (some 32)), some (am_i (wz a1))]) rfl rfl rfl (fun d hd s hr => ?_)
  refine ok (m_iload_n (q := 1) rfl rfl rfl rfl) ?_
  refine ok (m_tsw (z := 0) (qs := [68, 73, 81, 86, 94, 105, 113, 121, 129, 137, 145, 150, 155]) (qd := 163) rfl rfl h1 rfl rfl rfl rfl) ?_
  refine okp (rfl) (fun c1 => ?_) (fun c1 => ?_)
  · refine ok (m_aload_n (q := 69) rfl rfl rfl rfl) ?_
    refine ok (m_gfs (z := 14) (q := 72) rfl rfl rfl hr rfl rfl rfl rfl rfl) ?_
    exact ok (m_reti rfl rfl) (ok_i hr (Rp_rg hr 32 14))
  · replace hp := iq c1 hp
    refine okp (rfl) (fun c2 => ?_) (fun c2 => ?_)
    · refine ok (m_aload_n (q := 74) rfl rfl rfl rfl) ?_
      have f_3 := Rp_fx0_0 hr
      refine ok (m_gfy (q := 77) rfl rfl rfl hr rfl rfl rfl) ?_
      refine oke (e_ci (x_cv (q := 80) rfl rfl rfl rfl rfl rfl rfl rfl rfl rfl (is_ty hr rfl f_3)) (ev_size 0 f_3) (Nat.le_trans (by decide) hd) hr) (fun s4 r5 => ?_)
      exact ok (m_reti rfl rfl) (ok_i r5 (show rg (D 1002 0) from Rp_rg hr 1002 0))
    · replace hp := iq c2 hp
      refine okp (rfl) (fun c6 => ?_) (fun c6 => ?_)
      · refine ok (m_aload_n (q := 82) rfl rfl rfl rfl) ?_
        refine ok (m_gfs (z := 15) (q := 85) rfl rfl rfl hr rfl rfl rfl rfl rfl) ?_
        exact ok (m_reti rfl rfl) (ok_i hr (Rp_rg hr 32 15))
      · replace hp := iq c6 hp
        refine okp (rfl) (fun c7 => ?_) (fun c7 => ?_)
        · refine ok (m_aload_n (q := 87) rfl rfl rfl rfl) ?_
          have f_8 := Rp_fx0_1 hr
          refine ok (m_gfy (q := 90) rfl rfl rfl hr rfl rfl rfl) ?_
          refine oke (e_ci (x_cv (q := 93) rfl rfl rfl rfl rfl rfl rfl rfl rfl rfl (is_ty hr rfl f_8)) (ev_size 1 f_8) (Nat.le_trans (by decide) hd) hr) (fun s9 r10 => ?_)
          exact ok (m_reti rfl rfl) (ok_i r10 (show rg (D 1002 1) from Rp_rg hr 1002 1))
        · replace hp := iq c7 hp
          refine okp (rfl) (fun c11 => ?_) (fun c11 => ?_)
          · refine ok (m_aload_n (q := 95) rfl rfl rfl rfl) ?_
            refine ok (m_gfc (q := 98) rfl rfl rfl hr rfl rfl rfl) ?_
            have f_12 := Rp_fx0_5 hr
            refine ok (m_gfy (q := 101) rfl rfl rfl hr rfl rfl rfl) ?_
            refine oke (e_ci (x_cv (q := 104) rfl rfl rfl rfl rfl rfl rfl rfl rfl rfl (is_ty hr rfl f_12)) (ev_size 5 f_12) (Nat.le_trans (by decide) hd) hr) (fun s13 r14 => ?_)
            exact ok (m_reti rfl rfl) (ok_i r14 (show rg (D 1002 5) from Rp_rg hr 1002 5))
          · replace hp := iq c11 hp
            refine okp (rfl) (fun c15 => ?_) (fun c15 => ?_)
            · replace hp := ip c15 hp
              refine ok (m_aload_n (q := 106) rfl rfl rfl rfl) ?_
              refine ok (m_gfc (q := 109) rfl rfl rfl hr rfl rfl rfl) ?_
              have g18 := hp
              refine oke (e_ci (x_cv (q := 112) rfl rfl rfl rfl rfl rfl rfl rfl rfl rfl (is_st hr rfl rfl)) (ev_lc (D := D) g18) (Nat.le_trans (by decide) hd) hr) (fun s16 r17 => ?_)
              exact ok (m_reti rfl rfl) (ok_i r17 (Ev_rg (ev_lc (D := D) g18) hr))
            · replace hp := iq c15 hp
              refine okp (rfl) (fun c19 => ?_) (fun c19 => ?_)
              · replace hp := ip c19 hp
                refine ok (m_aload_n (q := 114) rfl rfl rfl rfl) ?_
                refine ok (m_gfc (q := 117) rfl rfl rfl hr rfl rfl rfl) ?_
                have g22 := hp
                refine oke (e_ci (x_cv (q := 120) rfl rfl rfl rfl rfl rfl rfl rfl rfl rfl (is_st hr rfl rfl)) (ev_uc (D := D) g22) (Nat.le_trans (by decide) hd) hr) (fun s20 r21 => ?_)
                exact ok (m_reti rfl rfl) (ok_i r21 (Ev_rg (ev_uc (D := D) g22) hr))
              · refine okp (rfl) (fun c23 => ?_) (fun c23 => ?_)
                · refine ok (m_aload_n (q := 122) rfl rfl rfl rfl) ?_
                  have f_24 := Rp_fx0_4 hr
                  refine ok (m_gfy (q := 125) rfl rfl rfl hr rfl rfl rfl) ?_
                  refine oke (e_ci (x_cv (q := 128) rfl rfl rfl rfl rfl rfl rfl rfl rfl rfl (is_ty hr rfl f_24)) (ev_size 4 f_24) (Nat.le_trans (by decide) hd) hr) (fun s25 r26 => ?_)
                  exact ok (m_reti rfl rfl) (ok_i r26 (show rg (D 1002 4) from Rp_rg hr 1002 4))
                · refine okp (rfl) (fun c27 => ?_) (fun c27 => ?_)
                  · refine ok (m_aload_n (q := 130) rfl rfl rfl rfl) ?_
                    have f_28 := Rp_fx0_2 hr
                    refine ok (m_gfy (q := 133) rfl rfl rfl hr rfl rfl rfl) ?_
                    refine oke (e_ci (x_cv (q := 136) rfl rfl rfl rfl rfl rfl rfl rfl rfl rfl (is_ty hr rfl f_28)) (ev_size 2 f_28) (Nat.le_trans (by decide) hd) hr) (fun s29 r30 => ?_)
                    exact ok (m_reti rfl rfl) (ok_i r30 (show rg (D 1002 2) from Rp_rg hr 1002 2))
                  · refine okp (rfl) (fun c31 => ?_) (fun c31 => ?_)
                    · refine ok (m_aload_n (q := 138) rfl rfl rfl rfl) ?_
                      have f_32 := Rp_fx0_3 hr
                      refine ok (m_gfy (q := 141) rfl rfl rfl hr rfl rfl rfl) ?_
                      refine oke (e_ci (x_cv (q := 144) rfl rfl rfl rfl rfl rfl rfl rfl rfl rfl (is_ty hr rfl f_32)) (ev_size 3 f_32) (Nat.le_trans (by decide) hd) hr) (fun s33 r34 => ?_)
                      exact ok (m_reti rfl rfl) (ok_i r34 (show rg (D 1002 3) from Rp_rg hr 1002 3))
                    · refine okp (rfl) (fun c35 => ?_) (fun c35 => ?_)
                      · refine ok (m_aload_n (q := 146) rfl rfl rfl rfl) ?_
                        refine ok (m_gfs (z := 16) (q := 149) rfl rfl rfl hr rfl rfl rfl rfl rfl) ?_
                        exact ok (m_reti rfl rfl) (ok_i hr (Rp_rg hr 32 16))
                      · refine okp (rfl) (fun c36 => ?_) (fun c36 => ?_)
                        · refine ok (m_aload_n (q := 151) rfl rfl rfl rfl) ?_
                          refine ok (m_gfs (z := 17) (q := 154) rfl rfl rfl hr rfl rfl rfl rfl rfl) ?_
                          exact ok (m_reti rfl rfl) (ok_i hr (Rp_rg hr 32 17))
                        · refine okp (rfl) (fun c37 => ?_) (fun c37 => ?_)
                          · refine ok (m_aload_n (q := 156) rfl rfl rfl rfl) ?_
                            refine ok (m_gfc (q := 159) rfl rfl rfl hr rfl rfl rfl) ?_
                            refine ok (m_gfs (z := 2) (q := 162) rfl rfl rfl hr rfl rfl rfl rfl rfl) ?_
                            exact ok (m_reti rfl rfl) (ok_i hr (Rp_rg hr 47 2))
                          · refine ok (m_iconst (q := 164) rfl rfl rfl) ?_
                            exact ok (m_reti rfl rfl) (ok_i hr ⟨by decide, by decide⟩)
def w_count (D : aD) (a : Int) : Int := if a = 0 then D 70 0 else if a = 1 then D 70 1 else if a = 2 then D 70 2 else if a = 3 then D 70 3 else if a = 4 then D 70 4 else if a = 5 then w_leftCount D else if a = 6 then w_undoneCount D else if a = 7 then D 70 26 else if a = 8 then D 70 51 else if a = 9 then D 70 78 else if a = 10 then D 70 83 else if a = 11 then D 70 84 else if a = 12 then D 70 28 else -1
theorem K_count95 (hI : Iv D) : K_X12_count_95 n A D 0 0 (w_leftCount D) D := by
  have hc := hI.ct; unfold I_ct at hc
  refine dn_ind (K := fun j => K_X12_count_95 n A D (cf (lfP D) j) j (w_leftCount D) D) (lo := 0) (N := D 70 4) ?_ ?_ 0 (by omega) (by omega)
  · have hb := cf_b (P := lfP D) (D 70 4) (by omega)
    refine rl_X12_count_95 _ _ (rgb (by omega) (by omega)) (rgb (by omega) (by omega)) ?_
    rw [if_pos (by omega)]; exact ⟨rfl, rfl⟩
  · intro j j0 j1 ih
    have hb := cf_b (P := lfP D) j j0
    refine rl_X12_count_95 _ _ (rgb (by omega) (by omega)) (rgb (by omega) (by omega)) ?_
    rw [if_neg (by omega), wr1 j0 j1 (by omega), one0, one1, wr_id (by omega) (by omega), wr_id (by omega) (by omega)]
    refine ⟨⟨by omega, by omega⟩, ?_⟩
    split
    · rename_i c; rw [cf_f j0 (by unfold lfP; exact decide_eq_false (fun q => q c))] at ih; rw [Int.add_zero]; exact ih
    · rename_i c; rw [cf_t j0 (by unfold lfP; exact decide_eq_true c)] at ih; exact ih
theorem K_count134 (hI : Iv D) : K_X12_count_134 n A D 0 0 (w_undoneCount D) D := by
  have hc := hI.ct; unfold I_ct at hc
  refine dn_ind (K := fun j => K_X12_count_134 n A D (cf (udP D) j) j (w_undoneCount D) D) (lo := 0) (N := D 70 4) ?_ ?_ 0 (by omega) (by omega)
  · have hb := cf_b (P := udP D) (D 70 4) (by omega)
    refine rl_X12_count_134 _ _ (rgb (by omega) (by omega)) (rgb (by omega) (by omega)) ?_
    rw [if_pos (by omega)]; exact ⟨rfl, rfl⟩
  · intro j j0 j1 ih
    have hb := cf_b (P := udP D) j j0
    refine rl_X12_count_134 _ _ (rgb (by omega) (by omega)) (rgb (by omega) (by omega)) ?_
    rw [if_neg (by omega), wr1 j0 j1 (by omega), one0, one1, wr_id (by omega) (by omega), wr_id (by omega) (by omega)]
    refine ⟨⟨by omega, by omega⟩, ?_⟩
    split
    · rename_i c; rw [cf_f j0 (by unfold udP; exact decide_eq_false (fun q => q c))] at ih; rw [Int.add_zero]; exact ih
    · rename_i c; rw [cf_t j0 (by unfold udP; exact decide_eq_true c)] at ih; exact ih
theorem ev_X12_count (hI : Iv D) (a : Int) (h1 : rg a) : Ev n 2 211 [am_r (some 70), am_i (wz a)] A D (ri (w_count D a)) A D := by
  refine rl_X12_count a h1 ?_
  have k1 := K_count95 (n := n) (A := A) hI
  have k2 := K_count134 (n := n) (A := A) hI
  by_cases c0 : a = 0
  · subst c0; exact ⟨rfl, rfl⟩
  rw [if_neg c0]
  by_cases c1 : a = 1
  · subst c1; exact ⟨rfl, rfl⟩
  rw [if_neg c1]
  by_cases c2 : a = 2
  · subst c2; exact ⟨rfl, rfl⟩
  rw [if_neg c2]
  by_cases c3 : a = 3
  · subst c3; exact ⟨rfl, rfl⟩
  rw [if_neg c3]
  by_cases c4 : a = 4
  · subst c4; exact ⟨rfl, rfl⟩
  rw [if_neg c4]
  by_cases c5 : a = 5
  · subst c5; exact k1
  rw [if_neg c5]
  by_cases c6 : a = 6
  · subst c6; exact k2
  rw [if_neg c6]
  by_cases c7 : a = 7
  · subst c7; exact ⟨rfl, rfl⟩
  rw [if_neg c7]
  by_cases c8 : a = 8
  · subst c8; exact ⟨rfl, rfl⟩
  rw [if_neg c8]
  by_cases c9 : a = 9
  · subst c9; exact ⟨rfl, rfl⟩
  rw [if_neg c9]
  by_cases c10 : a = 10
  · subst c10; exact ⟨rfl, rfl⟩
  rw [if_neg c10]
  by_cases c11 : a = 11
  · subst c11; exact ⟨rfl, rfl⟩
  rw [if_neg c11]
  by_cases c12 : a = 12
  · subst c12; exact ⟨rfl, rfl⟩
  rw [if_neg c12]
  refine ⟨?_, rfl⟩
  unfold w_count
  rw [if_neg c0, if_neg c1, if_neg c2, if_neg c3, if_neg c4, if_neg c5, if_neg c6, if_neg c7, if_neg c8, if_neg c9, if_neg c10, if_neg c11, if_neg c12]
/-- placings known of a house, or of all -/
def koP (D : aD) (h k i : Int) : Bool := decide (¬ v_X12_isKnown D i k = 0 ∧ (h = -1 ∨ D 77 (D 84 i) = h))
def w_knownOf (D : aD) (h k : Int) : Int := cf (koP D h k) (D 70 4)
def p_knownOf (D : aD) (_ k : Int) : Prop := Iv D ∧ k ≤ 999
theorem ev_X3_knownOf (h k : Int) (h1 : rg h) (h2 : rg k) (hp : p_knownOf D h k) : Ev n 5 29 [am_r (some 50), am_i (wz h), am_i (wz k)] A D (ri (w_knownOf D h k)) A D := by
  obtain ⟨hI, hk⟩ := hp
  have hc := hI.ct; unfold I_ct at hc
  refine rl_X3_knownOf h k h1 h2 ?_
  refine dn_ind (K := fun j => K_X3_knownOf_5 n A D h k (cf (koP D h k) j) j (w_knownOf D h k) D) (lo := 0) (N := D 70 4) ?_ ?_ 0 (by omega) (by omega)
  · have hb := cf_b (P := koP D h k) (D 70 4) (by omega)
    refine rl_X3_knownOf_5 _ _ _ _ h1 h2 (rgb (by omega) (by omega)) (rgb (by omega) (by omega)) ?_
    rw [if_pos (by omega)]; exact ⟨rfl, rfl⟩
  · intro j j0 j1 ih
    have hb := cf_b (P := koP D h k) j j0
    refine rl_X3_knownOf_5 _ _ _ _ h1 h2 (rgb (by omega) (by omega)) (rgb (by omega) (by omega)) ?_
    rw [if_neg (by omega), wr1 j0 j1 (by omega), wr_id (z := cf (koP D h k) j + 1) (by omega) (by omega), kn_eq hI.pg j0 j1 hk, (plc_eq hI j0 j1).2.1]
    refine ⟨⟨by omega, by omega⟩, ?_⟩
    by_cases c1 : v_X12_isKnown D j k = 0
    · rw [if_pos c1]; rw [cf_f j0 (by unfold koP; exact decide_eq_false (fun q => q.1 c1))] at ih; exact ih
    rw [if_neg c1]
    by_cases c2 : h = -1
    · rw [if_pos c2]; rw [cf_t j0 (by unfold koP; exact decide_eq_true ⟨c1, Or.inl c2⟩)] at ih; exact ih
    rw [if_neg c2]
    by_cases c3 : D 77 (D 84 j) = h
    · rw [if_pos c3]; rw [cf_t j0 (by unfold koP; exact decide_eq_true ⟨c1, Or.inr c3⟩)] at ih; exact ih
    · rw [if_neg c3]; rw [cf_f j0 (by unfold koP; exact decide_eq_false (fun q => q.2.elim c2 c3))] at ih; exact ih
abbrev P_X3_hundredthsLeft : Nat → Option am_E := am_fy tb_X3_hundredthsLeft
def K_X3_hundredthsLeft_13 (n : Nat) (A : aA) (D : aD) (a1 : Int) (a2 : Int) (a3 : Int) (a4 : Int) (a5 : Int) (x : Int) (D' : aD) : Prop := Lp n 5 P_X3_hundredthsLeft 13 [some (am_r (some 50)), some (am_i (wz a1)), some (am_i (wz a2)), some (am_i (wz a3)), some (am_i (wz a4)), some (am_i (wz a5)), none] [] A D (ri x) A D'
set_option maxRecDepth 100000 in
theorem rl_X3_hundredthsLeft {n : Nat} {A : aA} {D D' : aD} (a1 : Int) (a2 : Int) (h1 : rg a1) (h2 : rg a2) {x : Int} (hp : (p_knownOf D a1 a2) ∧ K_X3_hundredthsLeft_13 (n) A D a1 a2 (w_knownOf D a1 a2) 0 0 x D') : Ev (n) (6) 30 [am_r (some 50), am_i (wz a1), am_i (wz a2)] A D (ri x) A D' := by
  refine Ev_of (c := 5) (P := P_X3_hundredthsLeft) (lo := [some (am_r (some 50)), some (am_i (wz a1)), some (am_i (wz a2)), none, none, none, none]) rfl rfl rfl (fun d hd s hr => ?_)
  refine ok (m_aload_n (q := 1) rfl rfl rfl rfl) ?_
  refine ok (m_iload_n (q := 2) rfl rfl rfl rfl) ?_
  refine ok (m_iload_n (q := 3) rfl rfl rfl rfl) ?_
  obtain ⟨g3, hp⟩ := hp
  refine oke (e_ci (x_cv (q := 6) rfl rfl rfl rfl rfl rfl rfl rfl rfl rfl (is_st hr rfl rfl)) (ev_X3_knownOf (D := D) a1 a2 h1 h2 g3) (Nat.le_trans (by decide) hd) hr) (fun s1 r2 => ?_)
  refine ok (m_istore_n (q := 7) (lo' := [some (am_r (some 50)), some (am_i (wz a1)), some (am_i (wz a2)), some (am_i (wz (w_knownOf D a1 a2))), none, none, none]) rfl rfl rfl rfl rfl) ?_
  refine ok (m_iconst (q := 8) rfl rfl rfl) ?_
  refine ok (m_istore (q := 10) (lo' := [some (am_r (some 50)), some (am_i (wz a1)), some (am_i (wz a2)), some (am_i (wz (w_knownOf D a1 a2))), some (am_i (wz 0)), none, none]) rfl rfl rfl rfl rfl) ?_
  refine ok (m_iconst (q := 11) rfl rfl rfl) ?_
  refine ok (m_istore (q := 13) (lo' := [some (am_r (some 50)), some (am_i (wz a1)), some (am_i (wz a2)), some (am_i (wz (w_knownOf D a1 a2))), some (am_i (wz 0)), some (am_i (wz 0)), none]) rfl rfl rfl rfl rfl) ?_
  exact hp d hd _ r2
set_option maxRecDepth 100000 in
theorem rl_X3_hundredthsLeft_13 {n : Nat} {A : aA} {D D' : aD} (a1 : Int) (a2 : Int) (a3 : Int) (a4 : Int) (a5 : Int) (h1 : rg a1) (h2 : rg a2) (h3 : rg a3) (h4 : rg a4) (h5 : rg a5) {x : Int} (hp : (if D 1002 5 ≤ a5 then (if a3 = 0 then (x = 0 ∧ D' = D) else (a3 ≠ 0) ∧ (x = wr ((wr (a4 * 100)).tdiv a3) ∧ D' = D)) else (0 ≤ a5 ∧ a5 < D 1002 5) ∧ (if v_X5_isKnownBy D a5 a2 = 0 then K_X3_hundredthsLeft_13 (n) A D a1 a2 a3 a4 (wr (a5 + 1)) x D' else (if a1 = (-1) then (if v_X5_isLeftSoonForFault D a5 a2 = 0 then K_X3_hundredthsLeft_13 (n) A D a1 a2 a3 a4 (wr (a5 + 1)) x D' else K_X3_hundredthsLeft_13 (n) A D a1 a2 a3 (wr (a4 + 1)) (wr (a5 + 1)) x D') else (if D 2101 (D 2502 a5) = a1 then (if v_X5_isLeftSoonForFault D a5 a2 = 0 then K_X3_hundredthsLeft_13 (n) A D a1 a2 a3 a4 (wr (a5 + 1)) x D' else K_X3_hundredthsLeft_13 (n) A D a1 a2 a3 (wr (a4 + 1)) (wr (a5 + 1)) x D') else K_X3_hundredthsLeft_13 (n) A D a1 a2 a3 a4 (wr (a5 + 1)) x D'))))) : K_X3_hundredthsLeft_13 (n) A D a1 a2 a3 a4 a5 x D' := by
  unfold K_X3_hundredthsLeft_13
  refine fun d hd s hr => ?_
  refine ok (m_iload (q := 15) rfl rfl rfl rfl) ?_
  refine ok (m_aload_n (q := 16) rfl rfl rfl rfl) ?_
  have f_4 := Rp_fx0_5 hr
  refine ok (m_gfy (q := 19) rfl rfl rfl hr rfl rfl rfl) ?_
  refine oke (e_ci (x_cv (q := 22) rfl rfl rfl rfl rfl rfl rfl rfl rfl rfl (is_ty hr rfl f_4)) (ev_size 5 f_4) (Nat.le_trans (by decide) hd) hr) (fun s5 r6 => ?_)
  refine okc (m_cmpge (qt := 83) (qf := 25) rfl rfl h5 (show rg (D 1002 5) from Rp_rg hr 1002 5) rfl rfl) (fun c7 => ?_) (fun c7 => ?_)
  · replace hp := ip c7 hp
    refine ok (m_iload_n (q := 84) rfl rfl rfl rfl) ?_
    refine okc (m_ifne (qt := 91) (qf := 87) rfl rfl h3 rfl rfl) (fun c8 => ?_) (fun c8 => ?_)
    · replace hp := ip c8 hp
      refine ok (m_iconst (q := 88) rfl rfl rfl) ?_
      refine ok (m_goto (q := 98) rfl rfl rfl) ?_
      exact ok (m_reti rfl rfl) (ok_iq r6 ⟨by decide, by decide⟩ hp)
    · replace hp := iq c8 hp
      refine ok (m_iload (q := 93) rfl rfl rfl rfl) ?_
      refine ok (m_bipush (q := 95) rfl rfl rfl) ?_
      refine ok (m_imul (q := 96) rfl rfl rfl) ?_
      refine ok (m_iload_n (q := 97) rfl rfl rfl rfl) ?_
      obtain ⟨g9, hp⟩ := hp
      refine ok (m_idiv (q := 98) rfl rfl (rg_wr _) h3 g9 rfl) ?_
      exact ok (m_reti rfl rfl) (ok_iq r6 (rg_wr _) hp)
  · replace hp := iq c7 hp
    refine ok (m_aload_n (q := 26) rfl rfl rfl rfl) ?_
    have f_10 := Rp_fx0_5 r6
    refine ok (m_gfy (q := 29) rfl rfl rfl r6 rfl rfl rfl) ?_
    refine ok (m_iload (q := 31) rfl rfl rfl rfl) ?_
    obtain ⟨g13, hp⟩ := hp
    have f_14 := Rp_el5 (D := D) r6 g13
    refine oke (e_cr (x_cv (q := 34) rfl rfl rfl rfl rfl rfl rfl rfl rfl rfl (is_ty r6 rfl f_10)) (ev_get5 a5 g13) (Nat.le_trans (by decide) hd) r6) (fun s11 r12 => ?_)
    refine ok (m_cast (q := 37) rfl rfl rfl (isN_ty r12 rfl f_14)) ?_
    refine ok (m_astore (q := 39) (lo' := [some (am_r (some 50)), some (am_i (wz a1)), some (am_i (wz a2)), some (am_i (wz a3)), some (am_i (wz a4)), some (am_i (wz a5)), some (am_r (some (A 15 a5)))]) rfl rfl rfl rfl rfl) ?_
    refine ok (m_aload (q := 41) rfl rfl rfl rfl) ?_
    refine ok (m_iload_n (q := 42) rfl rfl rfl rfl) ?_
    refine oke (e_ci (x_cv (q := 45) rfl rfl rfl rfl rfl rfl rfl rfl rfl rfl (is_ty r12 rfl f_14)) (ev_X5_isKnownBy (D := D) a5 a2 f_14 h2) (Nat.le_trans (by decide) hd) r12) (fun s15 r16 => ?_)
    refine okc (m_ifeq (qt := 77) (qf := 48) rfl rfl (Ev_rg (ev_X5_isKnownBy (D := D) a5 a2 f_14 h2) r12) rfl rfl) (fun c17 => ?_) (fun c17 => ?_)
    · replace hp := ip c17 hp
      refine ok (m_iinc (q := 80) (lo' := [some (am_r (some 50)), some (am_i (wz a1)), some (am_i (wz a2)), some (am_i (wz a3)), some (am_i (wz a4)), some (am_i (wz (wr (a5 + 1)))), some (am_r (some (A 15 a5)))]) rfl rfl rfl rfl rfl rfl rfl) ?_
      refine ok (m_goto (q := 13) rfl rfl rfl) ?_
      refine ok (mk rfl (lo' := [some (am_r (some 50)), some (am_i (wz a1)), some (am_i (wz a2)), some (am_i (wz a3)), some (am_i (wz a4)), some (am_i (wz (wr (a5 + 1)))), none]) rfl) ?_
      exact hp d hd _ r16
    · replace hp := iq c17 hp
      refine ok (m_iload_n (q := 49) rfl rfl rfl rfl) ?_
      refine ok (m_iconst (q := 50) rfl rfl rfl) ?_
      refine okc (m_cmpeq (qt := 65) (qf := 53) rfl rfl h1 ⟨by decide, by decide⟩ rfl rfl) (fun c18 => ?_) (fun c18 => ?_)
      · replace hp := ip c18 hp
        refine ok (m_aload (q := 67) rfl rfl rfl rfl) ?_
        refine ok (m_iload_n (q := 68) rfl rfl rfl rfl) ?_
        refine oke (e_ci (x_cv (q := 71) rfl rfl rfl rfl rfl rfl rfl rfl rfl rfl (is_ty r16 rfl f_14)) (ev_X5_isLeftSoonForFault (D := D) a5 a2 f_14 h2) (Nat.le_trans (by decide) hd) r16) (fun s19 r20 => ?_)
        refine okc (m_ifeq (qt := 77) (qf := 74) rfl rfl (Ev_rg (ev_X5_isLeftSoonForFault (D := D) a5 a2 f_14 h2) r16) rfl rfl) (fun c21 => ?_) (fun c21 => ?_)
        · replace hp := ip c21 hp
          refine ok (m_iinc (q := 80) (lo' := [some (am_r (some 50)), some (am_i (wz a1)), some (am_i (wz a2)), some (am_i (wz a3)), some (am_i (wz a4)), some (am_i (wz (wr (a5 + 1)))), some (am_r (some (A 15 a5)))]) rfl rfl rfl rfl rfl rfl rfl) ?_
          refine ok (m_goto (q := 13) rfl rfl rfl) ?_
          refine ok (mk rfl (lo' := [some (am_r (some 50)), some (am_i (wz a1)), some (am_i (wz a2)), some (am_i (wz a3)), some (am_i (wz a4)), some (am_i (wz (wr (a5 + 1)))), none]) rfl) ?_
          exact hp d hd _ r20
        · replace hp := iq c21 hp
          refine ok (m_iinc (q := 77) (lo' := [some (am_r (some 50)), some (am_i (wz a1)), some (am_i (wz a2)), some (am_i (wz a3)), some (am_i (wz (wr (a4 + 1)))), some (am_i (wz a5)), some (am_r (some (A 15 a5)))]) rfl rfl rfl rfl rfl rfl rfl) ?_
          refine ok (m_iinc (q := 80) (lo' := [some (am_r (some 50)), some (am_i (wz a1)), some (am_i (wz a2)), some (am_i (wz a3)), some (am_i (wz (wr (a4 + 1)))), some (am_i (wz (wr (a5 + 1)))), some (am_r (some (A 15 a5)))]) rfl rfl rfl rfl rfl rfl rfl) ?_
          refine ok (m_goto (q := 13) rfl rfl rfl) ?_
          refine ok (mk rfl (lo' := [some (am_r (some 50)), some (am_i (wz a1)), some (am_i (wz a2)), some (am_i (wz a3)), some (am_i (wz (wr (a4 + 1)))), some (am_i (wz (wr (a5 + 1)))), none]) rfl) ?_
          exact hp d hd _ r20
      · replace hp := iq c18 hp
        refine ok (m_aload (q := 55) rfl rfl rfl rfl) ?_
        have f_22 : D 911 (D 2502 a5) = 1 := Rp_f15_11 (D := D) (i := a5) r16 f_14
        refine ok (m_gfx (t := 15) (q := 58) (r := some (A 11 (D 2502 a5))) rfl rfl rfl r16 rfl f_14 rfl rfl rfl) ?_
        refine ok (m_gft (t := 11) (q := 61) rfl rfl rfl r16 rfl f_22 rfl rfl rfl) ?_
        refine ok (m_iload_n (q := 62) rfl rfl rfl rfl) ?_
        refine okc (m_cmpne (qt := 77) (qf := 65) rfl rfl (show rg (D 2101 (D 2502 a5)) from Rp_rg r16 2101 (D 2502 a5)) h1 rfl rfl) (fun c23 => ?_) (fun c23 => ?_)
        · replace hp := ip c23 hp
          refine ok (m_aload (q := 67) rfl rfl rfl rfl) ?_
          refine ok (m_iload_n (q := 68) rfl rfl rfl rfl) ?_
          refine oke (e_ci (x_cv (q := 71) rfl rfl rfl rfl rfl rfl rfl rfl rfl rfl (is_ty r16 rfl f_14)) (ev_X5_isLeftSoonForFault (D := D) a5 a2 f_14 h2) (Nat.le_trans (by decide) hd) r16) (fun s24 r25 => ?_)
          refine okc (m_ifeq (qt := 77) (qf := 74) rfl rfl (Ev_rg (ev_X5_isLeftSoonForFault (D := D) a5 a2 f_14 h2) r16) rfl rfl) (fun c26 => ?_) (fun c26 => ?_)
          · replace hp := ip c26 hp
            refine ok (m_iinc (q := 80) (lo' := [some (am_r (some 50)), some (am_i (wz a1)), some (am_i (wz a2)), some (am_i (wz a3)), some (am_i (wz a4)), some (am_i (wz (wr (a5 + 1)))), some (am_r (some (A 15 a5)))]) rfl rfl rfl rfl rfl rfl rfl) ?_
            refine ok (m_goto (q := 13) rfl rfl rfl) ?_
            refine ok (mk rfl (lo' := [some (am_r (some 50)), some (am_i (wz a1)), some (am_i (wz a2)), some (am_i (wz a3)), some (am_i (wz a4)), some (am_i (wz (wr (a5 + 1)))), none]) rfl) ?_
            exact hp d hd _ r25
          · replace hp := iq c26 hp
            refine ok (m_iinc (q := 77) (lo' := [some (am_r (some 50)), some (am_i (wz a1)), some (am_i (wz a2)), some (am_i (wz a3)), some (am_i (wz (wr (a4 + 1)))), some (am_i (wz a5)), some (am_r (some (A 15 a5)))]) rfl rfl rfl rfl rfl rfl rfl) ?_
            refine ok (m_iinc (q := 80) (lo' := [some (am_r (some 50)), some (am_i (wz a1)), some (am_i (wz a2)), some (am_i (wz a3)), some (am_i (wz (wr (a4 + 1)))), some (am_i (wz (wr (a5 + 1)))), some (am_r (some (A 15 a5)))]) rfl rfl rfl rfl rfl rfl rfl) ?_
            refine ok (m_goto (q := 13) rfl rfl rfl) ?_
            refine ok (mk rfl (lo' := [some (am_r (some 50)), some (am_i (wz a1)), some (am_i (wz a2)), some (am_i (wz a3)), some (am_i (wz (wr (a4 + 1)))), some (am_i (wz (wr (a5 + 1)))), none]) rfl) ?_
            exact hp d hd _ r25
        · replace hp := iq c23 hp
          refine ok (m_iinc (q := 80) (lo' := [some (am_r (some 50)), some (am_i (wz a1)), some (am_i (wz a2)), some (am_i (wz a3)), some (am_i (wz a4)), some (am_i (wz (wr (a5 + 1)))), some (am_r (some (A 15 a5)))]) rfl rfl rfl rfl rfl rfl rfl) ?_
          refine ok (m_goto (q := 13) rfl rfl rfl) ?_
          refine ok (mk rfl (lo' := [some (am_r (some 50)), some (am_i (wz a1)), some (am_i (wz a2)), some (am_i (wz a3)), some (am_i (wz a4)), some (am_i (wz (wr (a5 + 1)))), none]) rfl) ?_
          exact hp d hd _ r16
def hlP (D : aD) (h i : Int) : Bool := decide ((¬ v_X12_isKnown D i (D 70 0) = 0 ∧ (h = -1 ∨ D 77 (D 84 i) = h)) ∧ ¬ v_X12_wasLeftSoon D i = 0)
theorem ls_eq (hI : Iv D) {i : Int} (i0 : 0 ≤ i) (i1 : i < D 70 4) : v_X5_isLeftSoonForFault D i (D 70 0) = v_X12_wasLeftSoon D i := by
  have hc := hI.ct; unfold I_ct at hc
  have hg := hI.pg i i0 i1
  unfold v_X5_isLeftSoonForFault v_X12_wasLeftSoon
  rw [kl_eq hI.pg (by omega) i0 i1 (by omega)]
  have he := en_rg hI.pg (by omega) (k := D 70 0) i0 i1
  have h5 : v_X12_endOf D i (D 70 0) = 5000 ∨ (D 2505 i = D 88 i ∧ D 2503 i = D 85 i ∧ D 2508 i = D 90 i) := by
    unfold v_X12_endOf; omega
  rcases h5 with q | ⟨q1, q2, q3⟩
  · rw [if_pos q, if_pos rfl, if_pos q]
  · rw [q1, q2, q3]
    by_cases q : v_X12_endOf D i (D 70 0) = 5000
    · rw [if_pos q, if_pos rfl, if_pos q]
    · rw [if_neg q, if_neg (by decide), if_neg q]
def w_hundredths (D : aD) (h k : Int) : Int := if w_knownOf D h k = 0 then 0 else (100 * cf (hlP D h) (D 70 4)).tdiv (w_knownOf D h k)
def p_hundredths (D : aD) (_ k : Int) : Prop := Iv D ∧ k = D 70 0
theorem td_b {a b N : Int} (h0 : 0 ≤ a) (h1 : a ≤ N) (hb : 0 < b) : 0 ≤ a.tdiv b ∧ a.tdiv b ≤ N := by
  rw [Int.tdiv_eq_ediv_of_nonneg h0]
  exact ⟨Int.ediv_nonneg h0 (by omega), Int.le_trans (Int.ediv_le_self b h0) h1⟩
theorem ko_b (hI : Iv D) {h k : Int} : 0 ≤ w_knownOf D h k ∧ w_knownOf D h k ≤ 60 := by
  have hc := hI.ct; unfold I_ct at hc
  have := cf_b (P := koP D h k) (D 70 4) (by omega)
  unfold w_knownOf; omega
theorem ev_X3_hundredthsLeft (h k : Int) (h1 : rg h) (h2 : rg k) (hp : p_hundredths D h k) : Ev n 6 30 [am_r (some 50), am_i (wz h), am_i (wz k)] A D (ri (w_hundredths D h k)) A D := by
  obtain ⟨hI, rfl⟩ := hp
  have hc := hI.ct; unfold I_ct at hc
  have hk := ko_b hI (h := h) (k := D 70 0)
  refine rl_X3_hundredthsLeft h _ h1 h2 ⟨⟨hI, by omega⟩, ?_⟩
  refine dn_ind (K := fun j => K_X3_hundredthsLeft_13 n A D h (D 70 0) (w_knownOf D h (D 70 0)) (cf (hlP D h) j) j (w_hundredths D h (D 70 0)) D) (lo := 0) (N := D 70 4) ?_ ?_ 0 (by omega) (by omega)
  · have hb := cf_b (P := hlP D h) (D 70 4) (by omega)
    refine rl_X3_hundredthsLeft_13 _ _ _ _ _ h1 h2 (rgb (by omega) (by omega)) (rgb (by omega) (by omega)) (rgb (by omega) (by omega)) ?_
    rw [if_pos (by omega)]
    unfold w_hundredths
    split
    · exact ⟨rfl, rfl⟩
    · rename_i c
      refine ⟨c, ?_, rfl⟩
      rw [wr_id (z := cf (hlP D h) (D 70 4) * 100) (by omega) (by omega), Int.mul_comm (cf (hlP D h) (D 70 4)) 100]
      have := td_b (a := 100 * cf (hlP D h) (D 70 4)) (b := w_knownOf D h (D 70 0)) (N := 6000) (by omega) (by omega) (by omega)
      rw [wr_id (by omega) (by omega)]
  · intro j j0 j1 ih
    have hb := cf_b (P := hlP D h) j j0
    refine rl_X3_hundredthsLeft_13 _ _ _ _ _ h1 h2 (rgb (by omega) (by omega)) (rgb (by omega) (by omega)) (rgb (by omega) (by omega)) ?_
    rw [if_neg (by omega), wr1 j0 j1 (by omega), wr_id (z := cf (hlP D h) j + 1) (by omega) (by omega), kn_eq hI.pg j0 j1 (by omega), (plc_eq hI j0 j1).2.1, ls_eq hI j0 j1]
    refine ⟨⟨by omega, by omega⟩, ?_⟩
    by_cases c : (¬ v_X12_isKnown D j (D 70 0) = 0 ∧ (h = -1 ∨ D 77 (D 84 j) = h)) ∧ ¬ v_X12_wasLeftSoon D j = 0
    · rw [cf_t j0 (by unfold hlP; exact decide_eq_true c)] at ih
      repeat' split
      all_goals first | exact ih | omega
    · rw [cf_f j0 (by unfold hlP; exact decide_eq_false c)] at ih
      repeat' split
      all_goals first | exact ih | omega
abbrev P_X11_leftMore : Nat → Option am_E := am_fy tb_X11_leftMore
def v_X11_leftMore (D : aD) (a1 : Int) : Int := if v_X11_isHouse D a1 = 0 then (-1) else if 3 ≤ w_knownOf D a1 (D 32 14) then if w_hundredths D a1 (D 32 14) ≤ wr (2 * (w_hundredths D (-1) (D 32 14))) then 0 else 1 else 0
def p_X11_leftMore (D : aD) (a1 : Int) : Prop := (if v_X11_isHouse D a1 = 0 then True else (p_knownOf D a1 (D 32 14)) ∧ (if 3 ≤ w_knownOf D a1 (D 32 14) then (p_hundredths D a1 (D 32 14)) ∧ (p_hundredths D (-1) (D 32 14)) else True))
set_option maxRecDepth 100000 in
theorem ev_X11_leftMore {n : Nat} {A : aA} {D : aD} (a1 : Int) (h1 : rg a1) (hp : p_X11_leftMore D a1) : Ev (n) 7 105 [am_r (some 32), am_i (wz a1)] A D (ri (v_X11_leftMore D a1)) A D := by
  unfold p_X11_leftMore at hp
  unfold v_X11_leftMore
  refine Ev_of (c := 6) (P := P_X11_leftMore) (lo := [some (am_r (some 32)), some (am_i (wz a1))]) rfl rfl rfl (fun d hd s hr => ?_)
  refine ok (m_aload_n (q := 1) rfl rfl rfl rfl) ?_
  refine ok (m_iload_n (q := 2) rfl rfl rfl rfl) ?_
  refine oke (e_ci (x_cv (q := 5) rfl rfl rfl rfl rfl rfl rfl rfl rfl rfl (is_st hr rfl rfl)) (ev_X11_isHouse (D := D) a1 h1) (Nat.le_trans (by decide) hd) hr) (fun s1 r2 => ?_)
  refine okp (m_ifne (qt := 10) (qf := 8) rfl rfl (Ev_rg (ev_X11_isHouse (D := D) a1 h1) hr) rfl rfl) (fun c3 => ?_) (fun c3 => ?_)
  · refine ok (m_iconst (q := 9) rfl rfl rfl) ?_
    exact ok (m_reti rfl rfl) (ok_i r2 ⟨by decide, by decide⟩)
  · replace hp := iq c3 hp
    refine ok (m_aload_n (q := 11) rfl rfl rfl rfl) ?_
    refine ok (m_gfc (q := 14) rfl rfl rfl r2 rfl rfl rfl) ?_
    refine ok (m_iload_n (q := 15) rfl rfl rfl rfl) ?_
    refine ok (m_aload_n (q := 16) rfl rfl rfl rfl) ?_
    refine ok (m_gfs (z := 14) (q := 19) rfl rfl rfl r2 rfl rfl rfl rfl rfl) ?_
    obtain ⟨g6, hp⟩ := hp
    refine oke (e_ci (x_cv (q := 22) rfl rfl rfl rfl rfl rfl rfl rfl rfl rfl (is_st r2 rfl rfl)) (ev_X3_knownOf (D := D) a1 (D 32 14) h1 (Rp_rg r2 32 14) g6) (Nat.le_trans (by decide) hd) r2) (fun s4 r5 => ?_)
    refine ok (m_iconst (q := 23) rfl rfl rfl) ?_
    refine okp (m_cmpge (qt := 28) (qf := 26) rfl rfl (Ev_rg (ev_X3_knownOf (D := D) a1 (D 32 14) h1 (Rp_rg r2 32 14) g6) r2) ⟨by decide, by decide⟩ rfl rfl) (fun c7 => ?_) (fun c7 => ?_)
    · replace hp := ip c7 hp
      refine ok (m_aload_n (q := 29) rfl rfl rfl rfl) ?_
      refine ok (m_gfc (q := 32) rfl rfl rfl r5 rfl rfl rfl) ?_
      refine ok (m_iload_n (q := 33) rfl rfl rfl rfl) ?_
      refine ok (m_aload_n (q := 34) rfl rfl rfl rfl) ?_
      refine ok (m_gfs (z := 14) (q := 37) rfl rfl rfl r5 rfl rfl rfl rfl rfl) ?_
      obtain ⟨g10, hp⟩ := hp
      refine oke (e_ci (x_cv (q := 40) rfl rfl rfl rfl rfl rfl rfl rfl rfl rfl (is_st r5 rfl rfl)) (ev_X3_hundredthsLeft (D := D) a1 (D 32 14) h1 (Rp_rg r5 32 14) g10) (Nat.le_trans (by decide) hd) r5) (fun s8 r9 => ?_)
      refine ok (m_iconst (q := 41) rfl rfl rfl) ?_
      refine ok (m_aload_n (q := 42) rfl rfl rfl rfl) ?_
      refine ok (m_gfc (q := 45) rfl rfl rfl r9 rfl rfl rfl) ?_
      refine ok (m_iconst (q := 46) rfl rfl rfl) ?_
      refine ok (m_aload_n (q := 47) rfl rfl rfl rfl) ?_
      refine ok (m_gfs (z := 14) (q := 50) rfl rfl rfl r9 rfl rfl rfl rfl rfl) ?_
      have g13 := hp
      refine oke (e_ci (x_cv (q := 53) rfl rfl rfl rfl rfl rfl rfl rfl rfl rfl (is_st r9 rfl rfl)) (ev_X3_hundredthsLeft (D := D) (-1) (D 32 14) ⟨by decide, by decide⟩ (Rp_rg r9 32 14) g13) (Nat.le_trans (by decide) hd) r9) (fun s11 r12 => ?_)
      refine ok (m_imul (q := 54) rfl rfl rfl) ?_
      refine okp (m_cmple (qt := 61) (qf := 57) rfl rfl (Ev_rg (ev_X3_hundredthsLeft (D := D) a1 (D 32 14) h1 (Rp_rg r5 32 14) g10) r5) (rg_wr _) rfl rfl) (fun c14 => ?_) (fun c14 => ?_)
      · refine ok (m_iconst (q := 62) rfl rfl rfl) ?_
        exact ok (m_reti rfl rfl) (ok_i r12 ⟨by decide, by decide⟩)
      · refine ok (m_iconst (q := 58) rfl rfl rfl) ?_
        refine ok (m_goto (q := 62) rfl rfl rfl) ?_
        exact ok (m_reti rfl rfl) (ok_i r12 ⟨by decide, by decide⟩)
    · refine ok (m_iconst (q := 27) rfl rfl rfl) ?_
      exact ok (m_reti rfl rfl) (ok_i r5 ⟨by decide, by decide⟩)
/-- the reference's -/
def w_leftMore (D : aD) (h : Int) : Int := if v_X12_isHouse D h = 0 then -1 else if w_knownOf D h (D 70 0) < 3 then 0 else if 2 * w_hundredths D (-1) (D 70 0) < w_hundredths D h (D 70 0) then 1 else 0
theorem cf_le {P Q : Int → Bool} {N : Int} (h0 : 0 ≤ N) (h : ∀ i, 0 ≤ i → i < N → P i = true → Q i = true) : cf P N ≤ cf Q N := by
  have key : ∀ m : Nat, (m : Int) ≤ N → cf P m ≤ cf Q m := by
    intro m
    induction m with
    | zero => intro _; exact Int.le_refl _
    | succ m ih =>
      intro hm
      have i1 := ih (by omega)
      have e1 := cf_s (P := P) (j := (m : Int)) (by omega)
      have e2 := cf_s (P := Q) (j := (m : Int)) (by omega)
      have e3 : ((m + 1 : Nat) : Int) = (m : Int) + 1 := by omega
      rw [e3, e1, e2]
      by_cases hp : P m = true
      · rw [if_pos hp, if_pos (h m (by omega) (by omega) hp)]; omega
      · rw [if_neg hp]; split <;> omega
  have := key N.toNat (by omega)
  rwa [Int.toNat_of_nonneg h0] at this
theorem ev_X12_leftMore (hI : Iv D) (h : Int) (h1 : rg h) : Ev n 3 210 [am_r (some 70), am_i (wz h)] A D (ri (w_leftMore D h)) A D := by
  have hc := hI.ct; unfold I_ct at hc
  refine rl_X12_leftMore h h1 ?_
  by_cases ch : v_X12_isHouse D h = 0
  · rw [if_pos ch]; unfold w_leftMore; rw [if_pos ch]; exact ⟨rfl, rfl⟩
  rw [if_neg ch]
  have hh := (isHs hI).mp ch
  refine dn_ind (K := fun j => K_X12_leftMore_23 n A D h (cf (koP D h (D 70 0)) j) (cf (hlP D h) j) (cf (koP D (-1) (D 70 0)) j) (cf (hlP D (-1)) j) j (w_leftMore D h) D) (lo := 0) (N := D 70 4) ?_ ?_ 0 (by omega) (by omega)
  · have b1 := cf_b (P := koP D h (D 70 0)) (D 70 4) (by omega)
    have b2 := cf_b (P := hlP D h) (D 70 4) (by omega)
    have b3 := cf_b (P := koP D (-1) (D 70 0)) (D 70 4) (by omega)
    have b4 := cf_b (P := hlP D (-1)) (D 70 4) (by omega)
    have b5 : cf (koP D h (D 70 0)) (D 70 4) ≤ cf (koP D (-1) (D 70 0)) (D 70 4) := cf_le (by omega) (fun i _ _ q => by
      unfold koP at *
      exact decide_eq_true ⟨(of_decide_eq_true q).1, Or.inl rfl⟩)
    refine rl_X12_leftMore_23 _ _ _ _ _ _ h1 (rgb (by omega) (by omega)) (rgb (by omega) (by omega)) (rgb (by omega) (by omega)) (rgb (by omega) (by omega)) (rgb (by omega) (by omega)) ?_
    rw [if_pos (by omega)]
    unfold w_leftMore
    rw [if_neg ch]
    unfold w_hundredths w_knownOf
    by_cases c3 : 3 ≤ cf (koP D h (D 70 0)) (D 70 4)
    · rw [if_pos c3, if_neg (show ¬ cf (koP D h (D 70 0)) (D 70 4) < 3 by omega), if_neg (show ¬ cf (koP D (-1) (D 70 0)) (D 70 4) = 0 by omega), if_neg (show ¬ cf (koP D h (D 70 0)) (D 70 4) = 0 by omega)]
      have t1 := td_b (a := 100 * cf (hlP D h) (D 70 4)) (b := cf (koP D h (D 70 0)) (D 70 4)) (N := 6000) (by omega) (by omega) (by omega)
      have t2 := td_b (a := 100 * cf (hlP D (-1)) (D 70 4)) (b := cf (koP D (-1) (D 70 0)) (D 70 4)) (N := 6000) (by omega) (by omega) (by omega)
      refine ⟨by omega, by omega, ?_⟩
      rw [wr_id (z := 100 * cf (hlP D h) (D 70 4)) (by omega) (by omega), wr_id (z := 100 * cf (hlP D (-1)) (D 70 4)) (by omega) (by omega), wr_id (z := (100 * cf (hlP D h) (D 70 4)).tdiv _) (by omega) (by omega), wr_id (z := (100 * cf (hlP D (-1)) (D 70 4)).tdiv _) (by omega) (by omega), wr_id (by omega) (by omega), one0, one1]
      by_cases c4 : 2 * (100 * cf (hlP D (-1)) (D 70 4)).tdiv (cf (koP D (-1) (D 70 0)) (D 70 4)) < (100 * cf (hlP D h) (D 70 4)).tdiv (cf (koP D h (D 70 0)) (D 70 4))
      · rw [if_pos c4, if_neg (by omega)]; exact ⟨rfl, rfl⟩
      · rw [if_neg c4, if_pos (by omega)]; exact ⟨rfl, rfl⟩
    · rw [if_neg c3, if_pos (show cf (koP D h (D 70 0)) (D 70 4) < 3 by omega)]; exact ⟨rfl, rfl⟩
  · intro j j0 j1 ih
    have b1 := cf_b (P := koP D h (D 70 0)) j j0
    have b2 := cf_b (P := hlP D h) j j0
    have b3 := cf_b (P := koP D (-1) (D 70 0)) j j0
    have b4 := cf_b (P := hlP D (-1)) j j0
    have hg := hI.pg j j0 j1
    refine rl_X12_leftMore_23 _ _ _ _ _ _ h1 (rgb (by omega) (by omega)) (rgb (by omega) (by omega)) (rgb (by omega) (by omega)) (rgb (by omega) (by omega)) (rgb (by omega) (by omega)) ?_
    have hw := b_X12_wasLeftSoon D j
    have ho : v_X12_one D (v_X12_wasLeftSoon D j) = v_X12_wasLeftSoon D j := by unfold v_X12_one; omega
    rw [if_neg (by omega), ho, one0, one1, wr1 j0 j1 (by omega)]
    refine ⟨⟨j0, by omega⟩, ?_⟩
    have hpw : p_X12_wasLeftSoon D j := ⟨⟨j0, by omega⟩, by split; exact trivial; exact ⟨j0, by omega⟩⟩
    by_cases c1 : v_X12_isKnown D j (D 70 0) = 0
    · rw [cf_f j0 (by unfold koP; exact decide_eq_false (fun q => q.1 c1)), cf_f j0 (by unfold hlP; exact decide_eq_false (fun q => q.1.1 c1)), cf_f j0 (by unfold koP; exact decide_eq_false (fun q => q.1 c1)), cf_f j0 (by unfold hlP; exact decide_eq_false (fun q => q.1.1 c1))] at ih
      rw [if_pos c1]; exact ih
    rw [if_neg c1]
    refine ⟨⟨j0, by omega⟩, ⟨by omega, by omega⟩, ?_⟩
    have ea : cf (koP D (-1) (D 70 0)) (j + 1) = cf (koP D (-1) (D 70 0)) j + 1 := cf_t j0 (by unfold koP; exact decide_eq_true ⟨c1, Or.inl rfl⟩)
    have eb : cf (hlP D (-1)) (j + 1) = cf (hlP D (-1)) j + v_X12_wasLeftSoon D j := by
      by_cases c3 : v_X12_wasLeftSoon D j = 0
      · rw [cf_f j0 (by unfold hlP; exact decide_eq_false (fun q => q.2 c3))]; omega
      · rw [cf_t j0 (by unfold hlP; exact decide_eq_true ⟨⟨c1, Or.inl rfl⟩, c3⟩)]; omega
    rw [wr_id (z := cf (koP D (-1) (D 70 0)) j + 1) (by omega) (by omega), ← ea, wr_id (z := cf (hlP D (-1)) j + v_X12_wasLeftSoon D j) (by omega) (by omega), ← eb, wr_id (z := cf (koP D h (D 70 0)) j + 1) (by omega) (by omega), wr_id (z := cf (koP D h (D 70 0)) j + 0) (by omega) (by omega), wr_id (z := cf (hlP D h) j + 1) (by omega) (by omega), wr_id (z := cf (hlP D h) j + 0) (by omega) (by omega), Int.add_zero, Int.add_zero]
    by_cases c2 : D 77 (D 84 j) = h
    · rw [if_pos c2]
      refine ⟨hpw, ?_⟩
      rw [cf_t (P := koP D h (D 70 0)) j0 (by unfold koP; exact decide_eq_true ⟨c1, Or.inr c2⟩)] at ih
      by_cases c3 : v_X12_wasLeftSoon D j = 0
      · rw [if_pos c3]
        rw [cf_f (P := hlP D h) j0 (by unfold hlP; exact decide_eq_false (fun q => q.2 c3))] at ih
        exact ih
      · rw [if_neg c3]
        rw [cf_t (P := hlP D h) j0 (by unfold hlP; exact decide_eq_true ⟨⟨c1, Or.inr c2⟩, c3⟩)] at ih
        exact ih
    · rw [if_neg c2]
      refine ⟨hpw, ?_⟩
      rw [cf_f (P := koP D h (D 70 0)) j0 (by unfold koP; exact decide_eq_false (fun q => by omega)), cf_f (P := hlP D h) j0 (by unfold hlP; exact decide_eq_false (fun q => by omega))] at ih
      exact ih
end G2
