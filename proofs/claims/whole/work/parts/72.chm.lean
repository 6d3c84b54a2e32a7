/-! The chain: the reference. -/
section Ch
variable {n : Nat} {A A' : aA} {D D' E : aD} {d : Nat} {s : am_S}
abbrev P_X12_isLess : Nat → Option am_E := am_fy tb_X12_isLess
def K_X12_isLess_2 (n : Nat) (A : aA) (D : aD) (a1 : Int) (x : Int) (D' : aD) : Prop := Lp n 0 P_X12_isLess 2 [some (am_r (some 70)), some (am_i (wz a1))] [] A D (ri x) A D'
set_option maxRecDepth 100000 in
theorem rl_X12_isLess {n : Nat} {A : aA} {D D' : aD} {x : Int} (hp : K_X12_isLess_2 (n + 1) A D 0 x D') : Ev (n + 1) (1) 203 [am_r (some 70)] A D (ri x) A D' := by
  refine Ev_of (c := 0) (P := P_X12_isLess) (lo := [some (am_r (some 70)), none]) rfl rfl rfl (fun d hd s hr => ?_)
  refine ok (m_iconst (q := 1) rfl rfl rfl) ?_
  refine ok (m_istore_n (q := 2) (lo' := [some (am_r (some 70)), some (am_i (wz 0))]) rfl rfl rfl rfl rfl) ?_
  exact hp d hd _ hr
set_option maxRecDepth 100000 in
theorem rl_X12_isLess_2 {n : Nat} {A : aA} {D D' : aD} (a1 : Int) (h1 : rg a1) {x : Int} (hp : (if D 70 68 ≤ a1 then (x = 0 ∧ D' = D) else (0 ≤ a1 ∧ a1 < 6) ∧ (if D 128 a1 = D 129 a1 then K_X12_isLess_2 (n + 1) A D (wr (a1 + 1)) x D' else (if D 129 a1 ≤ D 128 a1 then (x = 0 ∧ D' = D) else (x = 1 ∧ D' = D))))) : K_X12_isLess_2 (n + 1) A D a1 x D' := by
  unfold K_X12_isLess_2
  refine fun d hd s hr => ?_
  refine ok (m_iload_n (q := 3) rfl rfl rfl rfl) ?_
  refine ok (m_aload_n (q := 4) rfl rfl rfl rfl) ?_
  refine ok (m_gfs (z := 68) (q := 7) rfl rfl rfl hr rfl rfl rfl rfl rfl) ?_
  refine okc (m_cmpge (qt := 52) (qf := 10) rfl rfl h1 (Rp_rg hr 70 68) rfl rfl) (fun c1 => ?_) (fun c1 => ?_)
  · replace hp := ip c1 hp
    refine ok (m_iconst (q := 53) rfl rfl rfl) ?_
    exact ok (m_retb rfl rfl ⟨by decide, by decide⟩) (ok_iq hr ⟨by decide, by decide⟩ hp)
  · replace hp := iq c1 hp
    refine ok (m_aload_n (q := 11) rfl rfl rfl rfl) ?_
    refine ok (m_gfc (q := 14) rfl rfl rfl hr rfl rfl rfl) ?_
    refine ok (m_iload_n (q := 15) rfl rfl rfl rfl) ?_
    obtain ⟨g2, hp⟩ := hp
    refine ok (m_ials (q := 16) rfl rfl rfl hr rfl rfl g2 rfl) ?_
    refine ok (m_aload_n (q := 17) rfl rfl rfl rfl) ?_
    refine ok (m_gfc (q := 20) rfl rfl rfl hr rfl rfl rfl) ?_
    refine ok (m_iload_n (q := 21) rfl rfl rfl rfl) ?_
    refine ok (m_ials (q := 22) rfl rfl rfl hr rfl rfl g2 rfl) ?_
    refine okc (m_cmpeq (qt := 46) (qf := 25) rfl rfl (Rp_rg hr 128 a1) (Rp_rg hr 129 a1) rfl rfl) (fun c3 => ?_) (fun c3 => ?_)
    · replace hp := ip c3 hp
      refine ok (m_iinc (q := 49) (lo' := [some (am_r (some 70)), some (am_i (wz (wr (a1 + 1))))]) rfl rfl rfl rfl rfl rfl rfl) ?_
      refine ok (m_goto (q := 2) rfl rfl rfl) ?_
      exact hp d hd _ hr
    · replace hp := iq c3 hp
      refine ok (m_aload_n (q := 26) rfl rfl rfl rfl) ?_
      refine ok (m_gfc (q := 29) rfl rfl rfl hr rfl rfl rfl) ?_
      refine ok (m_iload_n (q := 30) rfl rfl rfl rfl) ?_
      refine ok (m_ials (q := 31) rfl rfl rfl hr rfl rfl g2 rfl) ?_
      refine ok (m_aload_n (q := 32) rfl rfl rfl rfl) ?_
      refine ok (m_gfc (q := 35) rfl rfl rfl hr rfl rfl rfl) ?_
      refine ok (m_iload_n (q := 36) rfl rfl rfl rfl) ?_
      refine ok (m_ials (q := 37) rfl rfl rfl hr rfl rfl g2 rfl) ?_
      refine okc (m_cmpge (qt := 44) (qf := 40) rfl rfl (Rp_rg hr 128 a1) (Rp_rg hr 129 a1) rfl rfl) (fun c4 => ?_) (fun c4 => ?_)
      · replace hp := ip c4 hp
        refine ok (m_iconst (q := 45) rfl rfl rfl) ?_
        exact ok (m_retb rfl rfl ⟨by decide, by decide⟩) (ok_iq hr ⟨by decide, by decide⟩ hp)
      · replace hp := iq c4 hp
        refine ok (m_iconst (q := 41) rfl rfl rfl) ?_
        refine ok (m_goto (q := 45) rfl rfl rfl) ?_
        exact ok (m_retb rfl rfl ⟨by decide, by decide⟩) (ok_iq hr ⟨by decide, by decide⟩ hp)
def w_less (D : aD) : Int := if fsi (fun k => decide (D 128 k ≠ D 129 k)) 0 (D 70 68) = -1 then 0 else if D 128 (fsi (fun k => decide (D 128 k ≠ D 129 k)) 0 (D 70 68)) < D 129 (fsi (fun k => decide (D 128 k ≠ D 129 k)) 0 (D 70 68)) then 1 else 0
def p_less (D : aD) : Prop := 0 ≤ D 70 68 ∧ D 70 68 ≤ 6
theorem b_less (D : aD) : 0 ≤ w_less D ∧ w_less D ≤ 1 := by unfold w_less; repeat' split <;> omega
theorem less_e : w_less D ≠ 0 ↔ Lt (D 70 68) (D 128) (D 129) := by
  unfold w_less
  rcases fsi_spec (p := fun k => decide (D 128 k ≠ D 129 k)) (N := D 70 68) 0 with ⟨q1, q2⟩ | ⟨q1, q2, q3, q4⟩
  · rw [if_pos q1]
    constructor
    · intro h; exact absurd rfl h
    · rintro ⟨k, k0, k1, k2, k3⟩
      have := of_decide_eq_false (q2 k k0 k1); omega
  · rw [if_neg (by omega)]
    have e3 := of_decide_eq_true q3
    constructor
    · intro h
      split at h
      · rename_i c; exact ⟨_, q1, q2, fun i a b => Decidable.not_not.mp (of_decide_eq_false (q4 i a b)), c⟩
      · exact absurd rfl h
    · rintro ⟨k, k0, k1, k2, k3⟩
      generalize fsi (fun k => decide (D 128 k ≠ D 129 k)) 0 (D 70 68) = j at *
      rcases Int.lt_trichotomy k j with q | q | q
      · have := of_decide_eq_false (q4 k k0 q); omega
      · subst q; rw [if_pos k3]; decide
      · exact absurd (k2 j q1 q) e3
theorem ev_X12_isLess (hp : p_less D) : Ev (n + 1) 1 203 [am_r (some 70)] A D (ri (w_less D)) A D := by
  refine rl_X12_isLess ?_
  have key : ∀ j, 0 ≤ j → j ≤ D 70 68 → (∀ i, 0 ≤ i → i < j → D 128 i = D 129 i) → K_X12_isLess_2 (n + 1) A D j (w_less D) D := by
    have hpl := hp
    unfold p_less at hpl
    refine dn_ind (K := fun j => (∀ i, 0 ≤ i → i < j → D 128 i = D 129 i) → K_X12_isLess_2 (n + 1) A D j (w_less D) D) (lo := 0) (N := D 70 68) ?_ ?_
    · intro h
      refine rl_X12_isLess_2 _ (rgb (by omega) (by omega)) ?_
      rw [if_pos (Int.le_refl _)]
      refine ⟨?_, rfl⟩
      by_cases c : w_less D = 0
      · exact c
      · obtain ⟨k, k0, k1, k2, k3⟩ := less_e.mp c
        have := h k k0 k1; omega
    · intro j j0 j1 ih h
      refine rl_X12_isLess_2 _ (rgb (by omega) (by omega)) ?_
      rw [if_neg (by omega), wr_id (by omega) (by omega)]
      refine ⟨by omega, ?_⟩
      by_cases c : D 128 j = D 129 j
      · rw [if_pos c]
        refine ih (fun i a b => ?_)
        by_cases e : i = j
        · rw [e]; exact c
        · exact h i a (by omega)
      · rw [if_neg c]
        by_cases c2 : D 129 j ≤ D 128 j
        · rw [if_pos c2]
          refine ⟨?_, rfl⟩
          by_cases c3 : w_less D = 0
          · exact c3
          · obtain ⟨k, k0, k1, k2, k3⟩ := less_e.mp c3
            rcases Int.lt_trichotomy k j with q | q | q
            · have := h k k0 q; omega
            · subst q; omega
            · exact absurd (k2 j j0 q) c
        · rw [if_neg c2]
          have := less_e.mpr ⟨j, j0, j1, h, by omega⟩
          have := b_less D
          exact ⟨by omega, rfl⟩
  exact key 0 (by omega) hp.1 (fun i a b => by omega)
abbrev P_X12_rows : Nat → Option am_E := am_fy tb_X12_rows
def K_X12_rows_72 (n : Nat) (c : Nat) (A : aA) (D : aD) (a5 : Int) (D' : aD) : Prop := Lp n c P_X12_rows 72 [some (am_r (some 70)), none, none, none, none, some (am_i (wz a5))] [] A D rv A D'
def K_X12_rows_105 (n : Nat) (c : Nat) (A : aA) (D : aD) (a1 : Int) (a2 : Int) (a3 : Int) (a4 : Int) (a5 : Int) (D' : aD) : Prop := Lp n c P_X12_rows 105 [some (am_r (some 70)), some (am_i (wz a1)), some (am_i (wz a2)), some (am_i (wz a3)), some (am_i (wz a4)), some (am_i (wz a5))] [] A D rv A D'
set_option maxRecDepth 100000 in
theorem rl_X12_rows {A : aA} {D D' : aD} {c : Nat} (hc : 42 ≤ c) (a1 : Int) (a2 : Int) (a3 : Int) (a4 : Int) (h1 : rg a1) (h2 : rg a2) (h3 : rg a3) (h4 : rg a4) (hp : (if a1 = D 70 68 then (if D 70 70 = (-1) then K_X12_rows_72 (1) c A (up (up D 70 70 a3) 70 71 a4) 0 D' else (if a3 < D 70 70 then (D' = D) else (if a3 = D 70 70 then (if D 70 71 < a4 then (D' = D) else (if a4 = D 70 71 then (p_less D) ∧ (if w_less D = 0 then (D' = D) else K_X12_rows_72 (1) c A (up (up D 70 70 a3) 70 71 a4) 0 D') else K_X12_rows_72 (1) c A (up (up D 70 70 a3) 70 71 a4) 0 D')) else K_X12_rows_72 (1) c A (up (up D 70 70 a3) 70 71 a4) 0 D'))) else K_X12_rows_105 (1) c A D a1 a2 a3 a4 0 D')) : Ev (1) (c + 1) 202 [am_r (some 70), am_i (wz a1), am_i (wz a2), am_i (wz a3), am_i (wz a4)] A D rv A D' := by
  refine Ev_of (c := c) (P := P_X12_rows) (lo := [some (am_r (some 70)), some (am_i (wz a1)), some (am_i (wz a2)), some (am_i (wz a3)), some (am_i (wz a4)), none]) rfl rfl rfl (fun d hd s hr => ?_)
  refine ok (m_iload_n (q := 1) rfl rfl rfl rfl) ?_
  refine ok (m_aload_n (q := 2) rfl rfl rfl rfl) ?_
  refine ok (m_gfs (z := 68) (q := 5) rfl rfl rfl hr rfl rfl rfl rfl rfl) ?_
  refine okc (m_cmpne (qt := 102) (qf := 8) rfl rfl h1 (Rp_rg hr 70 68) rfl rfl) (fun c1 => ?_) (fun c1 => ?_)
  · replace hp := ip c1 hp
    refine ok (m_aload_n (q := 9) rfl rfl rfl rfl) ?_
    refine ok (m_gfs (z := 70) (q := 12) rfl rfl rfl hr rfl rfl rfl rfl rfl) ?_
    refine ok (m_iconst (q := 13) rfl rfl rfl) ?_
    refine okc (m_cmpeq (qt := 58) (qf := 16) rfl rfl (Rp_rg hr 70 70) ⟨by decide, by decide⟩ rfl rfl) (fun c2 => ?_) (fun c2 => ?_)
    · replace hp := ip c2 hp
      refine ok (m_aload_n (q := 59) rfl rfl rfl rfl) ?_
      refine ok (m_iload_n (q := 60) rfl rfl rfl rfl) ?_
      refine oke (e_pfs (q := 63) rfl rfl rfl hr rfl rfl rfl rfl h3) (fun s4 r3 => ?_)
      refine ok (m_aload_n (q := 64) rfl rfl rfl rfl) ?_
      refine ok (m_iload (q := 66) rfl rfl rfl rfl) ?_
      refine oke (e_pfs (q := 69) rfl rfl rfl r3 rfl rfl rfl rfl h4) (fun s6 r5 => ?_)
      refine ok (m_iconst (q := 70) rfl rfl rfl) ?_
      refine ok (m_istore (q := 72) (lo' := [some (am_r (some 70)), some (am_i (wz a1)), some (am_i (wz a2)), some (am_i (wz a3)), some (am_i (wz a4)), some (am_i (wz 0))]) rfl rfl rfl rfl rfl) ?_
      refine ok (mk rfl (lo' := [some (am_r (some 70)), none, none, none, none, some (am_i (wz 0))]) rfl) ?_
      exact hp d hd _ r5
    · replace hp := iq c2 hp
      refine ok (m_iload_n (q := 17) rfl rfl rfl rfl) ?_
      refine ok (m_aload_n (q := 18) rfl rfl rfl rfl) ?_
      refine ok (m_gfs (z := 70) (q := 21) rfl rfl rfl hr rfl rfl rfl rfl rfl) ?_
      refine okc (m_cmplt (qt := 57) (qf := 24) rfl rfl h3 (Rp_rg hr 70 70) rfl rfl) (fun c7 => ?_) (fun c7 => ?_)
      · replace hp := ip c7 hp
        exact ok (m_retv rfl rfl) (ok_vq hr hp)
      · replace hp := iq c7 hp
        refine ok (m_iload_n (q := 25) rfl rfl rfl rfl) ?_
        refine ok (m_aload_n (q := 26) rfl rfl rfl rfl) ?_
        refine ok (m_gfs (z := 70) (q := 29) rfl rfl rfl hr rfl rfl rfl rfl rfl) ?_
        refine okc (m_cmpne (qt := 58) (qf := 32) rfl rfl h3 (Rp_rg hr 70 70) rfl rfl) (fun c8 => ?_) (fun c8 => ?_)
        · replace hp := ip c8 hp
          refine ok (m_iload (q := 34) rfl rfl rfl rfl) ?_
          refine ok (m_aload_n (q := 35) rfl rfl rfl rfl) ?_
          refine ok (m_gfs (z := 71) (q := 38) rfl rfl rfl hr rfl rfl rfl rfl rfl) ?_
          refine okc (m_cmpgt (qt := 57) (qf := 41) rfl rfl h4 (Rp_rg hr 70 71) rfl rfl) (fun c9 => ?_) (fun c9 => ?_)
          · replace hp := ip c9 hp
            exact ok (m_retv rfl rfl) (ok_vq hr hp)
          · replace hp := iq c9 hp
            refine ok (m_iload (q := 43) rfl rfl rfl rfl) ?_
            refine ok (m_aload_n (q := 44) rfl rfl rfl rfl) ?_
            refine ok (m_gfs (z := 71) (q := 47) rfl rfl rfl hr rfl rfl rfl rfl rfl) ?_
            refine okc (m_cmpne (qt := 58) (qf := 50) rfl rfl h4 (Rp_rg hr 70 71) rfl rfl) (fun c10 => ?_) (fun c10 => ?_)
            · replace hp := ip c10 hp
              refine ok (m_aload_n (q := 51) rfl rfl rfl rfl) ?_
              obtain ⟨g13, hp⟩ := hp
              refine oke (e_ci (x_cv (q := 54) rfl rfl rfl rfl rfl rfl rfl rfl rfl rfl (is_st hr rfl rfl)) (ev_X12_isLess (D := D) g13) (Nat.le_trans (by decide) (Nat.le_trans hc hd)) hr) (fun s11 r12 => ?_)
              refine okc (m_ifne (qt := 58) (qf := 57) rfl rfl (Ev_rg (ev_X12_isLess (D := D) g13) hr) rfl rfl) (fun c14 => ?_) (fun c14 => ?_)
              · replace hp := ip c14 hp
                exact ok (m_retv rfl rfl) (ok_vq r12 hp)
              · replace hp := iq c14 hp
                refine ok (m_aload_n (q := 59) rfl rfl rfl rfl) ?_
                refine ok (m_iload_n (q := 60) rfl rfl rfl rfl) ?_
                refine oke (e_pfs (q := 63) rfl rfl rfl r12 rfl rfl rfl rfl h3) (fun s16 r15 => ?_)
                refine ok (m_aload_n (q := 64) rfl rfl rfl rfl) ?_
                refine ok (m_iload (q := 66) rfl rfl rfl rfl) ?_
                refine oke (e_pfs (q := 69) rfl rfl rfl r15 rfl rfl rfl rfl h4) (fun s18 r17 => ?_)
                refine ok (m_iconst (q := 70) rfl rfl rfl) ?_
                refine ok (m_istore (q := 72) (lo' := [some (am_r (some 70)), some (am_i (wz a1)), some (am_i (wz a2)), some (am_i (wz a3)), some (am_i (wz a4)), some (am_i (wz 0))]) rfl rfl rfl rfl rfl) ?_
                refine ok (mk rfl (lo' := [some (am_r (some 70)), none, none, none, none, some (am_i (wz 0))]) rfl) ?_
                exact hp d hd _ r17
            · replace hp := iq c10 hp
              refine ok (m_aload_n (q := 59) rfl rfl rfl rfl) ?_
              refine ok (m_iload_n (q := 60) rfl rfl rfl rfl) ?_
              refine oke (e_pfs (q := 63) rfl rfl rfl hr rfl rfl rfl rfl h3) (fun s20 r19 => ?_)
              refine ok (m_aload_n (q := 64) rfl rfl rfl rfl) ?_
              refine ok (m_iload (q := 66) rfl rfl rfl rfl) ?_
              refine oke (e_pfs (q := 69) rfl rfl rfl r19 rfl rfl rfl rfl h4) (fun s22 r21 => ?_)
              refine ok (m_iconst (q := 70) rfl rfl rfl) ?_
              refine ok (m_istore (q := 72) (lo' := [some (am_r (some 70)), some (am_i (wz a1)), some (am_i (wz a2)), some (am_i (wz a3)), some (am_i (wz a4)), some (am_i (wz 0))]) rfl rfl rfl rfl rfl) ?_
              refine ok (mk rfl (lo' := [some (am_r (some 70)), none, none, none, none, some (am_i (wz 0))]) rfl) ?_
              exact hp d hd _ r21
        · replace hp := iq c8 hp
          refine ok (m_aload_n (q := 59) rfl rfl rfl rfl) ?_
          refine ok (m_iload_n (q := 60) rfl rfl rfl rfl) ?_
          refine oke (e_pfs (q := 63) rfl rfl rfl hr rfl rfl rfl rfl h3) (fun s24 r23 => ?_)
          refine ok (m_aload_n (q := 64) rfl rfl rfl rfl) ?_
          refine ok (m_iload (q := 66) rfl rfl rfl rfl) ?_
          refine oke (e_pfs (q := 69) rfl rfl rfl r23 rfl rfl rfl rfl h4) (fun s26 r25 => ?_)
          refine ok (m_iconst (q := 70) rfl rfl rfl) ?_
          refine ok (m_istore (q := 72) (lo' := [some (am_r (some 70)), some (am_i (wz a1)), some (am_i (wz a2)), some (am_i (wz a3)), some (am_i (wz a4)), some (am_i (wz 0))]) rfl rfl rfl rfl rfl) ?_
          refine ok (mk rfl (lo' := [some (am_r (some 70)), none, none, none, none, some (am_i (wz 0))]) rfl) ?_
          exact hp d hd _ r25
  · replace hp := iq c1 hp
    refine ok (m_iconst (q := 103) rfl rfl rfl) ?_
    refine ok (m_istore (q := 105) (lo' := [some (am_r (some 70)), some (am_i (wz a1)), some (am_i (wz a2)), some (am_i (wz a3)), some (am_i (wz a4)), some (am_i (wz 0))]) rfl rfl rfl rfl rfl) ?_
    exact hp d hd _ hr
set_option maxRecDepth 100000 in
theorem rl_X12_rows_72 {A : aA} {D D' : aD} {c : Nat} (hc : 42 ≤ c) (a5 : Int) (h5 : rg a5) (hp : (if D 70 68 ≤ a5 then (D' = D) else (0 ≤ a5 ∧ a5 < 6) ∧ K_X12_rows_72 (1) c A (up D 129 a5 (D 128 a5)) (wr (a5 + 1)) D')) : K_X12_rows_72 (1) c A D a5 D' := by
  unfold K_X12_rows_72
  refine fun d hd s hr => ?_
  refine ok (m_iload (q := 74) rfl rfl rfl rfl) ?_
  refine ok (m_aload_n (q := 75) rfl rfl rfl rfl) ?_
  refine ok (m_gfs (z := 68) (q := 78) rfl rfl rfl hr rfl rfl rfl rfl rfl) ?_
  refine okc (m_cmpge (qt := 101) (qf := 81) rfl rfl h5 (Rp_rg hr 70 68) rfl rfl) (fun c27 => ?_) (fun c27 => ?_)
  · replace hp := ip c27 hp
    exact ok (m_retv rfl rfl) (ok_vq hr hp)
  · replace hp := iq c27 hp
    refine ok (m_aload_n (q := 82) rfl rfl rfl rfl) ?_
    refine ok (m_gfc (q := 85) rfl rfl rfl hr rfl rfl rfl) ?_
    refine ok (m_iload (q := 87) rfl rfl rfl rfl) ?_
    refine ok (m_aload_n (q := 88) rfl rfl rfl rfl) ?_
    refine ok (m_gfc (q := 91) rfl rfl rfl hr rfl rfl rfl) ?_
    refine ok (m_iload (q := 93) rfl rfl rfl rfl) ?_
    obtain ⟨g28, hp⟩ := hp
    refine ok (m_ials (q := 94) rfl rfl rfl hr rfl rfl g28 rfl) ?_
    refine oke (e_ias (q := 95) rfl rfl rfl hr rfl rfl g28 (Rp_rg hr 128 a5)) (fun s30 r29 => ?_)
    refine ok (m_iinc (q := 98) (lo' := [some (am_r (some 70)), none, none, none, none, some (am_i (wz (wr (a5 + 1))))]) rfl rfl rfl rfl rfl rfl rfl) ?_
    refine ok (m_goto (q := 72) rfl rfl rfl) ?_
    exact hp d hd _ r29
set_option maxRecDepth 100000 in
theorem rl_X12_rows_105 {A : aA} {D D' : aD} {c : Nat} (hc : 42 ≤ c) (a1 : Int) (a2 : Int) (a3 : Int) (a4 : Int) (a5 : Int) (h1 : rg a1) (h2 : rg a2) (h3 : rg a3) (h4 : rg a4) (h5 : rg a5) (hp : (if D 70 69 ≤ a5 then (0 ≤ a1 ∧ a1 < 6) ∧ (∃ D38 : aD, Ev (1) c 202 [am_r (some 70), am_i (wz (wr (a1 + 1))), am_i (wz a2), am_i (wz a3), am_i (wz a4)] A (up D 128 a1 24) rv A D38 ∧ (D' = D38)) else (if o_and (o_shr a2 a5) 1 = 1 then K_X12_rows_105 (1) c A D a1 a2 a3 a4 (wr (a5 + 1)) D' else (0 ≤ a5 ∧ a5 < 6) ∧ (0 ≤ a1 ∧ a1 < 6) ∧ (p_X12_fitOf D (D 126 a5) (D 124 a1) (D 70 0)) ∧ (if v_X12_fitOf D (D 126 a5) (D 124 a1) (D 70 0) = 0 then (∃ D52 : aD, Ev (1) c 202 [am_r (some 70), am_i (wz (wr (a1 + 1))), am_i (wz (o_or a2 (o_shl 1 a5))), am_i (wz (wr (a3 + 1))), am_i (wz (wr (a4 + (max 0 (wr ((D 127 a5) - (D 125 a1)))))))] A (up D 128 a1 (D 126 a5)) rv A D52 ∧ K_X12_rows_105 (1) c A D52 a1 a2 a3 a4 (wr (a5 + 1)) D') else K_X12_rows_105 (1) c A D a1 a2 a3 a4 (wr (a5 + 1)) D')))) : K_X12_rows_105 (1) c A D a1 a2 a3 a4 a5 D' := by
  unfold K_X12_rows_105
  refine fun d hd s hr => ?_
  refine ok (m_iload (q := 107) rfl rfl rfl rfl) ?_
  refine ok (m_aload_n (q := 108) rfl rfl rfl rfl) ?_
  refine ok (m_gfs (z := 69) (q := 111) rfl rfl rfl hr rfl rfl rfl rfl rfl) ?_
  refine okc (m_cmpge (qt := 207) (qf := 114) rfl rfl h5 (Rp_rg hr 70 69) rfl rfl) (fun c31 => ?_) (fun c31 => ?_)
  · replace hp := ip c31 hp
    refine ok (m_aload_n (q := 208) rfl rfl rfl rfl) ?_
    refine ok (m_gfc (q := 211) rfl rfl rfl hr rfl rfl rfl) ?_
    refine ok (m_iload_n (q := 212) rfl rfl rfl rfl) ?_
    refine ok (m_bipush (q := 214) rfl rfl rfl) ?_
    obtain ⟨g34, hp⟩ := hp
    refine oke (e_ias (q := 215) rfl rfl rfl hr rfl rfl g34 ⟨by decide, by decide⟩) (fun s33 r32 => ?_)
    refine ok (m_aload_n (q := 216) rfl rfl rfl rfl) ?_
    refine ok (m_iload_n (q := 217) rfl rfl rfl rfl) ?_
    refine ok (m_iconst (q := 218) rfl rfl rfl) ?_
    refine ok (m_iadd (q := 219) rfl rfl rfl) ?_
    refine ok (m_iload_n (q := 220) rfl rfl rfl rfl) ?_
    refine ok (m_iload_n (q := 221) rfl rfl rfl rfl) ?_
    refine ok (m_iload (q := 223) rfl rfl rfl rfl) ?_
    obtain ⟨D38, e39, hp⟩ := hp
    refine oke (e_cvd (x_cv (q := 226) rfl rfl rfl rfl rfl rfl rfl rfl rfl rfl (is_st r32 rfl rfl)) e39 hd r32) (fun s35 r36 => ?_)
    exact ok (m_retv rfl rfl) (ok_vq r36 hp)
  · replace hp := iq c31 hp
    refine ok (m_iload_n (q := 115) rfl rfl rfl rfl) ?_
    refine ok (m_iload (q := 117) rfl rfl rfl rfl) ?_
    refine ok (m_ishr (q := 118) rfl rfl rfl) ?_
    refine ok (m_iconst (q := 119) rfl rfl rfl) ?_
    refine ok (m_iand (q := 120) rfl rfl rfl) ?_
    refine ok (m_iconst (q := 121) rfl rfl rfl) ?_
    refine okc (m_cmpeq (qt := 201) (qf := 124) rfl rfl (rg_o _) ⟨by decide, by decide⟩ rfl rfl) (fun c40 => ?_) (fun c40 => ?_)
    · replace hp := ip c40 hp
      refine ok (m_iinc (q := 204) (lo' := [some (am_r (some 70)), some (am_i (wz a1)), some (am_i (wz a2)), some (am_i (wz a3)), some (am_i (wz a4)), some (am_i (wz (wr (a5 + 1))))]) rfl rfl rfl rfl rfl rfl rfl) ?_
      refine ok (m_goto (q := 105) rfl rfl rfl) ?_
      exact hp d hd _ hr
    · replace hp := iq c40 hp
      refine ok (m_aload_n (q := 125) rfl rfl rfl rfl) ?_
      refine ok (m_aload_n (q := 126) rfl rfl rfl rfl) ?_
      refine ok (m_gfc (q := 129) rfl rfl rfl hr rfl rfl rfl) ?_
      refine ok (m_iload (q := 131) rfl rfl rfl rfl) ?_
      obtain ⟨g41, hp⟩ := hp
      refine ok (m_ials (q := 132) rfl rfl rfl hr rfl rfl g41 rfl) ?_
      refine ok (m_aload_n (q := 133) rfl rfl rfl rfl) ?_
      refine ok (m_gfc (q := 136) rfl rfl rfl hr rfl rfl rfl) ?_
      refine ok (m_iload_n (q := 137) rfl rfl rfl rfl) ?_
      obtain ⟨g42, hp⟩ := hp
      refine ok (m_ials (q := 138) rfl rfl rfl hr rfl rfl g42 rfl) ?_
      refine ok (m_aload_n (q := 139) rfl rfl rfl rfl) ?_
      refine ok (m_gfs (z := 0) (q := 142) rfl rfl rfl hr rfl rfl rfl rfl rfl) ?_
      obtain ⟨g45, hp⟩ := hp
      refine oke (e_ci (x_cv (q := 145) rfl rfl rfl rfl rfl rfl rfl rfl rfl rfl (is_st hr rfl rfl)) (ev_X12_fitOf (D := D) (D 126 a5) (D 124 a1) (D 70 0) (Rp_rg hr 126 a5) (Rp_rg hr 124 a1) (Rp_rg hr 70 0) g45) (Nat.le_trans (by decide) (Nat.le_trans hc hd)) hr) (fun s43 r44 => ?_)
      refine okc (m_ifeq (qt := 151) (qf := 148) rfl rfl (Ev_rg (ev_X12_fitOf (D := D) (D 126 a5) (D 124 a1) (D 70 0) (Rp_rg hr 126 a5) (Rp_rg hr 124 a1) (Rp_rg hr 70 0) g45) hr) rfl rfl) (fun c46 => ?_) (fun c46 => ?_)
      · replace hp := ip c46 hp
        refine ok (m_aload_n (q := 152) rfl rfl rfl rfl) ?_
        refine ok (m_gfc (q := 155) rfl rfl rfl r44 rfl rfl rfl) ?_
        refine ok (m_iload_n (q := 156) rfl rfl rfl rfl) ?_
        refine ok (m_aload_n (q := 157) rfl rfl rfl rfl) ?_
        refine ok (m_gfc (q := 160) rfl rfl rfl r44 rfl rfl rfl) ?_
        refine ok (m_iload (q := 162) rfl rfl rfl rfl) ?_
        refine ok (m_ials (q := 163) rfl rfl rfl r44 rfl rfl g41 rfl) ?_
        refine oke (e_ias (q := 164) rfl rfl rfl r44 rfl rfl g42 (Rp_rg r44 126 a5)) (fun s48 r47 => ?_)
        refine ok (m_aload_n (q := 165) rfl rfl rfl rfl) ?_
        refine ok (m_iload_n (q := 166) rfl rfl rfl rfl) ?_
        refine ok (m_iconst (q := 167) rfl rfl rfl) ?_
        refine ok (m_iadd (q := 168) rfl rfl rfl) ?_
        refine ok (m_iload_n (q := 169) rfl rfl rfl rfl) ?_
        refine ok (m_iconst (q := 170) rfl rfl rfl) ?_
        refine ok (m_iload (q := 172) rfl rfl rfl rfl) ?_
        refine ok (m_ishl (q := 173) rfl rfl rfl) ?_
        refine ok (m_ior (q := 174) rfl rfl rfl) ?_
        refine ok (m_iload_n (q := 175) rfl rfl rfl rfl) ?_
        refine ok (m_iconst (q := 176) rfl rfl rfl) ?_
        refine ok (m_iadd (q := 177) rfl rfl rfl) ?_
        refine ok (m_iload (q := 179) rfl rfl rfl rfl) ?_
        refine ok (m_iconst (q := 180) rfl rfl rfl) ?_
        refine ok (m_aload_n (q := 181) rfl rfl rfl rfl) ?_
        refine ok (m_gfc (q := 184) rfl rfl rfl r47 rfl rfl rfl) ?_
        refine ok (m_iload (q := 186) rfl rfl rfl rfl) ?_
        refine ok (m_ials (q := 187) (w := D 127 a5) rfl rfl rfl r47 rfl rfl g41 rfl) ?_
        refine ok (m_aload_n (q := 188) rfl rfl rfl rfl) ?_
        refine ok (m_gfc (q := 191) rfl rfl rfl r47 rfl rfl rfl) ?_
        refine ok (m_iload_n (q := 192) rfl rfl rfl rfl) ?_
        refine ok (m_ials (q := 193) (w := D 125 a1) rfl rfl rfl r47 rfl rfl g42 rfl) ?_
        refine ok (m_isub (q := 194) rfl rfl rfl) ?_
        refine ok (m_max (q := 197) rfl rfl rfl ⟨by decide, by decide⟩ (rg_wr _) rfl) ?_
        refine ok (m_iadd (q := 198) rfl rfl rfl) ?_
        obtain ⟨D52, e53, hp⟩ := hp
        refine oke (e_cvd (x_cv (q := 201) rfl rfl rfl rfl rfl rfl rfl rfl rfl rfl (is_st r47 rfl rfl)) e53 hd r47) (fun s49 r50 => ?_)
        refine ok (m_iinc (q := 204) (lo' := [some (am_r (some 70)), some (am_i (wz a1)), some (am_i (wz a2)), some (am_i (wz a3)), some (am_i (wz a4)), some (am_i (wz (wr (a5 + 1))))]) rfl rfl rfl rfl rfl rfl rfl) ?_
        refine ok (m_goto (q := 105) rfl rfl rfl) ?_
        exact hp d hd _ r50
      · replace hp := iq c46 hp
        refine ok (m_goto (q := 201) rfl rfl rfl) ?_
        refine ok (m_iinc (q := 204) (lo' := [some (am_r (some 70)), some (am_i (wz a1)), some (am_i (wz a2)), some (am_i (wz a3)), some (am_i (wz a4)), some (am_i (wz (wr (a5 + 1))))]) rfl rfl rfl rfl rfl rfl rfl) ?_
        refine ok (m_goto (q := 105) rfl rfl rfl) ?_
        exact hp d hd _ r44
/-- what the reference changes while it looks for the chain -/
def Ru (D E : aD) : Prop := (∀ c, c ≠ 70 → c ≠ 128 → c ≠ 129 → E c = D c) ∧ ∀ i, i ≠ 70 → i ≠ 71 → E 70 i = D 70 i
theorem Inv_70 (hI : Inv D) (x y : Int) : Inv (up (up D 70 70 x) 70 71 y) := by
  refine ⟨?_, ?_⟩
  · obtain ⟨p1, p2, p3, p4, p5, p6, p7, p8, p9, p10, p11, p12, p13, p14, p15⟩ := hI.iv
    refine iv15 ?_ ?_ ?_ ?_ ?_ ?_ ?_ ?_ ?_ ?_ ?_ ?_ ?_ ?_ ?_
    · simpa (disch := decide) only [I_ct, up_cf, up_i, up_eq] using p1
    · simpa (disch := decide) only [I_cu, up_cf, up_i, up_eq] using p2
    · simpa (disch := decide) only [I_tp, up_cf, up_i, up_eq] using p3
    · simpa (disch := decide) only [I_lg, up_cf, up_i, up_eq] using p4
    · simpa (disch := decide) only [I_hs, up_cf, up_i, up_eq] using p5
    · simpa (disch := decide) only [I_sv, up_cf, up_i, up_eq] using p6
    · simpa (disch := decide) only [I_pl, up_cf, up_i, up_eq] using p7
    · simpa (disch := decide) only [I_pg, up_cf, up_i, up_eq] using p8
    · simpa (disch := decide) only [I_bx, up_cf, up_i, up_eq] using p9
    · simpa (disch := decide) only [I_tm, up_cf, up_i, up_eq] using p10
    · simpa (disch := decide) only [I_ak, v_X12_ageOn, up_cf, up_i, up_eq] using p11
    · simpa (disch := decide) only [I_ws, up_cf, up_i, up_eq] using p12
    · simpa (disch := decide) only [I_wf, up_cf, up_i, up_eq] using p13
    · simpa (disch := decide) only [I_td, up_cf, up_i, up_eq] using p14
    · simpa (disch := decide) only [I_cn, up_cf, up_i, up_eq] using p15
  · exact Irb_k (fun c q => by rw [up_cf (nrb q rfl), up_cf (nrb q rfl)]) (by simp (disch := decide) only [up_i]; exact ⟨trivial, trivial⟩) (fun l _ => by simp (disch := decide) only [up_cf]) hI.rb
theorem fh_k {F : aD} (h : ∀ c, c ≠ 70 → c ≠ 62 → F c = D c) (h7 : F 70 27 = D 70 27) (r a b s p d : Int) : fh F r a b s p d = fh D r a b s p d := by
  have e1 : fct F s p d = fct D s p d := by
    funext j; unfold fct v_X12_ageOn; rw [h 79 (by decide) (by decide), h 78 (by decide) (by decide), h 75 (by decide) (by decide), h 77 (by decide) (by decide), h 71 (by decide) (by decide), h 72 (by decide) (by decide)]
  have e2 : fhP F r a b (fct D s p d) = fhP D r a b (fct D s p d) := by
    funext j
    have e3 : cT F (30 * r + j) (fct D s p d) ↔ cT D (30 * r + j) (fct D s p d) := by
      unfold cT
      rw [h 98 (by decide) (by decide), h7]
      have q : ∀ i : Int, F 99 i = D 99 i ∧ F 100 i = D 100 i ∧ F 101 i = D 101 i ∧ F 102 i = D 102 i ∧ F 103 i = D 103 i ∧ F 104 i = D 104 i := fun i => by rw [h 99 (by decide) (by decide), h 100 (by decide) (by decide), h 101 (by decide) (by decide), h 102 (by decide) (by decide), h 103 (by decide) (by decide), h 104 (by decide) (by decide)]; exact ⟨rfl, rfl, rfl, rfl, rfl, rfl⟩
      have e4 : ∀ φ, HM F (D 70 27) 40 (D 98 (30 * r + j)) φ ↔ HM D (D 70 27) 40 (D 98 (30 * r + j)) φ := fun φ =>
        ⟨HM_cg (Int.le_refl _) (fun i _ _ => ⟨(q i).1.symm, (q i).2.1.symm, (q i).2.2.1.symm, (q i).2.2.2.1.symm, (q i).2.2.2.2.1.symm, (q i).2.2.2.2.2.symm⟩) _ _ _, HM_cg (Int.le_refl _) (fun i _ _ => q i) _ _ _⟩
      simp only [e4]
    by_cases q : D 94 (30 * r + j) = a ∧ D 95 (30 * r + j) = b ∧ cT D (30 * r + j) (fct D s p d)
    · rw [fhP_t q, fhP_t (by rw [h 94 (by decide) (by decide), h 95 (by decide) (by decide), e3]; exact q)]
    · rw [fhP_f q, fhP_f (by rw [h 94 (by decide) (by decide), h 95 (by decide) (by decide), e3]; exact q)]
  unfold fh; rw [e1, e2, h 92 (by decide) (by decide)]
theorem fit_k {F : aD} (h : ∀ c, c ≠ 70 → c ≠ 62 → F c = D c) (h6 : F 70 26 = D 70 26) (h7 : F 70 27 = D 70 27) (s p d : Int) : v_X12_fitOf F s p d = v_X12_fitOf D s p d := by
  have l1 : ∀ r a b, w_last F r a b = w_last D r a b := fun r a b => by unfold w_last lk; rw [h 94 (by decide) (by decide), h 95 (by decide) (by decide), h 92 (by decide) (by decide)]
  have l2 : ∀ d, w_inForce F d = w_inForce D d := fun d => by unfold w_inForce; rw [h 93 (by decide) (by decide), h6]
  unfold v_X12_fitOf v_X12_tells w_fhM v_X12_ageOn
  simp only [h 80 (by decide) (by decide), h 72 (by decide) (by decide), h 81 (by decide) (by decide), h 78 (by decide) (by decide), h 82 (by decide) (by decide), h 73 (by decide) (by decide), h 96 (by decide) (by decide), h 79 (by decide) (by decide), h 71 (by decide) (by decide), l1, l2, fh_k h h7]
theorem fit_70 (x y s p d : Int) : v_X12_fitOf (up (up D 70 70 x) 70 71 y) s p d = v_X12_fitOf D s p d := fit_k (fun c q _ => by rw [up_cf q, up_cf q]) (by rw [up_i (by decide), up_i (by decide)]) (by rw [up_i (by decide), up_i (by decide)]) s p d
theorem fit_62 (x y s p d : Int) : v_X12_fitOf (up (up D 62 9 x) 62 10 y) s p d = v_X12_fitOf D s p d := fit_k (fun c _ q => by rw [up_cf q, up_cf q]) (by rw [up_c (by decide), up_c (by decide)]) (by rw [up_c (by decide), up_c (by decide)]) s p d
theorem Inv_62 (hI : Inv D) (x y : Int) : Inv (up (up D 62 9 x) 62 10 y) := by
  refine ⟨?_, ?_⟩
  · obtain ⟨p1, p2, p3, p4, p5, p6, p7, p8, p9, p10, p11, p12, p13, p14, p15⟩ := hI.iv
    refine iv15 ?_ ?_ ?_ ?_ ?_ ?_ ?_ ?_ ?_ ?_ ?_ ?_ ?_ ?_ ?_
    · simpa (disch := decide) only [I_ct, up_cf, up_i, up_eq] using p1
    · simpa (disch := decide) only [I_cu, up_cf, up_i, up_eq] using p2
    · simpa (disch := decide) only [I_tp, up_cf, up_i, up_eq] using p3
    · simpa (disch := decide) only [I_lg, up_cf, up_i, up_eq] using p4
    · simpa (disch := decide) only [I_hs, up_cf, up_i, up_eq] using p5
    · simpa (disch := decide) only [I_sv, up_cf, up_i, up_eq] using p6
    · simpa (disch := decide) only [I_pl, up_cf, up_i, up_eq] using p7
    · simpa (disch := decide) only [I_pg, up_cf, up_i, up_eq] using p8
    · simpa (disch := decide) only [I_bx, up_cf, up_i, up_eq] using p9
    · simpa (disch := decide) only [I_tm, up_cf, up_i, up_eq] using p10
    · simpa (disch := decide) only [I_ak, v_X12_ageOn, up_cf, up_i, up_eq] using p11
    · simpa (disch := decide) only [I_ws, up_cf, up_i, up_eq] using p12
    · simpa (disch := decide) only [I_wf, up_cf, up_i, up_eq] using p13
    · simpa (disch := decide) only [I_td, up_cf, up_i, up_eq] using p14
    · simpa (disch := decide) only [I_cn, up_cf, up_i, up_eq] using p15
  · exact Irb_k (fun c q => by rw [up_cf (nrb q rfl), up_cf (nrb q rfl)]) (by simp (disch := decide) only [up_cf]; exact ⟨trivial, trivial⟩) (fun l _ => by simp (disch := decide) only [up_cf]) hI.rb
theorem Ru_f (hI : Inv D) (h : Ru D E) : Inv E ∧ ∀ s p d, v_X12_fitOf E s p d = v_X12_fitOf D s p d := by
  have hm : Sm E (up (up D 70 70 (E 70 70)) 70 71 (E 70 71)) := fun c q => by
    by_cases e : c = 70
    · subst e
      funext i
      by_cases e1 : i = 71
      · subst e1; rw [up_eq]
      · rw [up_i e1]
        by_cases e2 : i = 70
        · subst e2; rw [up_eq]
        · rw [up_i e2]; exact h.2 i e2 e1
    · rw [up_cf e, up_cf e]
      exact h.1 c e (by rintro rfl; cases q) (by rintro rfl; cases q)
  exact ⟨Inv_cg hm (Inv_70 hI _ _), fun s p d => by rw [fit_cg hm, fit_70]⟩
abbrev con (E : aD) : Cd := (E 70 70, E 70 71, E 129)
/-- the order of telling and the order by numbers -/
def Sg (D : aD) (σ : Int → Int) : Prop := (∀ f, 0 ≤ f → f < D 62 8 → (0 ≤ σ f ∧ σ f < D 62 8) ∧ D 1201 (σ f) = D 126 f ∧ D 66 (σ f) = D 127 f) ∧ (∀ j, 0 ≤ j → j < D 62 8 → ∃ f, 0 ≤ f ∧ f < D 62 8 ∧ σ f = j) ∧ ∀ f f', 0 ≤ f → f < D 62 8 → 0 ≤ f' → f' < D 62 8 → σ f = σ f' → f = f'
theorem mono (hI : Inv D) {j j' : Int} (h0 : 0 ≤ j) (h : j < j') (h1 : j' < D 62 8) : D 1201 j < D 1201 j' := by
  have hn := hI.iv.cn; unfold I_cn at hn
  exact hn.2.2.2.2.2.1 j j' h0 h (by omega)
theorem Sg_ex (hI : Inv D) : ∃ σ, Sg D σ := by
  have hn := hI.iv.cn; unfold I_cn at hn
  have hq : ∀ f, ∃ j, 0 ≤ f → f < D 62 8 → (0 ≤ j ∧ j < D 62 8) ∧ D 1201 j = D 126 f ∧ D 66 j = D 127 f := fun f => by
    by_cases c : 0 ≤ f ∧ f < D 62 8
    · obtain ⟨j, j0, j1, j2, j3⟩ := (hn.2.2.2.1 f c.1 (by omega)).2.2.2.2
      exact ⟨j, fun _ _ => ⟨⟨j0, by omega⟩, j2, j3⟩⟩
    · exact ⟨0, fun a b => absurd ⟨a, b⟩ c⟩
  have hs : ∀ f, 0 ≤ f → f < D 62 8 → (0 ≤ Classical.choose (hq f) ∧ Classical.choose (hq f) < D 62 8) ∧ D 1201 (Classical.choose (hq f)) = D 126 f ∧ D 66 (Classical.choose (hq f)) = D 127 f := fun f => Classical.choose_spec (hq f)
  have inj : ∀ j j', 0 ≤ j → j < D 62 8 → 0 ≤ j' → j' < D 62 8 → D 1201 j = D 1201 j' → j = j' := fun j j' a b c d e => by
    rcases Int.lt_trichotomy j j' with q | q | q
    · have := mono hI a q d; omega
    · exact q
    · have := mono hI c q b; omega
  refine ⟨fun f => Classical.choose (hq f), hs, fun j j0 j1 => ?_, fun f f' a b c d e => ?_⟩
  · obtain ⟨f, f0, f1, f2, _⟩ := hn.2.2.2.2.1 j j0 (by omega)
    have z := hs f f0 (by omega)
    exact ⟨f, f0, by omega, inj _ _ z.1.1 z.1.2 j0 j1 (by rw [z.2.1, f2])⟩
  · have z := hs f a b
    have z' := hs f' c d
    replace e : Classical.choose (hq f) = Classical.choose (hq f') := e
    have e1 : D 126 f = D 126 f' := by rw [← z.2.1, ← z'.2.1, e]
    rcases Int.lt_trichotomy f f' with q | q | q
    · exact absurd e1 (hn.2.2.2.2.2.2.1 f f' a q (by omega))
    · exact q
    · exact absurd e1.symm (hn.2.2.2.2.2.2.1 f' f c q (by omega))
/-- a row whose first k stand, and then the best -/
noncomputable abbrev crow (D : aD) (r : Int → Int) (m : Nat) (u : Int) : Int → Int := fun i => if i < D 62 7 - m then r i else rwo (D 62 7) (D 62 8) (cst D) (D 1201) 24 m u i
noncomputable abbrev cand (D : aD) (r : Int → Int) (m : Nat) (u many days : Int) : Cd := (many + cn (D 62 7) (D 62 8) (cst D) m u, days + ds (D 62 7) (D 62 8) (cst D) m u, crow D r m u)
/-- the same with the next place given -/
noncomputable abbrev cnd1 (D : aD) (r : Int → Int) (m : Nat) (u many days j : Int) : Cd := (many + 1 + cn (D 62 7) (D 62 8) (cst D) m (ad u j), days + cst D (D 62 7 - (m + 1)) j + ds (D 62 7) (D 62 8) (cst D) m (ad u j), fun i => if i < D 62 7 - (m + 1) then r i else if i = D 62 7 - (m + 1) then D 1201 j else rwo (D 62 7) (D 62 8) (cst D) (D 1201) 24 m (ad u j) i)
noncomputable abbrev cnd0 (D : aD) (r : Int → Int) (m : Nat) (u many days : Int) : Cd := (many + cn (D 62 7) (D 62 8) (cst D) m u, days + ds (D 62 7) (D 62 8) (cst D) m u, fun i => if i < D 62 7 - (m + 1) then r i else if i = D 62 7 - (m + 1) then 24 else rwo (D 62 7) (D 62 8) (cst D) (D 1201) 24 m u i)
theorem best_c (hI : Inv D) {r : Int → Int} {m : Nat} {u many days : Int} (hm : (m : Int) + 1 ≤ D 62 7) : (eqv (D 62 7) (cand D r (m + 1) u many days) (cnd0 D r m u many days) ∨ ∃ j, 0 ≤ j ∧ j < D 62 8 ∧ tb u j = 0 ∧ cst D (D 62 7 - (m + 1)) j ≠ -1 ∧ eqv (D 62 7) (cand D r (m + 1) u many days) (cnd1 D r m u many days j)) ∧ ¬ bt (D 62 7) (cnd0 D r m u many days) (cand D r (m + 1) u many days) ∧ ∀ j, 0 ≤ j → j < D 62 8 → tb u j = 0 → cst D (D 62 7 - (m + 1)) j ≠ -1 → ¬ bt (D 62 7) (cnd1 D r m u many days j) (cand D r (m + 1) u many days) := by
  obtain ⟨⟨_, hP⟩, ⟨_, hS⟩, hk, hj⟩ := cn_f hI
  have hcb := cst_b hI
  have hc := hI.iv.ct; unfold I_ct at hc
  generalize hPP : D 62 7 = P at *
  generalize hSS : D 62 8 = S at *
  have v0 := bv_v (P := P) hS.1 hcb m u
  have v1 := bv_v (P := P) hS.1 hcb (m + 1) u
  have bs := bv_s (P := P) (c := cst D) hS.1 m u
  have em : P - ((m + 1 : Nat) : Int) = P - ((m : Int) + 1) := by omega
  have ewo : ∀ j, tb u j = 0 → cst D (P - (m + 1)) j ≠ -1 → wo (cst D) (bv P S (cst D) m) (P - (m + 1)) j u = 20000 - cst D (P - (m + 1)) j + (20000 * cn P S (cst D) m (ad u j) - ds P S (cst D) m (ad u j)) := fun j a b => by
    unfold wo; rw [if_neg b, if_pos a, (bv_v (P := P) hS.1 hcb m (ad u j)).1]
  have e1 : vl (cand D r (m + 1) u many days) = 20000 * many - days + bv P S (cst D) (m + 1) u := by
    unfold vl; rw [v1.1]; show 20000 * (many + cn (D 62 7) (D 62 8) (cst D) (m + 1) u) - (days + ds (D 62 7) (D 62 8) (cst D) (m + 1) u) = _; rw [hPP, hSS]; omega
  have e0 : vl (cnd0 D r m u many days) = 20000 * many - days + bv P S (cst D) m u := by
    unfold vl; rw [v0.1]; show 20000 * (many + cn (D 62 7) (D 62 8) (cst D) m u) - (days + ds (D 62 7) (D 62 8) (cst D) m u) = _; rw [hPP, hSS]; omega
  have ej : ∀ j, tb u j = 0 → cst D (P - (m + 1)) j ≠ -1 → vl (cnd1 D r m u many days j) = 20000 * many - days + wo (cst D) (bv P S (cst D) m) (P - (m + 1)) j u := fun j a b => by
    rw [ewo j a b]; unfold vl; show 20000 * (many + 1 + cn (D 62 7) (D 62 8) (cst D) m (ad u j)) - (days + cst D (D 62 7 - (m + 1)) j + ds (D 62 7) (D 62 8) (cst D) m (ad u j)) = _; rw [hPP, hSS]; omega
  have rI : ∀ i, (cand D r (m + 1) u many days).2.2 i = if i < P - (m + 1) then r i else if i = P - (m + 1) then (if pk P S (cst D) m u = -1 then 24 else D 1201 (pk P S (cst D) m u)) else rwo P S (cst D) (D 1201) 24 m (nx P S (cst D) m u) i := fun i => by
    show (if i < D 62 7 - ((m + 1 : Nat) : Int) then r i else rwo (D 62 7) (D 62 8) (cst D) (D 1201) 24 (m + 1) u i) = _
    rw [hPP, hSS, em]
    rfl
  have r0 : ∀ i, (cnd0 D r m u many days).2.2 i = if i < P - (m + 1) then r i else if i = P - (m + 1) then 24 else rwo P S (cst D) (D 1201) 24 m u i := fun i => by
    show (if i < D 62 7 - ((m : Int) + 1) then r i else if i = D 62 7 - ((m : Int) + 1) then 24 else rwo (D 62 7) (D 62 8) (cst D) (D 1201) 24 m u i) = _
    rw [hPP, hSS]
  have rj : ∀ j i, (cnd1 D r m u many days j).2.2 i = if i < P - (m + 1) then r i else if i = P - (m + 1) then D 1201 j else rwo P S (cst D) (D 1201) 24 m (ad u j) i := fun j i => by
    show (if i < D 62 7 - ((m : Int) + 1) then r i else if i = D 62 7 - ((m : Int) + 1) then D 1201 j else rwo (D 62 7) (D 62 8) (cst D) (D 1201) 24 m (ad u j) i) = _
    rw [hPP, hSS]
  have r0k : (cnd0 D r m u many days).2.2 (P - ((m : Int) + 1)) = 24 := by rw [r0, if_neg (Int.lt_irrefl _), if_pos rfl]
  have rIk : (cand D r (m + 1) u many days).2.2 (P - ((m : Int) + 1)) = if pk P S (cst D) m u = -1 then 24 else D 1201 (pk P S (cst D) m u) := by rw [rI, if_neg (Int.lt_irrefl _), if_pos rfl]
  have rjk : ∀ j, (cnd1 D r m u many days j).2.2 (P - ((m : Int) + 1)) = D 1201 j := fun j => by rw [rj, if_neg (Int.lt_irrefl _), if_pos rfl]
  have cnE : cn P S (cst D) (m + 1) u = (if pk P S (cst D) m u = -1 then 0 else 1) + cn P S (cst D) m (nx P S (cst D) m u) := rfl
  have dsE : ds P S (cst D) (m + 1) u = (if pk P S (cst D) m u = -1 then 0 else cst D (P - (m + 1)) (pk P S (cst D) m u)) + ds P S (cst D) m (nx P S (cst D) m u) := rfl
  rcases pk_s (P := P) (c := cst D) hS.1 m u with ⟨z1, z2, z3⟩ | ⟨z1, z2, z3, z4, z5, z6, z7⟩
  · have hn : nx P S (cst D) m u = u := by unfold nx; rw [if_pos z1]
    rw [if_pos z1, hn] at cnE dsE
    have ee : eqv P (cand D r (m + 1) u many days) (cnd0 D r m u many days) := by
      refine ⟨?_, ?_, fun i _ _ => ?_⟩
      · show many + cn (D 62 7) (D 62 8) (cst D) (m + 1) u = many + cn (D 62 7) (D 62 8) (cst D) m u
        rw [hPP, hSS, cnE]; omega
      · show days + ds (D 62 7) (D 62 8) (cst D) (m + 1) u = days + ds (D 62 7) (D 62 8) (cst D) m u
        rw [hPP, hSS, dsE]; omega
      · rw [rI, r0, if_pos z1, hn]
    refine ⟨Or.inl ee, fun q => ?_, fun j j0 j1 a b q => ?_⟩
    · replace q := bt_eq (eqv.refl _) ee q
      exact bt_as q q
    · have := z2 j j0 j1
      rcases q with q | ⟨q, _⟩
      · rw [e1, ej j a b] at q; omega
      · rw [e1, ej j a b] at q; omega
  · have hn : nx P S (cst D) m u = ad u (pk P S (cst D) m u) := by unfold nx; rw [if_neg (by omega)]
    rw [if_neg (by omega), hn] at cnE dsE
    have hpn := (hj (pk P S (cst D) m u) z1 z2).1
    refine ⟨Or.inr ⟨_, z1, z2, z6, z5, ?_, ?_, fun i _ _ => ?_⟩, fun q => ?_, fun j j0 j1 a b q => ?_⟩
    · show many + cn (D 62 7) (D 62 8) (cst D) (m + 1) u = many + 1 + cn (D 62 7) (D 62 8) (cst D) m (ad u (pk P S (cst D) m u))
      rw [hPP, hSS, cnE]; omega
    · show days + ds (D 62 7) (D 62 8) (cst D) (m + 1) u = days + cst D (D 62 7 - (m + 1)) (pk P S (cst D) m u) + ds (D 62 7) (D 62 8) (cst D) m (ad u (pk P S (cst D) m u))
      rw [hPP, hSS, dsE]; omega
    · rw [rI, rj, if_neg (show ¬ pk P S (cst D) m u = -1 by omega), hn]
    · rcases q with q | ⟨q, k, k0, k1, k2, k3⟩
      · rw [e1, e0] at q; omega
      · rw [r0, rI] at k3
        by_cases c1 : k < P - ((m : Int) + 1)
        · rw [if_pos c1, if_pos c1] at k3; omega
        · rw [if_neg c1, if_neg c1] at k3
          by_cases c2 : k = P - ((m : Int) + 1)
          · rw [if_pos c2, if_pos c2, if_neg (by omega)] at k3; omega
          · have y := k2 (P - ((m : Int) + 1)) (by omega) (by omega)
            rw [r0k, rIk, if_neg (by omega)] at y
            omega
    · have hjn := (hj j j0 j1).1
      rcases q with q | ⟨q, k, k0, k1, k2, k3⟩
      · rw [e1, ej j a b] at q
        have := bs.2.1 j j0 j1
        omega
      · rw [e1, ej j a b] at q
        have hle : pk P S (cst D) m u ≤ j := by
          rcases Int.lt_or_le j (pk P S (cst D) m u) with y | y
          · have := z4 j j0 y; omega
          · exact y
        have hmo : pk P S (cst D) m u < j → D 1201 (pk P S (cst D) m u) < D 1201 j := fun y => mono hI z1 y (by rw [hSS]; exact j1)
        rw [rj, rI] at k3
        by_cases c1 : k < P - ((m : Int) + 1)
        · rw [if_pos c1, if_pos c1] at k3; omega
        · rw [if_neg c1, if_neg c1] at k3
          by_cases c2 : k = P - ((m : Int) + 1)
          · rw [if_pos c2, if_pos c2, if_neg (by omega)] at k3
            rcases Int.lt_or_eq_of_le hle with y | y
            · have := hmo y; omega
            · rw [y] at k3; omega
          · have y := k2 (P - ((m : Int) + 1)) (by omega) (by omega)
            rw [rjk, rIk, if_neg (by omega)] at y
            rcases Int.lt_or_eq_of_le hle with w | w
            · have := hmo w; omega
            · rw [if_neg c2, if_neg c2, hn, w] at k3; omega
end Ch
