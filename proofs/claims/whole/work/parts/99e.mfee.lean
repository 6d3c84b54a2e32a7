/-! The reference reads a fee. -/
section Mfe
variable {n : Nat} {A : aA} {D D' : aD} {T : Int → Int} {N a : Int}
abbrev P_X12_fee : Nat → Option am_E := am_fy tb_X12_fee
set_option maxRecDepth 100000 in
theorem rl_X12_fee {n : Nat} {A : aA} {D D' : aD} {c : Nat} (hc : 3 ≤ c) (a1 : Int) (h1 : rg a1) {x : Int} (hp : (p_X12_takes D (448546567013 : Int64)) ∧ (if w_tk D (448546567013 : Int64) = 0 then (p_X12_takes (u_tk D (448546567013 : Int64)) (32481164608499316 : Int64)) ∧ (if w_tk (u_tk D (448546567013 : Int64)) (32481164608499316 : Int64) = 0 then (0 ≤ a1 ∧ a1 < 270) ∧ (x = 0 ∧ D' = (up (u_tk (u_tk D (448546567013 : Int64)) (32481164608499316 : Int64)) 95 a1 (-1))) else (0 ≤ a1 ∧ a1 < 270) ∧ (p_X12_takesPlain (up (u_tk (u_tk D (448546567013 : Int64)) (32481164608499316 : Int64)) 95 a1 1)) ∧ (if v_X12_takesPlain (up (u_tk (u_tk D (448546567013 : Int64)) (32481164608499316 : Int64)) 95 a1 1) = 0 then (x = 0 ∧ D' = (u_X12_takesPlain (up (u_tk (u_tk D (448546567013 : Int64)) (32481164608499316 : Int64)) 95 a1 1))) else (p_mnum (up (u_X12_takesPlain (up (u_tk (u_tk D (448546567013 : Int64)) (32481164608499316 : Int64)) 95 a1 1)) 96 a1 ((u_X12_takesPlain (up (u_tk (u_tk D (448546567013 : Int64)) (32481164608499316 : Int64)) 95 a1 1)) 70 50)) 300) ∧ (if w_mn (up (u_X12_takesPlain (up (u_tk (u_tk D (448546567013 : Int64)) (32481164608499316 : Int64)) 95 a1 1)) 96 a1 ((u_X12_takesPlain (up (u_tk (u_tk D (448546567013 : Int64)) (32481164608499316 : Int64)) 95 a1 1)) 70 50)) 300 = 0 then (x = 0 ∧ D' = (u_mn (up (u_X12_takesPlain (up (u_tk (u_tk D (448546567013 : Int64)) (32481164608499316 : Int64)) 95 a1 1)) 96 a1 ((u_X12_takesPlain (up (u_tk (u_tk D (448546567013 : Int64)) (32481164608499316 : Int64)) 95 a1 1)) 70 50)) 300)) else (∃ x29 : Int, ∃ D30 : aD, (Ev (n + 1) c 165 [am_r (some 70), am_i (wz a1)] A (up (u_mn (up (u_X12_takesPlain (up (u_tk (u_tk D (448546567013 : Int64)) (32481164608499316 : Int64)) 95 a1 1)) 96 a1 ((u_X12_takesPlain (up (u_tk (u_tk D (448546567013 : Int64)) (32481164608499316 : Int64)) 95 a1 1)) 70 50)) 300) 97 a1 ((u_mn (up (u_X12_takesPlain (up (u_tk (u_tk D (448546567013 : Int64)) (32481164608499316 : Int64)) 95 a1 1)) 96 a1 ((u_X12_takesPlain (up (u_tk (u_tk D (448546567013 : Int64)) (32481164608499316 : Int64)) 95 a1 1)) 70 50)) 300) 70 50)) (ri x29) A D30 ∧ 0 ≤ x29 ∧ x29 ≤ 1) ∧ (x = x29 ∧ D' = D30))))) else (0 ≤ a1 ∧ a1 < 270) ∧ (p_X12_takesPlain (up (u_tk D (448546567013 : Int64)) 95 a1 0)) ∧ (if v_X12_takesPlain (up (u_tk D (448546567013 : Int64)) 95 a1 0) = 0 then (x = 0 ∧ D' = (u_X12_takesPlain (up (u_tk D (448546567013 : Int64)) 95 a1 0))) else (p_mnum (up (u_X12_takesPlain (up (u_tk D (448546567013 : Int64)) 95 a1 0)) 96 a1 ((u_X12_takesPlain (up (u_tk D (448546567013 : Int64)) 95 a1 0)) 70 50)) 300) ∧ (if w_mn (up (u_X12_takesPlain (up (u_tk D (448546567013 : Int64)) 95 a1 0)) 96 a1 ((u_X12_takesPlain (up (u_tk D (448546567013 : Int64)) 95 a1 0)) 70 50)) 300 = 0 then (x = 0 ∧ D' = (u_mn (up (u_X12_takesPlain (up (u_tk D (448546567013 : Int64)) 95 a1 0)) 96 a1 ((u_X12_takesPlain (up (u_tk D (448546567013 : Int64)) 95 a1 0)) 70 50)) 300)) else (∃ x49 : Int, ∃ D50 : aD, (Ev (n + 1) c 165 [am_r (some 70), am_i (wz a1)] A (up (u_mn (up (u_X12_takesPlain (up (u_tk D (448546567013 : Int64)) 95 a1 0)) 96 a1 ((u_X12_takesPlain (up (u_tk D (448546567013 : Int64)) 95 a1 0)) 70 50)) 300) 97 a1 ((u_mn (up (u_X12_takesPlain (up (u_tk D (448546567013 : Int64)) 95 a1 0)) 96 a1 ((u_X12_takesPlain (up (u_tk D (448546567013 : Int64)) 95 a1 0)) 70 50)) 300) 70 50)) (ri x49) A D50 ∧ 0 ≤ x49 ∧ x49 ≤ 1) ∧ (x = x49 ∧ D' = D50)))))) : Ev (n + 1) (c + 1) 166 [am_r (some 70), am_i (wz a1)] A D (ri x) A D' := by
  refine Ev_of (c := c) (P := P_X12_fee) (lo := [some (am_r (some 70)), some (am_i (wz a1))]) rfl rfl rfl (fun d hd s hr => ?_)
  refine ok (m_aload_n (q := 1) rfl rfl rfl rfl) ?_
  refine ok (m_gfc (q := 4) rfl rfl rfl hr rfl rfl rfl) ?_
  refine ok (m_iload_n (q := 5) rfl rfl rfl rfl) ?_
  refine ok (m_aload_n (q := 6) rfl rfl rfl rfl) ?_
  refine ok (m_ldc2_w (q := 9) rfl rfl rfl) ?_
  obtain ⟨g3, hp⟩ := hp
  refine oke (e_ci (x_cv (q := 12) rfl rfl rfl rfl rfl rfl rfl rfl rfl rfl (is_st hr rfl rfl)) (ev_tk (D := D) (448546567013 : Int64) g3) (Nat.le_trans (by decide) (Nat.le_trans hc hd)) hr) (fun s1 r2 => ?_)
  refine okc (m_ifeq (qt := 19) (qf := 15) rfl rfl (Ev_rg (ev_tk (D := D) (448546567013 : Int64) g3) hr) rfl rfl) (fun c4 => ?_) (fun c4 => ?_)
  · replace hp := ip c4 hp
    refine ok (m_aload_n (q := 20) rfl rfl rfl rfl) ?_
    refine ok (m_ldc2_w (q := 23) rfl rfl rfl) ?_
    obtain ⟨g7, hp⟩ := hp
    refine oke (e_ci (x_cv (q := 26) rfl rfl rfl rfl rfl rfl rfl rfl rfl rfl (is_st r2 rfl rfl)) (ev_tk (D := (u_tk D (448546567013 : Int64))) (32481164608499316 : Int64) g7) (Nat.le_trans (by decide) (Nat.le_trans hc hd)) r2) (fun s5 r6 => ?_)
    refine okc (m_ifeq (qt := 33) (qf := 29) rfl rfl (Ev_rg (ev_tk (D := (u_tk D (448546567013 : Int64))) (32481164608499316 : Int64) g7) r2) rfl rfl) (fun c8 => ?_) (fun c8 => ?_)
    · replace hp := ip c8 hp
      refine ok (m_iconst (q := 34) rfl rfl rfl) ?_
      obtain ⟨g11, hp⟩ := hp
      refine oke (e_ias (q := 35) rfl rfl rfl r6 rfl rfl g11 ⟨by decide, by decide⟩) (fun s10 r9 => ?_)
      refine ok (m_aload_n (q := 36) rfl rfl rfl rfl) ?_
      refine ok (m_gfc (q := 39) rfl rfl rfl r9 rfl rfl rfl) ?_
      refine ok (m_iload_n (q := 40) rfl rfl rfl rfl) ?_
      refine ok (m_ials (q := 41) (w := (-1)) rfl rfl rfl r9 rfl rfl g11 up_eq) ?_
      refine ok (m_iconst (q := 42) rfl rfl rfl) ?_
      refine ok ((m_cmpeq (qt := 52) (qf := 45) rfl rfl (rg_c (Rp_rg r9 95 a1) up_eq) ⟨by decide, by decide⟩ rfl rfl).trans (if_pos (by decide))) ?_
      refine ok (m_iconst (q := 53) rfl rfl rfl) ?_
      exact ok (m_retb rfl rfl ⟨by decide, by decide⟩) (ok_iq r9 ⟨by decide, by decide⟩ hp)
    · replace hp := iq c8 hp
      refine ok (m_iconst (q := 30) rfl rfl rfl) ?_
      refine ok (m_goto (q := 34) rfl rfl rfl) ?_
      obtain ⟨g14, hp⟩ := hp
      refine oke (e_ias (q := 35) rfl rfl rfl r6 rfl rfl g14 ⟨by decide, by decide⟩) (fun s13 r12 => ?_)
      refine ok (m_aload_n (q := 36) rfl rfl rfl rfl) ?_
      refine ok (m_gfc (q := 39) rfl rfl rfl r12 rfl rfl rfl) ?_
      refine ok (m_iload_n (q := 40) rfl rfl rfl rfl) ?_
      refine ok (m_ials (q := 41) (w := 1) rfl rfl rfl r12 rfl rfl g14 up_eq) ?_
      refine ok (m_iconst (q := 42) rfl rfl rfl) ?_
      refine ok ((m_cmpeq (qt := 52) (qf := 45) rfl rfl (rg_c (Rp_rg r12 95 a1) up_eq) ⟨by decide, by decide⟩ rfl rfl).trans (if_neg (by decide))) ?_
      refine ok (m_aload_n (q := 46) rfl rfl rfl rfl) ?_
      obtain ⟨g17, hp⟩ := hp
      refine oke (e_ci (x_cv (q := 49) rfl rfl rfl rfl rfl rfl rfl rfl rfl rfl (is_st r12 rfl rfl)) (ev_X12_takesPlain (D := (up (u_tk (u_tk D (448546567013 : Int64)) (32481164608499316 : Int64)) 95 a1 1)) g17) (Nat.le_trans (by decide) (Nat.le_trans hc hd)) r12) (fun s15 r16 => ?_)
      refine okc (m_ifne (qt := 54) (qf := 52) rfl rfl (Ev_rg (ev_X12_takesPlain (D := (up (u_tk (u_tk D (448546567013 : Int64)) (32481164608499316 : Int64)) 95 a1 1)) g17) r12) rfl rfl) (fun c18 => ?_) (fun c18 => ?_)
      · replace hp := ip c18 hp
        refine ok (m_iconst (q := 53) rfl rfl rfl) ?_
        exact ok (m_retb rfl rfl ⟨by decide, by decide⟩) (ok_iq r16 ⟨by decide, by decide⟩ hp)
      · replace hp := iq c18 hp
        refine ok (m_aload_n (q := 55) rfl rfl rfl rfl) ?_
        refine ok (m_gfc (q := 58) rfl rfl rfl r16 rfl rfl rfl) ?_
        refine ok (m_iload_n (q := 59) rfl rfl rfl rfl) ?_
        refine ok (m_aload_n (q := 60) rfl rfl rfl rfl) ?_
        refine ok (m_gfs (z := 50) (q := 63) rfl rfl rfl r16 rfl rfl rfl rfl rfl) ?_
        refine oke (e_ias (q := 64) rfl rfl rfl r16 rfl rfl g14 (Rp_rg r16 70 50)) (fun s20 r19 => ?_)
        refine ok (m_aload_n (q := 65) rfl rfl rfl rfl) ?_
        refine ok (m_sipush (q := 68) rfl rfl rfl) ?_
        obtain ⟨g23, hp⟩ := hp
        refine oke (e_ci (x_cv (q := 71) rfl rfl rfl rfl rfl rfl rfl rfl rfl rfl (is_st r19 rfl rfl)) (ev_mn (D := (up (u_X12_takesPlain (up (u_tk (u_tk D (448546567013 : Int64)) (32481164608499316 : Int64)) 95 a1 1)) 96 a1 ((u_X12_takesPlain (up (u_tk (u_tk D (448546567013 : Int64)) (32481164608499316 : Int64)) 95 a1 1)) 70 50))) 300 ⟨by decide, by decide⟩ g23) (Nat.le_trans (by decide) (Nat.le_trans hc hd)) r19) (fun s21 r22 => ?_)
        refine okc (m_ifne (qt := 76) (qf := 74) rfl rfl (Ev_rg (ev_mn (D := (up (u_X12_takesPlain (up (u_tk (u_tk D (448546567013 : Int64)) (32481164608499316 : Int64)) 95 a1 1)) 96 a1 ((u_X12_takesPlain (up (u_tk (u_tk D (448546567013 : Int64)) (32481164608499316 : Int64)) 95 a1 1)) 70 50))) 300 ⟨by decide, by decide⟩ g23) r19) rfl rfl) (fun c24 => ?_) (fun c24 => ?_)
        · replace hp := ip c24 hp
          refine ok (m_iconst (q := 75) rfl rfl rfl) ?_
          exact ok (m_retb rfl rfl ⟨by decide, by decide⟩) (ok_iq r22 ⟨by decide, by decide⟩ hp)
        · replace hp := iq c24 hp
          refine ok (m_aload_n (q := 77) rfl rfl rfl rfl) ?_
          refine ok (m_gfc (q := 80) rfl rfl rfl r22 rfl rfl rfl) ?_
          refine ok (m_iload_n (q := 81) rfl rfl rfl rfl) ?_
          refine ok (m_aload_n (q := 82) rfl rfl rfl rfl) ?_
          refine ok (m_gfs (z := 50) (q := 85) rfl rfl rfl r22 rfl rfl rfl rfl rfl) ?_
          refine oke (e_ias (q := 86) rfl rfl rfl r22 rfl rfl g14 (Rp_rg r22 70 50)) (fun s26 r25 => ?_)
          refine ok (m_aload_n (q := 87) rfl rfl rfl rfl) ?_
          refine ok (m_iload_n (q := 88) rfl rfl rfl rfl) ?_
          obtain ⟨x29, D30, e31, hp⟩ := hp
          refine oke (e_ci (x_cv (q := 91) rfl rfl rfl rfl rfl rfl rfl rfl rfl rfl (is_st r25 rfl rfl)) e31.1 hd r25) (fun s27 r28 => ?_)
          exact ok (m_retb rfl rfl e31.2) (ok_iq r28 (Ev_rg e31.1 r25) hp)
  · replace hp := iq c4 hp
    refine ok (m_iconst (q := 16) rfl rfl rfl) ?_
    refine ok (m_goto (q := 34) rfl rfl rfl) ?_
    obtain ⟨g34, hp⟩ := hp
    refine oke (e_ias (q := 35) rfl rfl rfl r2 rfl rfl g34 ⟨by decide, by decide⟩) (fun s33 r32 => ?_)
    refine ok (m_aload_n (q := 36) rfl rfl rfl rfl) ?_
    refine ok (m_gfc (q := 39) rfl rfl rfl r32 rfl rfl rfl) ?_
    refine ok (m_iload_n (q := 40) rfl rfl rfl rfl) ?_
    refine ok (m_ials (q := 41) (w := 0) rfl rfl rfl r32 rfl rfl g34 up_eq) ?_
    refine ok (m_iconst (q := 42) rfl rfl rfl) ?_
    refine ok ((m_cmpeq (qt := 52) (qf := 45) rfl rfl (rg_c (Rp_rg r32 95 a1) up_eq) ⟨by decide, by decide⟩ rfl rfl).trans (if_neg (by decide))) ?_
    refine ok (m_aload_n (q := 46) rfl rfl rfl rfl) ?_
    obtain ⟨g37, hp⟩ := hp
    refine oke (e_ci (x_cv (q := 49) rfl rfl rfl rfl rfl rfl rfl rfl rfl rfl (is_st r32 rfl rfl)) (ev_X12_takesPlain (D := (up (u_tk D (448546567013 : Int64)) 95 a1 0)) g37) (Nat.le_trans (by decide) (Nat.le_trans hc hd)) r32) (fun s35 r36 => ?_)
    refine okc (m_ifne (qt := 54) (qf := 52) rfl rfl (Ev_rg (ev_X12_takesPlain (D := (up (u_tk D (448546567013 : Int64)) 95 a1 0)) g37) r32) rfl rfl) (fun c38 => ?_) (fun c38 => ?_)
    · replace hp := ip c38 hp
      refine ok (m_iconst (q := 53) rfl rfl rfl) ?_
      exact ok (m_retb rfl rfl ⟨by decide, by decide⟩) (ok_iq r36 ⟨by decide, by decide⟩ hp)
    · replace hp := iq c38 hp
      refine ok (m_aload_n (q := 55) rfl rfl rfl rfl) ?_
      refine ok (m_gfc (q := 58) rfl rfl rfl r36 rfl rfl rfl) ?_
      refine ok (m_iload_n (q := 59) rfl rfl rfl rfl) ?_
      refine ok (m_aload_n (q := 60) rfl rfl rfl rfl) ?_
      refine ok (m_gfs (z := 50) (q := 63) rfl rfl rfl r36 rfl rfl rfl rfl rfl) ?_
      refine oke (e_ias (q := 64) rfl rfl rfl r36 rfl rfl g34 (Rp_rg r36 70 50)) (fun s40 r39 => ?_)
      refine ok (m_aload_n (q := 65) rfl rfl rfl rfl) ?_
      refine ok (m_sipush (q := 68) rfl rfl rfl) ?_
      obtain ⟨g43, hp⟩ := hp
      refine oke (e_ci (x_cv (q := 71) rfl rfl rfl rfl rfl rfl rfl rfl rfl rfl (is_st r39 rfl rfl)) (ev_mn (D := (up (u_X12_takesPlain (up (u_tk D (448546567013 : Int64)) 95 a1 0)) 96 a1 ((u_X12_takesPlain (up (u_tk D (448546567013 : Int64)) 95 a1 0)) 70 50))) 300 ⟨by decide, by decide⟩ g43) (Nat.le_trans (by decide) (Nat.le_trans hc hd)) r39) (fun s41 r42 => ?_)
      refine okc (m_ifne (qt := 76) (qf := 74) rfl rfl (Ev_rg (ev_mn (D := (up (u_X12_takesPlain (up (u_tk D (448546567013 : Int64)) 95 a1 0)) 96 a1 ((u_X12_takesPlain (up (u_tk D (448546567013 : Int64)) 95 a1 0)) 70 50))) 300 ⟨by decide, by decide⟩ g43) r39) rfl rfl) (fun c44 => ?_) (fun c44 => ?_)
      · replace hp := ip c44 hp
        refine ok (m_iconst (q := 75) rfl rfl rfl) ?_
        exact ok (m_retb rfl rfl ⟨by decide, by decide⟩) (ok_iq r42 ⟨by decide, by decide⟩ hp)
      · replace hp := iq c44 hp
        refine ok (m_aload_n (q := 77) rfl rfl rfl rfl) ?_
        refine ok (m_gfc (q := 80) rfl rfl rfl r42 rfl rfl rfl) ?_
        refine ok (m_iload_n (q := 81) rfl rfl rfl rfl) ?_
        refine ok (m_aload_n (q := 82) rfl rfl rfl rfl) ?_
        refine ok (m_gfs (z := 50) (q := 85) rfl rfl rfl r42 rfl rfl rfl rfl rfl) ?_
        refine oke (e_ias (q := 86) rfl rfl rfl r42 rfl rfl g34 (Rp_rg r42 70 50)) (fun s46 r45 => ?_)
        refine ok (m_aload_n (q := 87) rfl rfl rfl rfl) ?_
        refine ok (m_iload_n (q := 88) rfl rfl rfl rfl) ?_
        obtain ⟨x49, D50, e51, hp⟩ := hp
        refine oke (e_ci (x_cv (q := 91) rfl rfl rfl rfl rfl rfl rfl rfl rfl rfl (is_st r45 rfl rfl)) e51.1 hd r45) (fun s47 r48 => ?_)
        exact ok (m_retb rfl rfl e51.2) (ok_iq r48 (Ev_rg e51.1 r45) hp)
/-- behind the side: two numbers and perhaps a condition -/
def feT (n : Nat) (A : aA) (V : aD) (k x : Int) (D' : aD) : Prop := (p_X12_takesPlain V) ∧ (if v_X12_takesPlain V = 0 then (x = 0 ∧ D' = (u_X12_takesPlain V)) else (p_mnum (up (u_X12_takesPlain V) 96 k ((u_X12_takesPlain V) 70 50)) 300) ∧ (if w_mn (up (u_X12_takesPlain V) 96 k ((u_X12_takesPlain V) 70 50)) 300 = 0 then (x = 0 ∧ D' = (u_mn (up (u_X12_takesPlain V) 96 k ((u_X12_takesPlain V) 70 50)) 300)) else (∃ x29 : Int, ∃ D30 : aD, (Ev (n + 1) 37 165 [am_r (some 70), am_i (wz k)] A (up (u_mn (up (u_X12_takesPlain V) 96 k ((u_X12_takesPlain V) 70 50)) 300) 97 k ((u_mn (up (u_X12_takesPlain V) 96 k ((u_X12_takesPlain V) 70 50)) 300) 70 50)) (ri x29) A D30 ∧ 0 ≤ x29 ∧ x29 ≤ 1) ∧ (x = x29 ∧ D' = D30))))
theorem feT_m {V : aD} (hT : Txt T N) {k : Int} (hk : 0 ≤ k ∧ k < 270) (hm : Mst T N a V) (h27 : 0 ≤ V 70 27) (hp : 25 * V 70 27 ≤ 104000 + 21 * a - 50) {r : Option (Option Itm)} {f : Int} (hr : Cr T N (tN T N (tN T N a)) r f) : ∃ x D', feT n A V k x D' ∧ Sfr k (V 70 27) V D' ∧ (0 ≤ x ∧ x ≤ 1) ∧ (¬ Nm T N a 9999 → x = 0 ∧ D' 70 30 = a) ∧ (Nm T N a 9999 → ¬ Nm T N (tN T N a) 300 → x = 0 ∧ D' 70 30 = tN T N a) ∧ (Nm T N a 9999 → Nm T N (tN T N a) 300 → CrM T N k V D' (tN T N (tN T N a)) x f r ∧ D' 94 = V 94 ∧ D' 95 = V 95 ∧ D' 96 k = nv T a (tE T N a) ∧ D' 97 k = nv T (tN T N a) (tE T N (tN T N a))) := by
  have ht := Mst_tok hT hm
  obtain ⟨p, y, z⟩ := mn_m hT hm 9999
  unfold feT p_X12_takesPlain v_X12_takesPlain u_X12_takesPlain
  by_cases q : Nm T N a 9999
  · obtain ⟨y1, y2, y3, y4⟩ := y q
    have f1 : Sfr k (V 70 27) V (up (u_mn V 9999) 96 k ((u_mn V 9999) 70 50)) := y3.sfr.ups ⟨by decide, by decide⟩
    have m1 : Mst T N (tN T N a) (up (u_mn V 9999) 96 k ((u_mn V 9999) 70 50)) := Mst_cg y2 (up_cf (by decide)) (up_c (by decide)) (up_c (by decide))
    have e96 : (up (u_mn V 9999) 96 k ((u_mn V 9999) 70 50)) 96 k = nv T a (tE T N a) := by rw [up_eq, y4]
    have e94 : (up (u_mn V 9999) 96 k ((u_mn V 9999) 70 50)) 94 = V 94 := by rw [up_cf (by decide), y3.1 94 (by decide)]
    have e95 : (up (u_mn V 9999) 96 k ((u_mn V 9999) 70 50)) 95 = V 95 := by rw [up_cf (by decide), y3.1 95 (by decide)]
    have e27 : (up (u_mn V 9999) 96 k ((u_mn V 9999) 70 50)) 70 27 = V 70 27 := by rw [up_c (by decide), y3.2 27 (by decide) (by decide) (by decide)]
    rw [y1]
    generalize up (u_mn V 9999) 96 k ((u_mn V 9999) 70 50) = Q at *
    obtain ⟨t1, t2, t3, t4⟩ := tN_tok ht
    obtain ⟨s1, s2, s3, s4⟩ := tN_tok t1
    obtain ⟨p', y', z'⟩ := mn_m hT m1 300
    by_cases q' : Nm T N (tN T N a) 300
    · obtain ⟨w1, w2, w3, w4⟩ := y' q'
      have m2 : Mst T N (tN T N (tN T N a)) (up (u_mn Q 300) 97 k ((u_mn Q 300) 70 50)) := Mst_cg w2 (up_cf (by decide)) (up_c (by decide)) (up_c (by decide))
      have g27 : (up (u_mn Q 300) 97 k ((u_mn Q 300) 70 50)) 70 27 = V 70 27 := by rw [up_c (by decide), w3.2 27 (by decide) (by decide) (by decide), e27]
      have f2 : Sfr k (V 70 27) V (up (u_mn Q 300) 97 k ((u_mn Q 300) 70 50)) := (f1.trans w3.sfr).ups ⟨by decide, by decide⟩
      obtain ⟨x, D', c1, c2, c3, c4, c5⟩ := Cr_m (n := n) (A := A) hT hr hk m2 (by omega) (by omega)
      rw [g27] at c3
      refine ⟨x, D', ⟨p, ?_⟩, f2.trans c3, c1, fun g => absurd q g, fun _ g => absurd q' g, fun _ _ => ⟨?_, ?_, ?_, ?_, ?_⟩⟩
      · rw [if_neg (by decide)]
        refine ⟨p', ?_⟩
        rw [w1, if_neg (by decide)]
        exact ⟨x, D', ⟨c2, c1⟩, rfl, rfl⟩
      · cases r with
        | none => exact c5
        | some s =>
          cases s with
          | none => exact ⟨c5.1, c5.2.1, c5.2.2.1, by rw [c5.2.2.2, g27]⟩
          | some v =>
            obtain ⟨d1, d2, d3, d4, d5, d6⟩ := c5
            rw [g27] at d3 d4 d5 d6
            exact ⟨d1, d2, d3, d4, d5, d6⟩
      · rw [c4 94 (by decide) (by decide), up_cf (by decide), w3.1 94 (by decide), e94]
      · rw [c4 95 (by decide) (by decide), up_cf (by decide), w3.1 95 (by decide), e95]
      · rw [c4 96 (by decide) (by decide), up_cf (by decide), w3.1 96 (by decide), e96]
      · rw [c4 97 (by decide) (by decide), up_eq, w4]
    · obtain ⟨w1, w2, w3, w4⟩ := z' q'
      refine ⟨0, u_mn Q 300, ⟨p, ?_⟩, f1.trans w3.sfr, ⟨by decide, by decide⟩, fun g => absurd q g, fun _ _ => ⟨rfl, w4⟩, fun _ g => absurd g q'⟩
      rw [if_neg (by decide)]
      refine ⟨p', ?_⟩
      rw [w1, if_pos rfl]
      exact ⟨rfl, rfl⟩
  · obtain ⟨y1, y2, y3, y4⟩ := z q
    refine ⟨0, u_mn V 9999, ⟨p, ?_⟩, y3.sfr, ⟨by decide, by decide⟩, fun _ => ⟨rfl, y4⟩, fun g => absurd g q, fun g => absurd g q⟩
    rw [y1, if_pos rfl]
    exact ⟨rfl, rfl⟩
end Mfe
