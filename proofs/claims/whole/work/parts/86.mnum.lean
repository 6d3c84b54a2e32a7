/-! Numbers as the reference reads them. -/
section Mnu
variable {n : Nat} {A : aA} {D : aD}
def rdv (T : Int → Int) (a e : Int) : Int := nvF T a (if e - a ≤ 4 then (e - a).toNat else 4)
def dEnd (D : aD) : Int := rn (ofP (D 107) 2) (D 70 29) (tS (D 107) (D 70 29) (D 70 30))
def aNow (D : aD) : Int := tS (D 107) (D 70 29) (D 70 30)
abbrev isM (D : aD) (m : Int) : Prop := dEnd D ≠ aNow D ∧ dEnd D - aNow D ≤ 4 ∧ rdv (D 107) (aNow D) (dEnd D) ≤ m
def w_mnum (D : aD) (m : Int) : Int := if isM D m then 1 else 0
def u_mnum (D : aD) (m : Int) : aD := if isM D m then up (up (u_blk D) 70 50 (rdv (D 107) (aNow D) (dEnd D))) 70 30 (dEnd D) else up (u_blk D) 70 50 (rdv (D 107) (aNow D) (dEnd D))
def p_mnum (D : aD) (_ : Int) : Prop := p_blk D
theorem rdv_b {T : Int → Int} {a e : Int} (h : a ≤ e) (hd : ∀ i, a ≤ i → i < e → kc (T i) = 2) : 0 ≤ rdv T a e ∧ rdv T a e ≤ 9999 := by
  unfold rdv
  have h1 := nvF_b (T := T) (a := a) (if e - a ≤ 4 then (e - a).toNat else 4) (fun i i1 i2 => hd i i1 (by split at i2 <;> omega))
  have h2 := ten_le (if e - a ≤ 4 then (e - a).toNat else 4) (by split <;> omega)
  omega
abbrev P_X12_takesNumber : Nat → Option am_E := am_fy tb_X12_takesNumber
def K_X12_takesNumber_14 (n : Nat) (A : aA) (D : aD) (a1 : Int) (a2 : Int) (x : Int) (D' : aD) : Prop := Lp n 1 P_X12_takesNumber 14 [some (am_r (some 70)), some (am_i (wz a1)), some (am_i (wz a2))] [] A D (ri x) A D'
set_option maxRecDepth 100000 in
theorem rl_X12_takesNumber {n : Nat} {A : aA} {D D' : aD} (a1 : Int) (h1 : rg a1) {x : Int} (hp : (p_blk D) ∧ K_X12_takesNumber_14 (n + 1) A (up (u_blk D) 70 50 0) a1 ((u_blk D) 70 30) x D') : Ev (n + 1) (2) 157 [am_r (some 70), am_i (wz a1)] A D (ri x) A D' := by
  refine Ev_of (c := 1) (P := P_X12_takesNumber) (lo := [some (am_r (some 70)), some (am_i (wz a1)), none]) rfl rfl rfl (fun d hd s hr => ?_)
  refine ok (m_aload_n (q := 1) rfl rfl rfl rfl) ?_
  obtain ⟨g3, hp⟩ := hp
  refine oke (e_cvd (x_cv (q := 4) rfl rfl rfl rfl rfl rfl rfl rfl rfl rfl (is_st hr rfl rfl)) (ev_X12_blanks (D := D) g3) (Nat.le_trans (by decide) hd) hr) (fun s1 r2 => ?_)
  refine ok (m_aload_n (q := 5) rfl rfl rfl rfl) ?_
  refine ok (m_gfs (z := 30) (q := 8) rfl rfl rfl r2 rfl rfl rfl rfl rfl) ?_
  refine ok (m_istore_n (q := 9) (lo' := [some (am_r (some 70)), some (am_i (wz a1)), some (am_i (wz ((u_blk D) 70 30)))]) rfl rfl rfl rfl rfl) ?_
  refine ok (m_aload_n (q := 10) rfl rfl rfl rfl) ?_
  refine ok (m_iconst (q := 11) rfl rfl rfl) ?_
  refine oke (e_pfs (q := 14) rfl rfl rfl r2 rfl rfl rfl rfl ⟨by decide, by decide⟩) (fun s5 r4 => ?_)
  exact hp d hd _ r4
set_option maxRecDepth 100000 in
theorem rl_X12_takesNumber_14 {n : Nat} {A : aA} {D D' : aD} (a1 : Int) (a2 : Int) (h1 : rg a1) (h2 : rg a2) {x : Int} (hp : (if D 70 29 ≤ a2 then (if a2 = D 70 30 then (x = 0 ∧ D' = D) else (if 4 < wr (a2 - (D 70 30)) then (x = 0 ∧ D' = D) else (if D 70 50 ≤ a1 then (x = 1 ∧ D' = (up D 70 30 a2)) else (x = 0 ∧ D' = D)))) else (0 ≤ a2 ∧ a2 < 700) ∧ (if D 107 a2 < 48 then (if a2 = D 70 30 then (x = 0 ∧ D' = D) else (if 4 < wr (a2 - (D 70 30)) then (x = 0 ∧ D' = D) else (if D 70 50 ≤ a1 then (x = 1 ∧ D' = (up D 70 30 a2)) else (x = 0 ∧ D' = D)))) else (if 57 < D 107 a2 then (if a2 = D 70 30 then (x = 0 ∧ D' = D) else (if 4 < wr (a2 - (D 70 30)) then (x = 0 ∧ D' = D) else (if D 70 50 ≤ a1 then (x = 1 ∧ D' = (up D 70 30 a2)) else (x = 0 ∧ D' = D)))) else (if 4 ≤ wr (a2 - (D 70 30)) then K_X12_takesNumber_14 (n + 1) A D a1 (wr (a2 + 1)) x D' else K_X12_takesNumber_14 (n + 1) A (up D 70 50 (wr ((wr ((wr (10 * (D 70 50))) + (D 107 a2))) - 48))) a1 (wr (a2 + 1)) x D'))))) : K_X12_takesNumber_14 (n + 1) A D a1 a2 x D' := by
  unfold K_X12_takesNumber_14
  refine fun d hd s hr => ?_
  refine ok (m_iload_n (q := 15) rfl rfl rfl rfl) ?_
  refine ok (m_aload_n (q := 16) rfl rfl rfl rfl) ?_
  refine ok (m_gfs (z := 29) (q := 19) rfl rfl rfl hr rfl rfl rfl rfl rfl) ?_
  refine okc (m_cmpge (qt := 81) (qf := 22) rfl rfl h2 (Rp_rg hr 70 29) rfl rfl) (fun c6 => ?_) (fun c6 => ?_)
  · replace hp := ip c6 hp
    refine ok (m_iload_n (q := 82) rfl rfl rfl rfl) ?_
    refine ok (m_aload_n (q := 83) rfl rfl rfl rfl) ?_
    refine ok (m_gfs (z := 30) (q := 86) rfl rfl rfl hr rfl rfl rfl rfl rfl) ?_
    refine okc (m_cmpeq (qt := 107) (qf := 89) rfl rfl h2 (Rp_rg hr 70 30) rfl rfl) (fun c7 => ?_) (fun c7 => ?_)
    · replace hp := ip c7 hp
      refine ok (m_iconst (q := 108) rfl rfl rfl) ?_
      exact ok (m_retb rfl rfl ⟨by decide, by decide⟩) (ok_iq hr ⟨by decide, by decide⟩ hp)
    · replace hp := iq c7 hp
      refine ok (m_iload_n (q := 90) rfl rfl rfl rfl) ?_
      refine ok (m_aload_n (q := 91) rfl rfl rfl rfl) ?_
      refine ok (m_gfs (z := 30) (q := 94) rfl rfl rfl hr rfl rfl rfl rfl rfl) ?_
      refine ok (m_isub (q := 95) rfl rfl rfl) ?_
      refine ok (m_iconst (q := 96) rfl rfl rfl) ?_
      refine okc (m_cmpgt (qt := 107) (qf := 99) rfl rfl (rg_wr _) ⟨by decide, by decide⟩ rfl rfl) (fun c8 => ?_) (fun c8 => ?_)
      · replace hp := ip c8 hp
        refine ok (m_iconst (q := 108) rfl rfl rfl) ?_
        exact ok (m_retb rfl rfl ⟨by decide, by decide⟩) (ok_iq hr ⟨by decide, by decide⟩ hp)
      · replace hp := iq c8 hp
        refine ok (m_aload_n (q := 100) rfl rfl rfl rfl) ?_
        refine ok (m_gfs (z := 50) (q := 103) rfl rfl rfl hr rfl rfl rfl rfl rfl) ?_
        refine ok (m_iload_n (q := 104) rfl rfl rfl rfl) ?_
        refine okc (m_cmple (qt := 109) (qf := 107) rfl rfl (Rp_rg hr 70 50) h1 rfl rfl) (fun c9 => ?_) (fun c9 => ?_)
        · replace hp := ip c9 hp
          refine ok (m_aload_n (q := 110) rfl rfl rfl rfl) ?_
          refine ok (m_iload_n (q := 111) rfl rfl rfl rfl) ?_
          refine oke (e_pfs (q := 114) rfl rfl rfl hr rfl rfl rfl rfl h2) (fun s11 r10 => ?_)
          refine ok (m_iconst (q := 115) rfl rfl rfl) ?_
          exact ok (m_retb rfl rfl ⟨by decide, by decide⟩) (ok_iq r10 ⟨by decide, by decide⟩ hp)
        · replace hp := iq c9 hp
          refine ok (m_iconst (q := 108) rfl rfl rfl) ?_
          exact ok (m_retb rfl rfl ⟨by decide, by decide⟩) (ok_iq hr ⟨by decide, by decide⟩ hp)
  · replace hp := iq c6 hp
    refine ok (m_aload_n (q := 23) rfl rfl rfl rfl) ?_
    refine ok (m_gfc (q := 26) rfl rfl rfl hr rfl rfl rfl) ?_
    refine ok (m_iload_n (q := 27) rfl rfl rfl rfl) ?_
    obtain ⟨g12, hp⟩ := hp
    refine ok (m_bals (q := 28) rfl rfl rfl hr rfl rfl g12 rfl) ?_
    refine ok (m_bipush (q := 30) rfl rfl rfl) ?_
    refine okc (m_cmplt (qt := 81) (qf := 33) rfl rfl (Rp_rg hr 107 a2) ⟨by decide, by decide⟩ rfl rfl) (fun c13 => ?_) (fun c13 => ?_)
    · replace hp := ip c13 hp
      refine ok (m_iload_n (q := 82) rfl rfl rfl rfl) ?_
      refine ok (m_aload_n (q := 83) rfl rfl rfl rfl) ?_
      refine ok (m_gfs (z := 30) (q := 86) rfl rfl rfl hr rfl rfl rfl rfl rfl) ?_
      refine okc (m_cmpeq (qt := 107) (qf := 89) rfl rfl h2 (Rp_rg hr 70 30) rfl rfl) (fun c14 => ?_) (fun c14 => ?_)
      · replace hp := ip c14 hp
        refine ok (m_iconst (q := 108) rfl rfl rfl) ?_
        exact ok (m_retb rfl rfl ⟨by decide, by decide⟩) (ok_iq hr ⟨by decide, by decide⟩ hp)
      · replace hp := iq c14 hp
        refine ok (m_iload_n (q := 90) rfl rfl rfl rfl) ?_
        refine ok (m_aload_n (q := 91) rfl rfl rfl rfl) ?_
        refine ok (m_gfs (z := 30) (q := 94) rfl rfl rfl hr rfl rfl rfl rfl rfl) ?_
        refine ok (m_isub (q := 95) rfl rfl rfl) ?_
        refine ok (m_iconst (q := 96) rfl rfl rfl) ?_
        refine okc (m_cmpgt (qt := 107) (qf := 99) rfl rfl (rg_wr _) ⟨by decide, by decide⟩ rfl rfl) (fun c15 => ?_) (fun c15 => ?_)
        · replace hp := ip c15 hp
          refine ok (m_iconst (q := 108) rfl rfl rfl) ?_
          exact ok (m_retb rfl rfl ⟨by decide, by decide⟩) (ok_iq hr ⟨by decide, by decide⟩ hp)
        · replace hp := iq c15 hp
          refine ok (m_aload_n (q := 100) rfl rfl rfl rfl) ?_
          refine ok (m_gfs (z := 50) (q := 103) rfl rfl rfl hr rfl rfl rfl rfl rfl) ?_
          refine ok (m_iload_n (q := 104) rfl rfl rfl rfl) ?_
          refine okc (m_cmple (qt := 109) (qf := 107) rfl rfl (Rp_rg hr 70 50) h1 rfl rfl) (fun c16 => ?_) (fun c16 => ?_)
          · replace hp := ip c16 hp
            refine ok (m_aload_n (q := 110) rfl rfl rfl rfl) ?_
            refine ok (m_iload_n (q := 111) rfl rfl rfl rfl) ?_
            refine oke (e_pfs (q := 114) rfl rfl rfl hr rfl rfl rfl rfl h2) (fun s18 r17 => ?_)
            refine ok (m_iconst (q := 115) rfl rfl rfl) ?_
            exact ok (m_retb rfl rfl ⟨by decide, by decide⟩) (ok_iq r17 ⟨by decide, by decide⟩ hp)
          · replace hp := iq c16 hp
            refine ok (m_iconst (q := 108) rfl rfl rfl) ?_
            exact ok (m_retb rfl rfl ⟨by decide, by decide⟩) (ok_iq hr ⟨by decide, by decide⟩ hp)
    · replace hp := iq c13 hp
      refine ok (m_aload_n (q := 34) rfl rfl rfl rfl) ?_
      refine ok (m_gfc (q := 37) rfl rfl rfl hr rfl rfl rfl) ?_
      refine ok (m_iload_n (q := 38) rfl rfl rfl rfl) ?_
      refine ok (m_bals (q := 39) rfl rfl rfl hr rfl rfl g12 rfl) ?_
      refine ok (m_bipush (q := 41) rfl rfl rfl) ?_
      refine okc (m_cmpgt (qt := 81) (qf := 44) rfl rfl (Rp_rg hr 107 a2) ⟨by decide, by decide⟩ rfl rfl) (fun c19 => ?_) (fun c19 => ?_)
      · replace hp := ip c19 hp
        refine ok (m_iload_n (q := 82) rfl rfl rfl rfl) ?_
        refine ok (m_aload_n (q := 83) rfl rfl rfl rfl) ?_
        refine ok (m_gfs (z := 30) (q := 86) rfl rfl rfl hr rfl rfl rfl rfl rfl) ?_
        refine okc (m_cmpeq (qt := 107) (qf := 89) rfl rfl h2 (Rp_rg hr 70 30) rfl rfl) (fun c20 => ?_) (fun c20 => ?_)
        · replace hp := ip c20 hp
          refine ok (m_iconst (q := 108) rfl rfl rfl) ?_
          exact ok (m_retb rfl rfl ⟨by decide, by decide⟩) (ok_iq hr ⟨by decide, by decide⟩ hp)
        · replace hp := iq c20 hp
          refine ok (m_iload_n (q := 90) rfl rfl rfl rfl) ?_
          refine ok (m_aload_n (q := 91) rfl rfl rfl rfl) ?_
          refine ok (m_gfs (z := 30) (q := 94) rfl rfl rfl hr rfl rfl rfl rfl rfl) ?_
          refine ok (m_isub (q := 95) rfl rfl rfl) ?_
          refine ok (m_iconst (q := 96) rfl rfl rfl) ?_
          refine okc (m_cmpgt (qt := 107) (qf := 99) rfl rfl (rg_wr _) ⟨by decide, by decide⟩ rfl rfl) (fun c21 => ?_) (fun c21 => ?_)
          · replace hp := ip c21 hp
            refine ok (m_iconst (q := 108) rfl rfl rfl) ?_
            exact ok (m_retb rfl rfl ⟨by decide, by decide⟩) (ok_iq hr ⟨by decide, by decide⟩ hp)
          · replace hp := iq c21 hp
            refine ok (m_aload_n (q := 100) rfl rfl rfl rfl) ?_
            refine ok (m_gfs (z := 50) (q := 103) rfl rfl rfl hr rfl rfl rfl rfl rfl) ?_
            refine ok (m_iload_n (q := 104) rfl rfl rfl rfl) ?_
            refine okc (m_cmple (qt := 109) (qf := 107) rfl rfl (Rp_rg hr 70 50) h1 rfl rfl) (fun c22 => ?_) (fun c22 => ?_)
            · replace hp := ip c22 hp
              refine ok (m_aload_n (q := 110) rfl rfl rfl rfl) ?_
              refine ok (m_iload_n (q := 111) rfl rfl rfl rfl) ?_
              refine oke (e_pfs (q := 114) rfl rfl rfl hr rfl rfl rfl rfl h2) (fun s24 r23 => ?_)
              refine ok (m_iconst (q := 115) rfl rfl rfl) ?_
              exact ok (m_retb rfl rfl ⟨by decide, by decide⟩) (ok_iq r23 ⟨by decide, by decide⟩ hp)
            · replace hp := iq c22 hp
              refine ok (m_iconst (q := 108) rfl rfl rfl) ?_
              exact ok (m_retb rfl rfl ⟨by decide, by decide⟩) (ok_iq hr ⟨by decide, by decide⟩ hp)
      · replace hp := iq c19 hp
        refine ok (m_iload_n (q := 45) rfl rfl rfl rfl) ?_
        refine ok (m_aload_n (q := 46) rfl rfl rfl rfl) ?_
        refine ok (m_gfs (z := 30) (q := 49) rfl rfl rfl hr rfl rfl rfl rfl rfl) ?_
        refine ok (m_isub (q := 50) rfl rfl rfl) ?_
        refine ok (m_iconst (q := 51) rfl rfl rfl) ?_
        refine okc (m_cmpge (qt := 75) (qf := 54) rfl rfl (rg_wr _) ⟨by decide, by decide⟩ rfl rfl) (fun c25 => ?_) (fun c25 => ?_)
        · replace hp := ip c25 hp
          refine ok (m_iinc (q := 78) (lo' := [some (am_r (some 70)), some (am_i (wz a1)), some (am_i (wz (wr (a2 + 1))))]) rfl rfl rfl rfl rfl rfl rfl) ?_
          refine ok (m_goto (q := 14) rfl rfl rfl) ?_
          exact hp d hd _ hr
        · replace hp := iq c25 hp
          refine ok (m_aload_n (q := 55) rfl rfl rfl rfl) ?_
          refine ok (m_bipush (q := 57) rfl rfl rfl) ?_
          refine ok (m_aload_n (q := 58) rfl rfl rfl rfl) ?_
          refine ok (m_gfs (z := 50) (q := 61) rfl rfl rfl hr rfl rfl rfl rfl rfl) ?_
          refine ok (m_imul (q := 62) rfl rfl rfl) ?_
          refine ok (m_aload_n (q := 63) rfl rfl rfl rfl) ?_
          refine ok (m_gfc (q := 66) rfl rfl rfl hr rfl rfl rfl) ?_
          refine ok (m_iload_n (q := 67) rfl rfl rfl rfl) ?_
          refine ok (m_bals (q := 68) rfl rfl rfl hr rfl rfl g12 rfl) ?_
          refine ok (m_iadd (q := 69) rfl rfl rfl) ?_
          refine ok (m_bipush (q := 71) rfl rfl rfl) ?_
          refine ok (m_isub (q := 72) rfl rfl rfl) ?_
          refine oke (e_pfs (q := 75) rfl rfl rfl hr rfl rfl rfl rfl (rg_wr _)) (fun s27 r26 => ?_)
          refine ok (m_iinc (q := 78) (lo' := [some (am_r (some 70)), some (am_i (wz a1)), some (am_i (wz (wr (a2 + 1))))]) rfl rfl rfl rfl rfl rfl rfl) ?_
          refine ok (m_goto (q := 14) rfl rfl rfl) ?_
          exact hp d hd _ r26
theorem K_mnum {E : aD} {T : Int → Int} {N a m : Int} (hm : rg m) (h107 : E 107 = T) (h29 : E 70 29 = N) (h30 : E 70 30 = a) (h0 : 0 ≤ a) (hN : N ≤ 700) : ∀ (r : Nat) (z : Int), z + r = N → a ≤ z → (∀ i, a ≤ i → i < z → kc (T i) = 2) → ∀ e, e = rn (ofP T 2) N z → K_X12_takesNumber_14 (n + 1) A (up E 70 50 (rdv T a z)) m z (if e ≠ a ∧ e - a ≤ 4 ∧ rdv T a e ≤ m then 1 else 0) (if e ≠ a ∧ e - a ≤ 4 ∧ rdv T a e ≤ m then up (up E 70 50 (rdv T a e)) 70 30 e else up E 70 50 (rdv T a e)) := by
  have stop : ∀ z, a ≤ z → z ≤ N → (if z = a then ((if z ≠ a ∧ z - a ≤ 4 ∧ rdv T a z ≤ m then (1 : Int) else 0) = 0 ∧ (if z ≠ a ∧ z - a ≤ 4 ∧ rdv T a z ≤ m then up (up E 70 50 (rdv T a z)) 70 30 z else up E 70 50 (rdv T a z)) = up E 70 50 (rdv T a z)) else (if 4 < wr (z - a) then ((if z ≠ a ∧ z - a ≤ 4 ∧ rdv T a z ≤ m then (1 : Int) else 0) = 0 ∧ (if z ≠ a ∧ z - a ≤ 4 ∧ rdv T a z ≤ m then up (up E 70 50 (rdv T a z)) 70 30 z else up E 70 50 (rdv T a z)) = up E 70 50 (rdv T a z)) else (if rdv T a z ≤ m then ((if z ≠ a ∧ z - a ≤ 4 ∧ rdv T a z ≤ m then (1 : Int) else 0) = 1 ∧ (if z ≠ a ∧ z - a ≤ 4 ∧ rdv T a z ≤ m then up (up E 70 50 (rdv T a z)) 70 30 z else up E 70 50 (rdv T a z)) = up (up E 70 50 (rdv T a z)) 70 30 z) else ((if z ≠ a ∧ z - a ≤ 4 ∧ rdv T a z ≤ m then (1 : Int) else 0) = 0 ∧ (if z ≠ a ∧ z - a ≤ 4 ∧ rdv T a z ≤ m then up (up E 70 50 (rdv T a z)) 70 30 z else up E 70 50 (rdv T a z)) = up E 70 50 (rdv T a z))))) := by
    intro z z1 z2
    rw [wr_id (by omega) (by omega)]
    by_cases c1 : z = a
    · have hn : ¬ (z ≠ a ∧ z - a ≤ 4 ∧ rdv T a z ≤ m) := fun q => q.1 c1
      rw [if_pos c1, if_neg hn, if_neg hn]; exact ⟨rfl, rfl⟩
    · rw [if_neg c1]
      by_cases c2 : 4 < z - a
      · have hn : ¬ (z ≠ a ∧ z - a ≤ 4 ∧ rdv T a z ≤ m) := fun q => by have := q.2.1; omega
        rw [if_pos c2, if_neg hn, if_neg hn]; exact ⟨rfl, rfl⟩
      · rw [if_neg c2]
        by_cases c3 : rdv T a z ≤ m
        · have hn : z ≠ a ∧ z - a ≤ 4 ∧ rdv T a z ≤ m := ⟨c1, by omega, c3⟩
          rw [if_pos c3, if_pos hn, if_pos hn]; exact ⟨rfl, rfl⟩
        · have hn : ¬ (z ≠ a ∧ z - a ≤ 4 ∧ rdv T a z ≤ m) := fun q => c3 q.2.2
          rw [if_neg c3, if_neg hn, if_neg hn]; exact ⟨rfl, rfl⟩
  intro r
  induction r with
  | zero =>
    intro z e z0 hz w hw
    refine rl_X12_takesNumber_14 m z hm (rgb (by omega) (by omega)) ?_
    simp only [up_eq, up_i (show (29 : Int) ≠ 50 by decide), up_i (show (30 : Int) ≠ 50 by decide), h29, h30]
    rw [rn_end (by omega)] at hw
    subst hw
    rw [if_pos (by omega)]
    exact stop w z0 (by omega)
  | succ r ih =>
    intro z e z0 hz w hw
    refine rl_X12_takesNumber_14 m z hm (rgb (by omega) (by omega)) ?_
    simp only [up_eq, up_i (show (29 : Int) ≠ 50 by decide), up_i (show (30 : Int) ≠ 50 by decide), up_cf (show (107 : Nat) ≠ 70 by decide), up_up, h29, h30, h107]
    rw [if_neg (by omega)]
    refine ⟨⟨by omega, by omega⟩, ?_⟩
    by_cases q : kc (T z) = 2
    · have q' := kc2.mp q
      have hz' : ∀ i, a ≤ i → i ≤ z → kc (T i) = 2 := fun i i1 i2 => by
        by_cases g : i = z
        · rw [g]; exact q
        · exact hz i i1 (by omega)
      rw [rn_yes (by unfold ofP; exact decide_eq_true q) (by omega)] at hw
      have hi := ih (z + 1) (by omega) (by omega) (fun i i1 i2 => hz' i i1 (by omega)) w hw
      have hb := rdv_b (T := T) z0 hz
      rw [if_neg (by omega), if_neg (by omega), wr_id (z := z - a) (by omega) (by omega), wr_id (z := z + 1) (by omega) (by omega), wr_id (z := 10 * rdv T a z) (by omega) (by omega), wr_id (z := 10 * rdv T a z + T z) (by omega) (by omega), wr_id (z := 10 * rdv T a z + T z - 48) (by omega) (by omega)]
      by_cases q4 : 4 ≤ z - a
      · rw [if_pos q4]
        have e1 : rdv T a (z + 1) = rdv T a z := by
          unfold rdv
          rw [if_neg (by omega)]
          by_cases g : z - a ≤ 4
          · rw [if_pos g, show (z - a).toNat = 4 by omega]
          · rw [if_neg g]
        rw [e1] at hi
        exact hi
      · rw [if_neg q4]
        have e1 : rdv T a (z + 1) = 10 * rdv T a z + T z - 48 := by
          unfold rdv
          rw [if_pos (by omega), if_pos (by omega), show (z + 1 - a).toNat = (z - a).toNat + 1 by omega]
          show 10 * nvF T a (z - a).toNat + T (a + ((z - a).toNat : Int)) - 48 = _
          rw [show a + (((z - a).toNat : Nat) : Int) = z by omega]
        rw [e1] at hi
        exact hi
    · have q' : ¬ (48 ≤ T z ∧ T z ≤ 57) := fun g => q (kc2.mpr g)
      rw [rn_no (by unfold ofP; exact decide_eq_false q)] at hw
      subst hw
      by_cases g : T w < 48
      · rw [if_pos g]; exact stop w z0 (by omega)
      · rw [if_neg g, if_pos (by omega)]; exact stop w z0 (by omega)
theorem ev_X12_takesNumber (m : Int) (hm : rg m) (hp : p_mnum D m) : Ev (n + 1) 2 157 [am_r (some 70), am_i (wz m)] A D (ri (w_mnum D m)) A (u_mnum D m) := by
  refine rl_X12_takesNumber m hm ⟨hp, ?_⟩
  obtain ⟨a, b, c⟩ := hp
  have hs := tS_b (T := D 107) b
  have e1 : u_blk D 70 30 = aNow D := up_eq
  have e2 : u_blk D 70 29 = D 70 29 := up_i (by decide)
  have e3 : u_blk D 107 = D 107 := up_cf (by decide)
  have hs' : D 70 30 ≤ aNow D ∧ aNow D ≤ D 70 29 := hs
  have := K_mnum (n := n) (A := A) hm e3 e2 e1 (by omega) c (D 70 29 - aNow D).toNat (aNow D) (by omega) (Int.le_refl _) (fun i i1 i2 => absurd i2 (by omega)) (dEnd D) rfl
  rw [show rdv (D 107) (aNow D) (aNow D) = 0 by unfold rdv; rw [if_pos (by omega), show (aNow D - aNow D).toNat = 0 by omega]; rfl] at this
  rw [e1]
  exact this
theorem fl_X12_takesNumber (D : aD) (m : Int) (t : Nat) (i : Int) (ht : Nat.ble t 49 = true) : u_mnum D m (900 + t) i = D (900 + t) i := by
  unfold u_mnum
  split
  · rw [up_c (by omega), up_c (by omega)]; exact fl_X12_blanks D t i ht
  · rw [up_c (by omega)]; exact fl_X12_blanks D t i ht
theorem b_mnum (D : aD) (m : Int) : 0 ≤ w_mnum D m ∧ w_mnum D m ≤ 1 := by unfold w_mnum; split <;> omega
theorem tk_ex : ∃ f : (aD → Int64 → Int) × (aD → Int64 → aD), f = (v_X12_takes, u_X12_takes) := ⟨_, rfl⟩
noncomputable def tkP : (aD → Int64 → Int) × (aD → Int64 → aD) := Classical.choose tk_ex
noncomputable def w_tk (D : aD) (l : Int64) : Int := tkP.1 D l
noncomputable def u_tk (D : aD) (l : Int64) : aD := tkP.2 D l
theorem w_tk_eq (D : aD) (l : Int64) : w_tk D l = v_X12_takes D l := by unfold w_tk tkP; rw [Classical.choose_spec tk_ex]
theorem u_tk_eq (D : aD) (l : Int64) : u_tk D l = u_X12_takes D l := by unfold u_tk tkP; rw [Classical.choose_spec tk_ex]
theorem ev_tk (l : Int64) (hp : p_X12_takes D l) : Ev (n + 1) 3 155 [am_r (some 70), am_l l] A D (ri (w_tk D l)) A (u_tk D l) := by rw [w_tk_eq, u_tk_eq]; exact ev_X12_takes l hp
theorem fl_tk (D : aD) (l : Int64) (t : Nat) (i : Int) (ht : Nat.ble t 49 = true) : u_tk D l (900 + t) i = D (900 + t) i := by rw [u_tk_eq]; exact fl_X12_takes D l t i ht
theorem b_tk (D : aD) (l : Int64) : 0 ≤ w_tk D l ∧ w_tk D l ≤ 1 := by rw [w_tk_eq]; exact b_X12_takes D l
theorem sg_ex : ∃ f : (aD → Int → Int) × (aD → Int → aD), f = (v_X12_takesSign, u_X12_takesSign) := ⟨_, rfl⟩
noncomputable def sgP : (aD → Int → Int) × (aD → Int → aD) := Classical.choose sg_ex
noncomputable def w_sg (D : aD) (a : Int) : Int := sgP.1 D a
noncomputable def u_sg (D : aD) (a : Int) : aD := sgP.2 D a
theorem w_sg_eq (D : aD) (a : Int) : w_sg D a = v_X12_takesSign D a := by unfold w_sg sgP; rw [Classical.choose_spec sg_ex]
theorem u_sg_eq (D : aD) (a : Int) : u_sg D a = u_X12_takesSign D a := by unfold u_sg sgP; rw [Classical.choose_spec sg_ex]
theorem ev_sg (a : Int) (h1 : rg a) (hp : p_X12_takesSign D a) : Ev (n + 1) 2 156 [am_r (some 70), am_i (wz a)] A D (ri (w_sg D a)) A (u_sg D a) := by rw [w_sg_eq, u_sg_eq]; exact ev_X12_takesSign a h1 hp
theorem fl_sg (D : aD) (a : Int) (t : Nat) (i : Int) (ht : Nat.ble t 49 = true) : u_sg D a (900 + t) i = D (900 + t) i := by rw [u_sg_eq]; exact fl_X12_takesSign D a t i ht
theorem b_sg (D : aD) (a : Int) : 0 ≤ w_sg D a ∧ w_sg D a ≤ 1 := by rw [w_sg_eq]; exact b_X12_takesSign D a
theorem mn_ex : ∃ f : (aD → Int → Int) × (aD → Int → aD), f = (w_mnum, u_mnum) := ⟨_, rfl⟩
noncomputable def mnP : (aD → Int → Int) × (aD → Int → aD) := Classical.choose mn_ex
noncomputable def w_mn (D : aD) (m : Int) : Int := mnP.1 D m
noncomputable def u_mn (D : aD) (m : Int) : aD := mnP.2 D m
theorem w_mn_eq (D : aD) (m : Int) : w_mn D m = w_mnum D m := by unfold w_mn mnP; rw [Classical.choose_spec mn_ex]
theorem u_mn_eq (D : aD) (m : Int) : u_mn D m = u_mnum D m := by unfold u_mn mnP; rw [Classical.choose_spec mn_ex]
theorem ev_mn (m : Int) (h1 : rg m) (hp : p_mnum D m) : Ev (n + 1) 2 157 [am_r (some 70), am_i (wz m)] A D (ri (w_mn D m)) A (u_mn D m) := by rw [w_mn_eq, u_mn_eq]; exact ev_X12_takesNumber m h1 hp
theorem fl_mn (D : aD) (m : Int) (t : Nat) (i : Int) (ht : Nat.ble t 49 = true) : u_mn D m (900 + t) i = D (900 + t) i := by rw [u_mn_eq]; exact fl_X12_takesNumber D m t i ht
theorem b_mn (D : aD) (m : Int) : 0 ≤ w_mn D m ∧ w_mn D m ≤ 1 := by rw [w_mn_eq]; exact b_mnum D m
abbrev P_X12_takesPlain : Nat → Option am_E := am_fy tb_X12_takesPlain
noncomputable def v_X12_takesPlain (D : aD) : Int := w_mn D 9999
noncomputable def u_X12_takesPlain (D : aD) : aD := (u_mn D 9999)
def p_X12_takesPlain (D : aD) : Prop := (p_mnum D 9999)
theorem b_X12_takesPlain (D : aD) : 0 ≤ v_X12_takesPlain D ∧ v_X12_takesPlain D ≤ 1 := (b_mn D 9999)
set_option maxRecDepth 100000 in
theorem ev_X12_takesPlain {n : Nat} {A : aA} {D : aD} (hp : p_X12_takesPlain D) : Ev (n + 1) 3 158 [am_r (some 70)] A D (ri (v_X12_takesPlain D)) A (u_X12_takesPlain D) := by
  unfold p_X12_takesPlain at hp
  unfold v_X12_takesPlain u_X12_takesPlain
  refine Ev_of (c := 2) (P := P_X12_takesPlain) (lo := [some (am_r (some 70))]) rfl rfl rfl (fun d hd s hr => ?_)
  refine ok (m_aload_n (q := 1) rfl rfl rfl rfl) ?_
  refine ok (m_sipush (q := 4) rfl rfl rfl) ?_
  have g3 := hp
  refine oke (e_ci (x_cv (q := 7) rfl rfl rfl rfl rfl rfl rfl rfl rfl rfl (is_st hr rfl rfl)) (ev_mn (D := D) 9999 ⟨by decide, by decide⟩ g3) (Nat.le_trans (by decide) hd) hr) (fun s1 r2 => ?_)
  exact ok (m_retb rfl rfl (b_mn D 9999)) (ok_i r2 (Ev_rg (ev_mn (D := D) 9999 ⟨by decide, by decide⟩ g3) hr))
theorem fl_X12_takesPlain (D : aD) (t : Nat) (i : Int) (ht : Nat.ble t 49 = true) : u_X12_takesPlain D (900 + t) i = D (900 + t) i := (fl_mn D 9999 t i ht).trans (rfl)
abbrev P_X12_postHere : Nat → Option am_E := am_fy tb_X12_postHere
noncomputable def v_X12_postHere (D : aD) : Int := if w_tk D (30233771112949102 : Int64) = 0 then if w_tk (u_tk D (30233771112949102 : Int64)) (448546567013 : Int64) = 0 then if w_tk (u_tk (u_tk D (30233771112949102 : Int64)) (448546567013 : Int64)) (474416837477 : Int64) = 0 then if w_tk (u_tk (u_tk (u_tk D (30233771112949102 : Int64)) (448546567013 : Int64)) (474416837477 : Int64)) (1668247403 : Int64) = 0 then if w_tk (u_tk (u_tk (u_tk (u_tk D (30233771112949102 : Int64)) (448546567013 : Int64)) (474416837477 : Int64)) (1668247403 : Int64)) (427070415720 : Int64) = 0 then if w_tk (u_tk (u_tk (u_tk (u_tk (u_tk D (30233771112949102 : Int64)) (448546567013 : Int64)) (474416837477 : Int64)) (1668247403 : Int64)) (427070415720 : Int64)) (108256603956594 : Int64) = 0 then (-1) else 5 else 4 else 3 else 2 else 1 else 0
noncomputable def u_X12_postHere (D : aD) : aD := if w_tk D (30233771112949102 : Int64) = 0 then if w_tk (u_tk D (30233771112949102 : Int64)) (448546567013 : Int64) = 0 then if w_tk (u_tk (u_tk D (30233771112949102 : Int64)) (448546567013 : Int64)) (474416837477 : Int64) = 0 then if w_tk (u_tk (u_tk (u_tk D (30233771112949102 : Int64)) (448546567013 : Int64)) (474416837477 : Int64)) (1668247403 : Int64) = 0 then if w_tk (u_tk (u_tk (u_tk (u_tk D (30233771112949102 : Int64)) (448546567013 : Int64)) (474416837477 : Int64)) (1668247403 : Int64)) (427070415720 : Int64) = 0 then if w_tk (u_tk (u_tk (u_tk (u_tk (u_tk D (30233771112949102 : Int64)) (448546567013 : Int64)) (474416837477 : Int64)) (1668247403 : Int64)) (427070415720 : Int64)) (108256603956594 : Int64) = 0 then (u_tk (u_tk (u_tk (u_tk (u_tk (u_tk D (30233771112949102 : Int64)) (448546567013 : Int64)) (474416837477 : Int64)) (1668247403 : Int64)) (427070415720 : Int64)) (108256603956594 : Int64)) else (u_tk (u_tk (u_tk (u_tk (u_tk (u_tk D (30233771112949102 : Int64)) (448546567013 : Int64)) (474416837477 : Int64)) (1668247403 : Int64)) (427070415720 : Int64)) (108256603956594 : Int64)) else (u_tk (u_tk (u_tk (u_tk (u_tk D (30233771112949102 : Int64)) (448546567013 : Int64)) (474416837477 : Int64)) (1668247403 : Int64)) (427070415720 : Int64)) else (u_tk (u_tk (u_tk (u_tk D (30233771112949102 : Int64)) (448546567013 : Int64)) (474416837477 : Int64)) (1668247403 : Int64)) else (u_tk (u_tk (u_tk D (30233771112949102 : Int64)) (448546567013 : Int64)) (474416837477 : Int64)) else (u_tk (u_tk D (30233771112949102 : Int64)) (448546567013 : Int64)) else (u_tk D (30233771112949102 : Int64))
def p_X12_postHere (D : aD) : Prop := (p_X12_takes D (30233771112949102 : Int64)) ∧ (if w_tk D (30233771112949102 : Int64) = 0 then (p_X12_takes (u_tk D (30233771112949102 : Int64)) (448546567013 : Int64)) ∧ (if w_tk (u_tk D (30233771112949102 : Int64)) (448546567013 : Int64) = 0 then (p_X12_takes (u_tk (u_tk D (30233771112949102 : Int64)) (448546567013 : Int64)) (474416837477 : Int64)) ∧ (if w_tk (u_tk (u_tk D (30233771112949102 : Int64)) (448546567013 : Int64)) (474416837477 : Int64) = 0 then (p_X12_takes (u_tk (u_tk (u_tk D (30233771112949102 : Int64)) (448546567013 : Int64)) (474416837477 : Int64)) (1668247403 : Int64)) ∧ (if w_tk (u_tk (u_tk (u_tk D (30233771112949102 : Int64)) (448546567013 : Int64)) (474416837477 : Int64)) (1668247403 : Int64) = 0 then (p_X12_takes (u_tk (u_tk (u_tk (u_tk D (30233771112949102 : Int64)) (448546567013 : Int64)) (474416837477 : Int64)) (1668247403 : Int64)) (427070415720 : Int64)) ∧ (if w_tk (u_tk (u_tk (u_tk (u_tk D (30233771112949102 : Int64)) (448546567013 : Int64)) (474416837477 : Int64)) (1668247403 : Int64)) (427070415720 : Int64) = 0 then (p_X12_takes (u_tk (u_tk (u_tk (u_tk (u_tk D (30233771112949102 : Int64)) (448546567013 : Int64)) (474416837477 : Int64)) (1668247403 : Int64)) (427070415720 : Int64)) (108256603956594 : Int64)) else True) else True) else True) else True) else True)
set_option maxRecDepth 100000 in
theorem ev_X12_postHere {n : Nat} {A : aA} {D : aD} (hp : p_X12_postHere D) : Ev (n + 1) 4 164 [am_r (some 70)] A D (ri (v_X12_postHere D)) A (u_X12_postHere D) := by
  unfold p_X12_postHere at hp
  unfold v_X12_postHere u_X12_postHere
  refine Ev_of (c := 3) (P := P_X12_postHere) (lo := [some (am_r (some 70))]) rfl rfl rfl (fun d hd s hr => ?_)
  refine ok (m_aload_n (q := 1) rfl rfl rfl rfl) ?_
  refine ok (m_ldc2_w (q := 4) rfl rfl rfl) ?_
  obtain ⟨g3, hp⟩ := hp
  refine oke (e_ci (x_cv (q := 7) rfl rfl rfl rfl rfl rfl rfl rfl rfl rfl (is_st hr rfl rfl)) (ev_tk (D := D) (30233771112949102 : Int64) g3) (Nat.le_trans (by decide) hd) hr) (fun s1 r2 => ?_)
  refine okf (m_ifeq (qt := 14) (qf := 10) rfl rfl (Ev_rg (ev_tk (D := D) (30233771112949102 : Int64) g3) hr) rfl rfl) (fun c4 => ?_) (fun c4 => ?_)
  · replace hp := ip c4 hp
    refine ok (m_aload_n (q := 15) rfl rfl rfl rfl) ?_
    refine ok (m_ldc2_w (q := 18) rfl rfl rfl) ?_
    obtain ⟨g7, hp⟩ := hp
    refine oke (e_ci (x_cv (q := 21) rfl rfl rfl rfl rfl rfl rfl rfl rfl rfl (is_st r2 rfl rfl)) (ev_tk (D := (u_tk D (30233771112949102 : Int64))) (448546567013 : Int64) g7) (Nat.le_trans (by decide) hd) r2) (fun s5 r6 => ?_)
    refine okf (m_ifeq (qt := 28) (qf := 24) rfl rfl (Ev_rg (ev_tk (D := (u_tk D (30233771112949102 : Int64))) (448546567013 : Int64) g7) r2) rfl rfl) (fun c8 => ?_) (fun c8 => ?_)
    · replace hp := ip c8 hp
      refine ok (m_aload_n (q := 29) rfl rfl rfl rfl) ?_
      refine ok (m_ldc2_w (q := 32) rfl rfl rfl) ?_
      obtain ⟨g11, hp⟩ := hp
      refine oke (e_ci (x_cv (q := 35) rfl rfl rfl rfl rfl rfl rfl rfl rfl rfl (is_st r6 rfl rfl)) (ev_tk (D := (u_tk (u_tk D (30233771112949102 : Int64)) (448546567013 : Int64))) (474416837477 : Int64) g11) (Nat.le_trans (by decide) hd) r6) (fun s9 r10 => ?_)
      refine okf (m_ifeq (qt := 42) (qf := 38) rfl rfl (Ev_rg (ev_tk (D := (u_tk (u_tk D (30233771112949102 : Int64)) (448546567013 : Int64))) (474416837477 : Int64) g11) r6) rfl rfl) (fun c12 => ?_) (fun c12 => ?_)
      · replace hp := ip c12 hp
        refine ok (m_aload_n (q := 43) rfl rfl rfl rfl) ?_
        refine ok (m_ldc2_w (q := 46) rfl rfl rfl) ?_
        obtain ⟨g15, hp⟩ := hp
        refine oke (e_ci (x_cv (q := 49) rfl rfl rfl rfl rfl rfl rfl rfl rfl rfl (is_st r10 rfl rfl)) (ev_tk (D := (u_tk (u_tk (u_tk D (30233771112949102 : Int64)) (448546567013 : Int64)) (474416837477 : Int64))) (1668247403 : Int64) g15) (Nat.le_trans (by decide) hd) r10) (fun s13 r14 => ?_)
        refine okf (m_ifeq (qt := 56) (qf := 52) rfl rfl (Ev_rg (ev_tk (D := (u_tk (u_tk (u_tk D (30233771112949102 : Int64)) (448546567013 : Int64)) (474416837477 : Int64))) (1668247403 : Int64) g15) r10) rfl rfl) (fun c16 => ?_) (fun c16 => ?_)
        · replace hp := ip c16 hp
          refine ok (m_aload_n (q := 57) rfl rfl rfl rfl) ?_
          refine ok (m_ldc2_w (q := 60) rfl rfl rfl) ?_
          obtain ⟨g19, hp⟩ := hp
          refine oke (e_ci (x_cv (q := 63) rfl rfl rfl rfl rfl rfl rfl rfl rfl rfl (is_st r14 rfl rfl)) (ev_tk (D := (u_tk (u_tk (u_tk (u_tk D (30233771112949102 : Int64)) (448546567013 : Int64)) (474416837477 : Int64)) (1668247403 : Int64))) (427070415720 : Int64) g19) (Nat.le_trans (by decide) hd) r14) (fun s17 r18 => ?_)
          refine okf (m_ifeq (qt := 70) (qf := 66) rfl rfl (Ev_rg (ev_tk (D := (u_tk (u_tk (u_tk (u_tk D (30233771112949102 : Int64)) (448546567013 : Int64)) (474416837477 : Int64)) (1668247403 : Int64))) (427070415720 : Int64) g19) r14) rfl rfl) (fun c20 => ?_) (fun c20 => ?_)
          · replace hp := ip c20 hp
            refine ok (m_aload_n (q := 71) rfl rfl rfl rfl) ?_
            refine ok (m_ldc2_w (q := 74) rfl rfl rfl) ?_
            have g23 := hp
            refine oke (e_ci (x_cv (q := 77) rfl rfl rfl rfl rfl rfl rfl rfl rfl rfl (is_st r18 rfl rfl)) (ev_tk (D := (u_tk (u_tk (u_tk (u_tk (u_tk D (30233771112949102 : Int64)) (448546567013 : Int64)) (474416837477 : Int64)) (1668247403 : Int64)) (427070415720 : Int64))) (108256603956594 : Int64) g23) (Nat.le_trans (by decide) hd) r18) (fun s21 r22 => ?_)
            refine okf (m_ifeq (qt := 84) (qf := 80) rfl rfl (Ev_rg (ev_tk (D := (u_tk (u_tk (u_tk (u_tk (u_tk D (30233771112949102 : Int64)) (448546567013 : Int64)) (474416837477 : Int64)) (1668247403 : Int64)) (427070415720 : Int64))) (108256603956594 : Int64) g23) r18) rfl rfl) (fun c24 => ?_) (fun c24 => ?_)
            · refine ok (m_iconst (q := 85) rfl rfl rfl) ?_
              exact ok (m_reti rfl rfl) (ok_i r22 ⟨by decide, by decide⟩)
            · refine ok (m_iconst (q := 81) rfl rfl rfl) ?_
              refine ok (m_goto (q := 85) rfl rfl rfl) ?_
              exact ok (m_reti rfl rfl) (ok_i r22 ⟨by decide, by decide⟩)
          · refine ok (m_iconst (q := 67) rfl rfl rfl) ?_
            refine ok (m_goto (q := 85) rfl rfl rfl) ?_
            exact ok (m_reti rfl rfl) (ok_i r18 ⟨by decide, by decide⟩)
        · refine ok (m_iconst (q := 53) rfl rfl rfl) ?_
          refine ok (m_goto (q := 85) rfl rfl rfl) ?_
          exact ok (m_reti rfl rfl) (ok_i r14 ⟨by decide, by decide⟩)
      · refine ok (m_iconst (q := 39) rfl rfl rfl) ?_
        refine ok (m_goto (q := 85) rfl rfl rfl) ?_
        exact ok (m_reti rfl rfl) (ok_i r10 ⟨by decide, by decide⟩)
    · refine ok (m_iconst (q := 25) rfl rfl rfl) ?_
      refine ok (m_goto (q := 85) rfl rfl rfl) ?_
      exact ok (m_reti rfl rfl) (ok_i r6 ⟨by decide, by decide⟩)
  · refine ok (m_iconst (q := 11) rfl rfl rfl) ?_
    refine ok (m_goto (q := 85) rfl rfl rfl) ?_
    exact ok (m_reti rfl rfl) (ok_i r2 ⟨by decide, by decide⟩)
theorem fl_X12_postHere (D : aD) (t : Nat) (i : Int) (ht : Nat.ble t 49 = true) : u_X12_postHere D (900 + t) i = D (900 + t) i := fl_if (fl_if (fl_if (fl_if (fl_if (fl_if ((fl_tk (u_tk (u_tk (u_tk (u_tk (u_tk D (30233771112949102 : Int64)) (448546567013 : Int64)) (474416837477 : Int64)) (1668247403 : Int64)) (427070415720 : Int64)) (108256603956594 : Int64) t i ht).trans ((fl_tk (u_tk (u_tk (u_tk (u_tk D (30233771112949102 : Int64)) (448546567013 : Int64)) (474416837477 : Int64)) (1668247403 : Int64)) (427070415720 : Int64) t i ht).trans ((fl_tk (u_tk (u_tk (u_tk D (30233771112949102 : Int64)) (448546567013 : Int64)) (474416837477 : Int64)) (1668247403 : Int64) t i ht).trans ((fl_tk (u_tk (u_tk D (30233771112949102 : Int64)) (448546567013 : Int64)) (474416837477 : Int64) t i ht).trans ((fl_tk (u_tk D (30233771112949102 : Int64)) (448546567013 : Int64) t i ht).trans ((fl_tk D (30233771112949102 : Int64) t i ht).trans (rfl))))))) ((fl_tk (u_tk (u_tk (u_tk (u_tk (u_tk D (30233771112949102 : Int64)) (448546567013 : Int64)) (474416837477 : Int64)) (1668247403 : Int64)) (427070415720 : Int64)) (108256603956594 : Int64) t i ht).trans ((fl_tk (u_tk (u_tk (u_tk (u_tk D (30233771112949102 : Int64)) (448546567013 : Int64)) (474416837477 : Int64)) (1668247403 : Int64)) (427070415720 : Int64) t i ht).trans ((fl_tk (u_tk (u_tk (u_tk D (30233771112949102 : Int64)) (448546567013 : Int64)) (474416837477 : Int64)) (1668247403 : Int64) t i ht).trans ((fl_tk (u_tk (u_tk D (30233771112949102 : Int64)) (448546567013 : Int64)) (474416837477 : Int64) t i ht).trans ((fl_tk (u_tk D (30233771112949102 : Int64)) (448546567013 : Int64) t i ht).trans ((fl_tk D (30233771112949102 : Int64) t i ht).trans (rfl)))))))) ((fl_tk (u_tk (u_tk (u_tk (u_tk D (30233771112949102 : Int64)) (448546567013 : Int64)) (474416837477 : Int64)) (1668247403 : Int64)) (427070415720 : Int64) t i ht).trans ((fl_tk (u_tk (u_tk (u_tk D (30233771112949102 : Int64)) (448546567013 : Int64)) (474416837477 : Int64)) (1668247403 : Int64) t i ht).trans ((fl_tk (u_tk (u_tk D (30233771112949102 : Int64)) (448546567013 : Int64)) (474416837477 : Int64) t i ht).trans ((fl_tk (u_tk D (30233771112949102 : Int64)) (448546567013 : Int64) t i ht).trans ((fl_tk D (30233771112949102 : Int64) t i ht).trans (rfl))))))) ((fl_tk (u_tk (u_tk (u_tk D (30233771112949102 : Int64)) (448546567013 : Int64)) (474416837477 : Int64)) (1668247403 : Int64) t i ht).trans ((fl_tk (u_tk (u_tk D (30233771112949102 : Int64)) (448546567013 : Int64)) (474416837477 : Int64) t i ht).trans ((fl_tk (u_tk D (30233771112949102 : Int64)) (448546567013 : Int64) t i ht).trans ((fl_tk D (30233771112949102 : Int64) t i ht).trans (rfl)))))) ((fl_tk (u_tk (u_tk D (30233771112949102 : Int64)) (448546567013 : Int64)) (474416837477 : Int64) t i ht).trans ((fl_tk (u_tk D (30233771112949102 : Int64)) (448546567013 : Int64) t i ht).trans ((fl_tk D (30233771112949102 : Int64) t i ht).trans (rfl))))) ((fl_tk (u_tk D (30233771112949102 : Int64)) (448546567013 : Int64) t i ht).trans ((fl_tk D (30233771112949102 : Int64) t i ht).trans (rfl)))) ((fl_tk D (30233771112949102 : Int64) t i ht).trans (rfl))
abbrev P_X12_plain : Nat → Option am_E := am_fy tb_X12_plain
noncomputable def v_X12_plain (D : aD) (a1 : Int) : Int := if v_X12_takesPlain D = 0 then 0 else 1
noncomputable def u_X12_plain (D : aD) (a1 : Int) : aD := if v_X12_takesPlain D = 0 then (u_X12_takesPlain D) else (up (u_X12_takesPlain D) 96 a1 ((u_X12_takesPlain D) 70 50))
def p_X12_plain (D : aD) (a1 : Int) : Prop := (p_X12_takesPlain D) ∧ (if v_X12_takesPlain D = 0 then True else (0 ≤ a1 ∧ a1 < 270))
theorem b_X12_plain (D : aD) (a1 : Int) : 0 ≤ v_X12_plain D a1 ∧ v_X12_plain D a1 ≤ 1 := b01 (fun c4 => ⟨by decide, by decide⟩) (fun c4 => ⟨by decide, by decide⟩)
set_option maxRecDepth 100000 in
theorem ev_X12_plain {n : Nat} {A : aA} {D : aD} (a1 : Int) (h1 : rg a1) (hp : p_X12_plain D a1) : Ev (n + 1) 4 167 [am_r (some 70), am_i (wz a1)] A D (ri (v_X12_plain D a1)) A (u_X12_plain D a1) := by
  unfold p_X12_plain at hp
  unfold v_X12_plain u_X12_plain
  refine Ev_of (c := 3) (P := P_X12_plain) (lo := [some (am_r (some 70)), some (am_i (wz a1))]) rfl rfl rfl (fun d hd s hr => ?_)
  refine ok (m_aload_n (q := 1) rfl rfl rfl rfl) ?_
  obtain ⟨g3, hp⟩ := hp
  refine oke (e_ci (x_cv (q := 4) rfl rfl rfl rfl rfl rfl rfl rfl rfl rfl (is_st hr rfl rfl)) (ev_X12_takesPlain (D := D) g3) (Nat.le_trans (by decide) hd) hr) (fun s1 r2 => ?_)
  refine okf (m_ifne (qt := 9) (qf := 7) rfl rfl (Ev_rg (ev_X12_takesPlain (D := D) g3) hr) rfl rfl) (fun c4 => ?_) (fun c4 => ?_)
  · refine ok (m_iconst (q := 8) rfl rfl rfl) ?_
    exact ok (m_retb rfl rfl ⟨by decide, by decide⟩) (ok_i r2 ⟨by decide, by decide⟩)
  · replace hp := iq c4 hp
    refine ok (m_aload_n (q := 10) rfl rfl rfl rfl) ?_
    refine ok (m_gfc (q := 13) rfl rfl rfl r2 rfl rfl rfl) ?_
    refine ok (m_iload_n (q := 14) rfl rfl rfl rfl) ?_
    refine ok (m_aload_n (q := 15) rfl rfl rfl rfl) ?_
    refine ok (m_gfs (z := 50) (q := 18) rfl rfl rfl r2 rfl rfl rfl rfl rfl) ?_
    have g7 := hp
    refine oke (e_ias (q := 19) rfl rfl rfl r2 rfl rfl g7 (Rp_rg r2 70 50)) (fun s6 r5 => ?_)
    refine ok (m_iconst (q := 20) rfl rfl rfl) ?_
    exact ok (m_retb rfl rfl ⟨by decide, by decide⟩) (ok_i r5 ⟨by decide, by decide⟩)
theorem fl_X12_plain (D : aD) (a1 : Int) (t : Nat) (i : Int) (ht : Nat.ble t 49 = true) : u_X12_plain D a1 (900 + t) i = D (900 + t) i := fl_if ((fl_X12_takesPlain D t i ht).trans (rfl)) ((up_c (fl_ne rfl ht)).trans ((fl_X12_takesPlain D t i ht).trans (rfl)))
end Mnu
