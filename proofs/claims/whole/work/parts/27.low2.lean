/-! More methods without loops. -/
abbrev P_X7_compares : Nat → Option am_E := am_fy tb_X7_compares
def v_X7_compares (D : aD) (i0 : Int) (a1 : Int) : Int := if (wr (a1.tdiv 10000)).tmod 3 = 0 then if a1.tmod 10000 ≤ D 3401 (1024 * i0 + ((wr ((wr (a1.tdiv 10000)).tdiv 3)).tmod 6)) then 0 else 1 else if (wr (a1.tdiv 10000)).tmod 3 = 1 then if D 3401 (1024 * i0 + ((wr ((wr (a1.tdiv 10000)).tdiv 3)).tmod 6)) ≤ a1.tmod 10000 then 0 else 1 else if D 3401 (1024 * i0 + ((wr ((wr (a1.tdiv 10000)).tdiv 3)).tmod 6)) = a1.tmod 10000 then 1 else 0
def p_X7_compares (D : aD) (i0 : Int) (a1 : Int) : Prop := (0 ≤ (wr ((wr (a1.tdiv 10000)).tdiv 3)).tmod 6 ∧ (wr ((wr (a1.tdiv 10000)).tdiv 3)).tmod 6 < D 3400 i0)
theorem b_X7_compares (D : aD) (i0 : Int) (a1 : Int) : 0 ≤ v_X7_compares D i0 a1 ∧ v_X7_compares D i0 a1 ≤ 1 := b01 (fun c3 => b01 (fun c4 => ⟨by decide, by decide⟩) (fun c4 => ⟨by decide, by decide⟩)) (fun c3 => b01 (fun c5 => b01 (fun c6 => ⟨by decide, by decide⟩) (fun c6 => ⟨by decide, by decide⟩)) (fun c5 => b01 (fun c7 => ⟨by decide, by decide⟩) (fun c7 => ⟨by decide, by decide⟩)))
set_option maxRecDepth 100000 in
theorem ev_X7_compares {n : Nat} {A : aA} {D : aD} (i0 : Int) (a1 : Int) (f0 : D 914 i0 = 1) (h1 : rg a1) (hp : p_X7_compares D i0 a1) : Ev (n + 2) 1 65 [am_r (some (A 14 i0)), am_i (wz a1)] A D (ri (v_X7_compares D i0 a1)) A D := by
  unfold p_X7_compares at hp
  unfold v_X7_compares
  refine Ev_of (c := 0) (P := P_X7_compares) (lo := [some (am_r (some (A 14 i0))), some (am_i (wz a1)), none, none, none]) rfl rfl rfl (fun d hd s hr => ?_)
  refine ok (m_aload_n (q := 1) rfl rfl rfl rfl) ?_
  have f_1 := Rp_f14_24 (D := D) (i := i0) hr f0
  refine ok (m_gfx (t := 14) (q := 4) (r := some (A 24 i0)) rfl rfl rfl hr rfl f0 rfl rfl rfl) ?_
  refine ok (m_iload_n (q := 5) rfl rfl rfl rfl) ?_
  refine ok (m_sipush (q := 8) rfl rfl rfl) ?_
  refine ok (m_idiv (q := 9) rfl rfl h1 ⟨by decide, by decide⟩ (by decide) rfl) ?_
  refine ok (m_iconst (q := 10) rfl rfl rfl) ?_
  refine ok (m_idiv (q := 11) rfl rfl (rg_wr _) ⟨by decide, by decide⟩ (by decide) rfl) ?_
  refine ok (m_bipush (q := 13) rfl rfl rfl) ?_
  refine ok (m_irem (q := 14) rfl rfl (rg_wr _) ⟨by decide, by decide⟩ (by decide) rfl) ?_
  have g2 := hp
  refine ok (m_ialt (t := 24) (q := 15) rfl rfl rfl hr rfl f_1 rfl rfl rfl g2 rfl) ?_
  refine ok (m_istore_n (q := 16) (lo' := [some (am_r (some (A 14 i0))), some (am_i (wz a1)), some (am_i (wz (D 3401 (1024 * i0 + ((wr ((wr (a1.tdiv 10000)).tdiv 3)).tmod 6))))), none, none]) rfl rfl rfl rfl rfl) ?_
  refine ok (m_iload_n (q := 17) rfl rfl rfl rfl) ?_
  refine ok (m_sipush (q := 20) rfl rfl rfl) ?_
  refine ok (m_irem (q := 21) rfl rfl h1 ⟨by decide, by decide⟩ (by decide) rfl) ?_
  refine ok (m_istore_n (q := 22) (lo' := [some (am_r (some (A 14 i0))), some (am_i (wz a1)), some (am_i (wz (D 3401 (1024 * i0 + ((wr ((wr (a1.tdiv 10000)).tdiv 3)).tmod 6))))), some (am_i (wz (a1.tmod 10000))), none]) rfl rfl rfl rfl rfl) ?_
  refine ok (m_iload_n (q := 23) rfl rfl rfl rfl) ?_
  refine ok (m_sipush (q := 26) rfl rfl rfl) ?_
  refine ok (m_idiv (q := 27) rfl rfl h1 ⟨by decide, by decide⟩ (by decide) rfl) ?_
  refine ok (m_iconst (q := 28) rfl rfl rfl) ?_
  refine ok (m_irem (q := 29) rfl rfl (rg_wr _) ⟨by decide, by decide⟩ (by decide) rfl) ?_
  refine ok (m_istore (q := 31) (lo' := [some (am_r (some (A 14 i0))), some (am_i (wz a1)), some (am_i (wz (D 3401 (1024 * i0 + ((wr ((wr (a1.tdiv 10000)).tdiv 3)).tmod 6))))), some (am_i (wz (a1.tmod 10000))), some (am_i (wz ((wr (a1.tdiv 10000)).tmod 3)))]) rfl rfl rfl rfl rfl) ?_
  refine ok (m_iload (q := 33) rfl rfl rfl rfl) ?_
  refine okp (m_ifne (qt := 47) (qf := 36) rfl rfl (rg_tmod (rg_wr _) ⟨by decide, by decide⟩) rfl rfl) (fun c3 => ?_) (fun c3 => ?_)
  · refine ok (m_iload_n (q := 37) rfl rfl rfl rfl) ?_
    refine ok (m_iload_n (q := 38) rfl rfl rfl rfl) ?_
    refine okp (m_cmpge (qt := 45) (qf := 41) rfl rfl (show rg (D 3401 (1024 * i0 + ((wr ((wr (a1.tdiv 10000)).tdiv 3)).tmod 6))) from Rp_rg hr 3401 (1024 * i0 + ((wr ((wr (a1.tdiv 10000)).tdiv 3)).tmod 6))) (rg_tmod h1 ⟨by decide, by decide⟩) rfl rfl) (fun c4 => ?_) (fun c4 => ?_)
    · refine ok (m_iconst (q := 46) rfl rfl rfl) ?_
      exact ok (m_retb rfl rfl ⟨by decide, by decide⟩) (ok_i hr ⟨by decide, by decide⟩)
    · refine ok (m_iconst (q := 42) rfl rfl rfl) ?_
      refine ok (m_goto (q := 46) rfl rfl rfl) ?_
      exact ok (m_retb rfl rfl ⟨by decide, by decide⟩) (ok_i hr ⟨by decide, by decide⟩)
  · refine ok (m_iload (q := 49) rfl rfl rfl rfl) ?_
    refine ok (m_iconst (q := 50) rfl rfl rfl) ?_
    refine okp (m_cmpne (qt := 66) (qf := 53) rfl rfl (rg_tmod (rg_wr _) ⟨by decide, by decide⟩) ⟨by decide, by decide⟩ rfl rfl) (fun c5 => ?_) (fun c5 => ?_)
    · refine ok (m_iload_n (q := 54) rfl rfl rfl rfl) ?_
      refine ok (m_iload_n (q := 55) rfl rfl rfl rfl) ?_
      refine okp (m_cmple (qt := 62) (qf := 58) rfl rfl (show rg (D 3401 (1024 * i0 + ((wr ((wr (a1.tdiv 10000)).tdiv 3)).tmod 6))) from Rp_rg hr 3401 (1024 * i0 + ((wr ((wr (a1.tdiv 10000)).tdiv 3)).tmod 6))) (rg_tmod h1 ⟨by decide, by decide⟩) rfl rfl) (fun c6 => ?_) (fun c6 => ?_)
      · refine ok (m_iconst (q := 63) rfl rfl rfl) ?_
        refine ok (m_goto (q := 76) rfl rfl rfl) ?_
        exact ok (m_retb rfl rfl ⟨by decide, by decide⟩) (ok_i hr ⟨by decide, by decide⟩)
      · refine ok (m_iconst (q := 59) rfl rfl rfl) ?_
        refine ok (m_goto (q := 76) rfl rfl rfl) ?_
        exact ok (m_retb rfl rfl ⟨by decide, by decide⟩) (ok_i hr ⟨by decide, by decide⟩)
    · refine ok (m_iload_n (q := 67) rfl rfl rfl rfl) ?_
      refine ok (m_iload_n (q := 68) rfl rfl rfl rfl) ?_
      refine okp (m_cmpne (qt := 75) (qf := 71) rfl rfl (show rg (D 3401 (1024 * i0 + ((wr ((wr (a1.tdiv 10000)).tdiv 3)).tmod 6))) from Rp_rg hr 3401 (1024 * i0 + ((wr ((wr (a1.tdiv 10000)).tdiv 3)).tmod 6))) (rg_tmod h1 ⟨by decide, by decide⟩) rfl rfl) (fun c7 => ?_) (fun c7 => ?_)
      · refine ok (m_iconst (q := 72) rfl rfl rfl) ?_
        refine ok (m_goto (q := 76) rfl rfl rfl) ?_
        exact ok (m_retb rfl rfl ⟨by decide, by decide⟩) (ok_i hr ⟨by decide, by decide⟩)
      · refine ok (m_iconst (q := 76) rfl rfl rfl) ?_
        exact ok (m_retb rfl rfl ⟨by decide, by decide⟩) (ok_i hr ⟨by decide, by decide⟩)
abbrev P_X6_refuse : Nat → Option am_E := am_fy tb_X6_refuse
def u_X6_refuse (D : aD) : aD := if D 47 3 = (-1) then (up D 47 3 (D 47 7)) else D
set_option maxRecDepth 100000 in
theorem ev_X6_refuse {n : Nat} {A : aA} {D : aD} : Ev (n) 1 47 [am_r (some 47)] A D rv A (u_X6_refuse D) := by
  unfold u_X6_refuse
  refine Ev_of (c := 0) (P := P_X6_refuse) (lo := [some (am_r (some 47))]) rfl rfl rfl (fun d hd s hr => ?_)
  refine ok (m_aload_n (q := 1) rfl rfl rfl rfl) ?_
  refine ok (m_gfs (z := 3) (q := 4) rfl rfl rfl hr rfl rfl rfl rfl rfl) ?_
  refine ok (m_iconst (q := 5) rfl rfl rfl) ?_
  refine okvf (m_cmpne (qt := 16) (qf := 8) rfl rfl (Rp_rg hr 47 3) ⟨by decide, by decide⟩ rfl rfl) (fun c1 => ?_) (fun c1 => ?_)
  · refine ok (m_aload_n (q := 9) rfl rfl rfl rfl) ?_
    refine ok (m_aload_n (q := 10) rfl rfl rfl rfl) ?_
    refine ok (m_gfs (z := 7) (q := 13) rfl rfl rfl hr rfl rfl rfl rfl rfl) ?_
    refine oke (e_pfs (q := 16) rfl rfl rfl hr rfl rfl rfl rfl (Rp_rg hr 47 7)) (fun s3 r2 => ?_)
    exact ok (m_retv rfl rfl) (ok_v r2)
  · exact ok (m_retv rfl rfl) (ok_v hr)
theorem fl_X6_refuse (D : aD) (t : Nat) (i : Int) (ht : Nat.ble t 49 = true) : u_X6_refuse D (900 + t) i = D (900 + t) i := fl_if ((up_c (fl_ne rfl ht)).trans (rfl)) (rfl)
abbrev P_X6_isSign : Nat → Option am_E := am_fy tb_X6_isSign
def v_X6_isSign (D : aD) (a1 : Int) : Int := if D 47 6 = 3 then if D 48 (D 47 7) = a1 then 1 else 0 else 0
def p_X6_isSign (D : aD) (a1 : Int) : Prop := (if D 47 6 = 3 then (0 ≤ D 47 7 ∧ D 47 7 < 700) else True)
theorem b_X6_isSign (D : aD) (a1 : Int) : 0 ≤ v_X6_isSign D a1 ∧ v_X6_isSign D a1 ≤ 1 := b01 (fun c1 => b01 (fun c3 => ⟨by decide, by decide⟩) (fun c3 => ⟨by decide, by decide⟩)) (fun c1 => ⟨by decide, by decide⟩)
set_option maxRecDepth 100000 in
theorem ev_X6_isSign {n : Nat} {A : aA} {D : aD} (a1 : Int) (h1 : rg a1) (hp : p_X6_isSign D a1) : Ev (n) 1 52 [am_r (some 47), am_i (wz a1)] A D (ri (v_X6_isSign D a1)) A D := by
  unfold p_X6_isSign at hp
  unfold v_X6_isSign
  refine Ev_of (c := 0) (P := P_X6_isSign) (lo := [some (am_r (some 47)), some (am_i (wz a1))]) rfl rfl rfl (fun d hd s hr => ?_)
  refine ok (m_aload_n (q := 1) rfl rfl rfl rfl) ?_
  refine ok (m_gfs (z := 6) (q := 4) rfl rfl rfl hr rfl rfl rfl rfl rfl) ?_
  refine ok (m_iconst (q := 5) rfl rfl rfl) ?_
  refine okp (m_cmpne (qt := 25) (qf := 8) rfl rfl (Rp_rg hr 47 6) ⟨by decide, by decide⟩ rfl rfl) (fun c1 => ?_) (fun c1 => ?_)
  · replace hp := ip c1 hp
    refine ok (m_aload_n (q := 9) rfl rfl rfl rfl) ?_
    refine ok (m_gfc (q := 12) rfl rfl rfl hr rfl rfl rfl) ?_
    refine ok (m_aload_n (q := 13) rfl rfl rfl rfl) ?_
    refine ok (m_gfs (z := 7) (q := 16) rfl rfl rfl hr rfl rfl rfl rfl rfl) ?_
    have g2 := hp
    refine ok (m_bals (q := 17) rfl rfl rfl hr rfl rfl g2 rfl) ?_
    refine ok (m_iload_n (q := 18) rfl rfl rfl rfl) ?_
    refine okp (m_cmpne (qt := 25) (qf := 21) rfl rfl (Rp_rg hr 48 (D 47 7)) h1 rfl rfl) (fun c3 => ?_) (fun c3 => ?_)
    · refine ok (m_iconst (q := 22) rfl rfl rfl) ?_
      refine ok (m_goto (q := 26) rfl rfl rfl) ?_
      exact ok (m_retb rfl rfl ⟨by decide, by decide⟩) (ok_i hr ⟨by decide, by decide⟩)
    · refine ok (m_iconst (q := 26) rfl rfl rfl) ?_
      exact ok (m_retb rfl rfl ⟨by decide, by decide⟩) (ok_i hr ⟨by decide, by decide⟩)
  · refine ok (m_iconst (q := 26) rfl rfl rfl) ?_
    exact ok (m_retb rfl rfl ⟨by decide, by decide⟩) (ok_i hr ⟨by decide, by decide⟩)
abbrev P_X6_emit : Nat → Option am_E := am_fy tb_X6_emit
def u_X6_emit (D : aD) (a1 : Int) : aD := if D 47 3 = (-1) then if 700 ≤ D 47 5 then D else (up (up D 49 (D 47 5) a1) 47 5 (wr ((D 47 5) + 1))) else D
def p_X6_emit (D : aD) (a1 : Int) : Prop := (if D 47 3 = (-1) then (if 700 ≤ D 47 5 then True else (0 ≤ D 47 5 ∧ D 47 5 < 700)) else True)
set_option maxRecDepth 100000 in
theorem ev_X6_emit {n : Nat} {A : aA} {D : aD} (a1 : Int) (h1 : rg a1) (hp : p_X6_emit D a1) : Ev (n + 1) 1 46 [am_r (some 47), am_i (wz a1)] A D rv A (u_X6_emit D a1) := by
  unfold p_X6_emit at hp
  unfold u_X6_emit
  refine Ev_of (c := 0) (P := P_X6_emit) (lo := [some (am_r (some 47)), some (am_i (wz a1))]) rfl rfl rfl (fun d hd s hr => ?_)
  refine ok (m_aload_n (q := 1) rfl rfl rfl rfl) ?_
  refine ok (m_gfs (z := 3) (q := 4) rfl rfl rfl hr rfl rfl rfl rfl rfl) ?_
  refine ok (m_iconst (q := 5) rfl rfl rfl) ?_
  refine okvf (m_cmpne (qt := 40) (qf := 8) rfl rfl (Rp_rg hr 47 3) ⟨by decide, by decide⟩ rfl rfl) (fun c1 => ?_) (fun c1 => ?_)
  · replace hp := ip c1 hp
    refine ok (m_aload_n (q := 9) rfl rfl rfl rfl) ?_
    refine ok (m_gfs (z := 5) (q := 12) rfl rfl rfl hr rfl rfl rfl rfl rfl) ?_
    refine ok (m_aload_n (q := 13) rfl rfl rfl rfl) ?_
    refine ok (m_gfc (q := 16) rfl rfl rfl hr rfl rfl rfl) ?_
    refine ok (m_lens (z := 700) (q := 17) rfl rfl rfl hr rfl rfl rfl) ?_
    refine okvf (m_cmpge (qt := 40) (qf := 20) rfl rfl (Rp_rg hr 47 5) ⟨by decide, by decide⟩ rfl rfl) (fun c2 => ?_) (fun c2 => ?_)
    · exact ok (m_retv rfl rfl) (ok_v hr)
    · replace hp := iq c2 hp
      refine ok (m_aload_n (q := 21) rfl rfl rfl rfl) ?_
      refine ok (m_gfc (q := 24) rfl rfl rfl hr rfl rfl rfl) ?_
      refine ok (m_aload_n (q := 25) rfl rfl rfl rfl) ?_
      refine ok (m_gfs (z := 5) (q := 28) rfl rfl rfl hr rfl rfl rfl rfl rfl) ?_
      refine ok (m_iload_n (q := 29) rfl rfl rfl rfl) ?_
      have g5 := hp
      refine oke (e_ias (q := 30) rfl rfl rfl hr rfl rfl g5 h1) (fun s4 r3 => ?_)
      refine ok (m_aload_n (q := 31) rfl rfl rfl rfl) ?_
      refine ok (m_dup (q := 32) rfl rfl rfl rfl) ?_
      refine ok (m_gfs (z := 5) (q := 35) (w := D 47 5) rfl rfl rfl r3 rfl rfl rfl rfl rfl) ?_
      refine ok (m_iconst (q := 36) rfl rfl rfl) ?_
      refine ok (m_iadd (q := 37) rfl rfl rfl) ?_
      refine oke (e_pfs (q := 40) rfl rfl rfl r3 rfl rfl rfl rfl (rg_wr _)) (fun s7 r6 => ?_)
      exact ok (m_retv rfl rfl) (ok_v r6)
  · exact ok (m_retv rfl rfl) (ok_v hr)
theorem fl_X6_emit (D : aD) (a1 : Int) (t : Nat) (i : Int) (ht : Nat.ble t 49 = true) : u_X6_emit D a1 (900 + t) i = D (900 + t) i := fl_if (fl_if (rfl) ((up_c (fl_ne rfl ht)).trans ((up_c (fl_ne rfl ht)).trans (rfl)))) (rfl)
abbrev P_X12_node : Nat → Option am_E := am_fy tb_X12_node
def v_X12_node (D : aD) (a1 : Int) : Int := wr ((wr ((D 70 27) + 1)) - 1)
def u_X12_node (D : aD) (a1 : Int) : aD := (up (up (up (up D 99 (D 70 27) a1) 100 (D 70 27) (-1)) 101 (D 70 27) (-1)) 70 27 (wr ((D 70 27) + 1)))
def p_X12_node (D : aD) (a1 : Int) : Prop := (0 ≤ D 70 27 ∧ D 70 27 < 5200)
set_option maxRecDepth 100000 in
theorem ev_X12_node {n : Nat} {A : aA} {D : aD} (a1 : Int) (h1 : rg a1) (hp : p_X12_node D a1) : Ev (n) 1 159 [am_r (some 70), am_i (wz a1)] A D (ri (v_X12_node D a1)) A (u_X12_node D a1) := by
  unfold p_X12_node at hp
  unfold v_X12_node u_X12_node
  refine Ev_of (c := 0) (P := P_X12_node) (lo := [some (am_r (some 70)), some (am_i (wz a1))]) rfl rfl rfl (fun d hd s hr => ?_)
  refine ok (m_aload_n (q := 1) rfl rfl rfl rfl) ?_
  refine ok (m_gfc (q := 4) rfl rfl rfl hr rfl rfl rfl) ?_
  refine ok (m_aload_n (q := 5) rfl rfl rfl rfl) ?_
  refine ok (m_gfs (z := 27) (q := 8) rfl rfl rfl hr rfl rfl rfl rfl rfl) ?_
  refine ok (m_iload_n (q := 9) rfl rfl rfl rfl) ?_
  have g3 := hp
  refine oke (e_ias (q := 10) rfl rfl rfl hr rfl rfl g3 h1) (fun s2 r1 => ?_)
  refine ok (m_aload_n (q := 11) rfl rfl rfl rfl) ?_
  refine ok (m_gfc (q := 14) rfl rfl rfl r1 rfl rfl rfl) ?_
  refine ok (m_aload_n (q := 15) rfl rfl rfl rfl) ?_
  refine ok (m_gfs (z := 27) (q := 18) (w := D 70 27) rfl rfl rfl r1 rfl rfl rfl rfl rfl) ?_
  refine ok (m_iconst (q := 19) rfl rfl rfl) ?_
  refine oke (e_ias (q := 20) rfl rfl rfl r1 rfl rfl g3 ⟨by decide, by decide⟩) (fun s5 r4 => ?_)
  refine ok (m_aload_n (q := 21) rfl rfl rfl rfl) ?_
  refine ok (m_gfc (q := 24) rfl rfl rfl r4 rfl rfl rfl) ?_
  refine ok (m_aload_n (q := 25) rfl rfl rfl rfl) ?_
  refine ok (m_gfs (z := 27) (q := 28) (w := D 70 27) rfl rfl rfl r4 rfl rfl rfl rfl rfl) ?_
  refine ok (m_iconst (q := 29) rfl rfl rfl) ?_
  refine oke (e_ias (q := 30) rfl rfl rfl r4 rfl rfl g3 ⟨by decide, by decide⟩) (fun s7 r6 => ?_)
  refine ok (m_aload_n (q := 31) rfl rfl rfl rfl) ?_
  refine ok (m_dup (q := 32) rfl rfl rfl rfl) ?_
  refine ok (m_gfs (z := 27) (q := 35) (w := D 70 27) rfl rfl rfl r6 rfl rfl rfl rfl rfl) ?_
  refine ok (m_iconst (q := 36) rfl rfl rfl) ?_
  refine ok (m_iadd (q := 37) rfl rfl rfl) ?_
  refine oke (e_pfs (q := 40) rfl rfl rfl r6 rfl rfl rfl rfl (rg_wr _)) (fun s9 r8 => ?_)
  refine ok (m_aload_n (q := 41) rfl rfl rfl rfl) ?_
  refine ok (m_gfs (z := 27) (q := 44) (w := wr ((D 70 27) + 1)) rfl rfl rfl r8 rfl rfl rfl rfl up_eq) ?_
  refine ok (m_iconst (q := 45) rfl rfl rfl) ?_
  refine ok (m_isub (q := 46) rfl rfl rfl) ?_
  exact ok (m_reti rfl rfl) (ok_i r8 (rg_wr _))
theorem fl_X12_node (D : aD) (a1 : Int) (t : Nat) (i : Int) (ht : Nat.ble t 49 = true) : u_X12_node D a1 (900 + t) i = D (900 + t) i := (up_c (fl_ne rfl ht)).trans ((up_c (fl_ne rfl ht)).trans ((up_c (fl_ne rfl ht)).trans ((up_c (fl_ne rfl ht)).trans (rfl))))
abbrev P_X12_put : Nat → Option am_E := am_fy tb_X12_put
def u_X12_put (D : aD) (a1 : Int) (a2 : Int) (a3 : Int) : aD := if a1 = 0 then (up D 114 a2 a3) else (up D 115 a2 a3)
def p_X12_put (D : aD) (a1 : Int) (a2 : Int) (a3 : Int) : Prop := (if a1 = 0 then (0 ≤ a2 ∧ a2 < 720) else (0 ≤ a2 ∧ a2 < 720))
set_option maxRecDepth 100000 in
theorem ev_X12_put {n : Nat} {A : aA} {D : aD} (a1 : Int) (a2 : Int) (a3 : Int) (h1 : rg a1) (h2 : rg a2) (h3 : rg a3) (hp : p_X12_put D a1 a2 a3) : Ev (n) 1 187 [am_r (some 70), am_i (wz a1), am_i (wz a2), am_i (wz a3)] A D rv A (u_X12_put D a1 a2 a3) := by
  unfold p_X12_put at hp
  unfold u_X12_put
  refine Ev_of (c := 0) (P := P_X12_put) (lo := [some (am_r (some 70)), some (am_i (wz a1)), some (am_i (wz a2)), some (am_i (wz a3))]) rfl rfl rfl (fun d hd s hr => ?_)
  refine ok (m_iload_n (q := 1) rfl rfl rfl rfl) ?_
  refine okvf (m_ifne (qt := 14) (qf := 4) rfl rfl h1 rfl rfl) (fun c1 => ?_) (fun c1 => ?_)
  · replace hp := ip c1 hp
    refine ok (m_aload_n (q := 5) rfl rfl rfl rfl) ?_
    refine ok (m_gfc (q := 8) rfl rfl rfl hr rfl rfl rfl) ?_
    refine ok (m_iload_n (q := 9) rfl rfl rfl rfl) ?_
    refine ok (m_iload_n (q := 10) rfl rfl rfl rfl) ?_
    have g4 := hp
    refine oke (e_ias (q := 11) rfl rfl rfl hr rfl rfl g4 h3) (fun s3 r2 => ?_)
    refine ok (m_goto (q := 21) rfl rfl rfl) ?_
    exact ok (m_retv rfl rfl) (ok_v r2)
  · replace hp := iq c1 hp
    refine ok (m_aload_n (q := 15) rfl rfl rfl rfl) ?_
    refine ok (m_gfc (q := 18) rfl rfl rfl hr rfl rfl rfl) ?_
    refine ok (m_iload_n (q := 19) rfl rfl rfl rfl) ?_
    refine ok (m_iload_n (q := 20) rfl rfl rfl rfl) ?_
    have g7 := hp
    refine oke (e_ias (q := 21) rfl rfl rfl hr rfl rfl g7 h3) (fun s6 r5 => ?_)
    exact ok (m_retv rfl rfl) (ok_v r5)
theorem fl_X12_put (D : aD) (a1 : Int) (a2 : Int) (a3 : Int) (t : Nat) (i : Int) (ht : Nat.ble t 49 = true) : u_X12_put D a1 a2 a3 (900 + t) i = D (900 + t) i := fl_if ((up_c (fl_ne rfl ht)).trans (rfl)) ((up_c (fl_ne rfl ht)).trans (rfl))
abbrev P_X2_forgetPairs : Nat → Option am_E := am_fy tb_X2_forgetPairs
def u_X2_forgetPairs (D : aD) : aD := (fil (fil (fil (fil D 55 24 0) 56 720 (-1)) 57 720 (-1)) 58 30 0)
set_option maxRecDepth 100000 in
theorem ev_X2_forgetPairs {n : Nat} {A : aA} {D : aD} : Ev (n + 1) 2 11 [am_r (some 53)] A D rv A (u_X2_forgetPairs D) := by
  unfold u_X2_forgetPairs
  refine Ev_of (c := 1) (P := P_X2_forgetPairs) (lo := [some (am_r (some 53))]) rfl rfl rfl (fun d hd s hr => ?_)
  refine ok (m_aload_n (q := 1) rfl rfl rfl rfl) ?_
  refine ok (m_gfc (q := 4) rfl rfl rfl hr rfl rfl rfl) ?_
  refine ok (m_iconst (q := 5) rfl rfl rfl) ?_
  refine oke (e_cvd (x_cs (q := 8) rfl rfl rfl rfl rfl rfl rfl rfl rfl) (ev_fill 55 0 rfl rfl ⟨by decide, by decide⟩) (Nat.le_trans (by decide) hd) hr) (fun s1 r2 => ?_)
  refine ok (m_aload_n (q := 9) rfl rfl rfl rfl) ?_
  refine ok (m_gfc (q := 12) rfl rfl rfl r2 rfl rfl rfl) ?_
  refine ok (m_iconst (q := 13) rfl rfl rfl) ?_
  refine oke (e_cvd (x_cs (q := 16) rfl rfl rfl rfl rfl rfl rfl rfl rfl) (ev_fill 56 (-1) rfl rfl ⟨by decide, by decide⟩) (Nat.le_trans (by decide) hd) r2) (fun s3 r4 => ?_)
  refine ok (m_aload_n (q := 17) rfl rfl rfl rfl) ?_
  refine ok (m_gfc (q := 20) rfl rfl rfl r4 rfl rfl rfl) ?_
  refine ok (m_iconst (q := 21) rfl rfl rfl) ?_
  refine oke (e_cvd (x_cs (q := 24) rfl rfl rfl rfl rfl rfl rfl rfl rfl) (ev_fill 57 (-1) rfl rfl ⟨by decide, by decide⟩) (Nat.le_trans (by decide) hd) r4) (fun s5 r6 => ?_)
  refine ok (m_aload_n (q := 25) rfl rfl rfl rfl) ?_
  refine ok (m_gfc (q := 28) rfl rfl rfl r6 rfl rfl rfl) ?_
  refine ok (m_iconst (q := 29) rfl rfl rfl) ?_
  refine oke (e_cvd (x_cs (q := 32) rfl rfl rfl rfl rfl rfl rfl rfl rfl) (ev_fill 58 0 rfl rfl ⟨by decide, by decide⟩) (Nat.le_trans (by decide) hd) r6) (fun s7 r8 => ?_)
  exact ok (m_retv rfl rfl) (ok_v r8)
theorem fl_X2_forgetPairs (D : aD) (t : Nat) (i : Int) (ht : Nat.ble t 49 = true) : u_X2_forgetPairs D (900 + t) i = D (900 + t) i := (fil_f (fl_ne rfl ht)).trans ((fil_f (fl_ne rfl ht)).trans ((fil_f (fl_ne rfl ht)).trans ((fil_f (fl_ne rfl ht)).trans (rfl))))
abbrev P_X2_fillPlace : Nat → Option am_E := am_fy tb_X2_fillPlace
def u_X2_fillPlace (D : aD) (i1 : Int) : aD := (up D 58 (D 2100 i1) 1)
def p_X2_fillPlace (D : aD) (i1 : Int) : Prop := (0 ≤ D 2100 i1 ∧ D 2100 i1 < 30)
set_option maxRecDepth 100000 in
theorem ev_X2_fillPlace {n : Nat} {A : aA} {D : aD} (i1 : Int) (f1 : D 911 i1 = 1) (hp : p_X2_fillPlace D i1) : Ev (n + 1) 1 12 [am_r (some 53), am_r (some (A 11 i1))] A D rv A (u_X2_fillPlace D i1) := by
  unfold p_X2_fillPlace at hp
  unfold u_X2_fillPlace
  refine Ev_of (c := 0) (P := P_X2_fillPlace) (lo := [some (am_r (some 53)), some (am_r (some (A 11 i1)))]) rfl rfl rfl (fun d hd s hr => ?_)
  refine ok (m_aload_n (q := 1) rfl rfl rfl rfl) ?_
  refine ok (m_gfc (q := 4) rfl rfl rfl hr rfl rfl rfl) ?_
  refine ok (m_aload_n (q := 5) rfl rfl rfl rfl) ?_
  refine ok (m_gft (t := 11) (q := 8) rfl rfl rfl hr rfl f1 rfl rfl rfl) ?_
  refine ok (m_iconst (q := 9) rfl rfl rfl) ?_
  have g3 := hp
  refine oke (e_ias (q := 10) rfl rfl rfl hr rfl rfl g3 ⟨by decide, by decide⟩) (fun s2 r1 => ?_)
  exact ok (m_retv rfl rfl) (ok_v r1)
theorem fl_X2_fillPlace (D : aD) (i1 : Int) (t : Nat) (i : Int) (ht : Nat.ble t 49 = true) : u_X2_fillPlace D i1 (900 + t) i = D (900 + t) i := (up_c (fl_ne rfl ht)).trans (rfl)
abbrev P_X2_pairOf : Nat → Option am_E := am_fy tb_X2_pairOf
def v_X2_pairOf (D : aD) (a0 : Int) (a1 : Int) : Int := wr ((wr (a0 * 30)) + a1)
set_option maxRecDepth 100000 in
theorem ev_X2_pairOf {n : Nat} {A : aA} {D : aD} (a0 : Int) (a1 : Int) (h0 : rg a0) (h1 : rg a1) : Ev (n) 1 14 [am_i (wz a0), am_i (wz a1)] A D (ri (v_X2_pairOf D a0 a1)) A D := by
  unfold v_X2_pairOf
  refine Ev_of (c := 0) (P := P_X2_pairOf) (lo := [some (am_i (wz a0)), some (am_i (wz a1))]) rfl rfl rfl (fun d hd s hr => ?_)
  refine ok (m_iload_n (q := 1) rfl rfl rfl rfl) ?_
  refine ok (m_bipush (q := 3) rfl rfl rfl) ?_
  refine ok (m_imul (q := 4) rfl rfl rfl) ?_
  refine ok (m_iload_n (q := 5) rfl rfl rfl rfl) ?_
  refine ok (m_iadd (q := 6) rfl rfl rfl) ?_
  exact ok (m_reti rfl rfl) (ok_i hr (rg_wr _))
abbrev P_X2_forgetPairing : Nat → Option am_E := am_fy tb_X2_forgetPairing
def u_X2_forgetPairing (D : aD) : aD := (fil (fil D 61 24 (-1)) 59 30 (-1))
set_option maxRecDepth 100000 in
theorem ev_X2_forgetPairing {n : Nat} {A : aA} {D : aD} : Ev (n + 1) 2 15 [am_r (some 53)] A D rv A (u_X2_forgetPairing D) := by
  unfold u_X2_forgetPairing
  refine Ev_of (c := 1) (P := P_X2_forgetPairing) (lo := [some (am_r (some 53))]) rfl rfl rfl (fun d hd s hr => ?_)
  refine ok (m_aload_n (q := 1) rfl rfl rfl rfl) ?_
  refine ok (m_gfc (q := 4) rfl rfl rfl hr rfl rfl rfl) ?_
  refine ok (m_iconst (q := 5) rfl rfl rfl) ?_
  refine oke (e_cvd (x_cs (q := 8) rfl rfl rfl rfl rfl rfl rfl rfl rfl) (ev_fill 61 (-1) rfl rfl ⟨by decide, by decide⟩) (Nat.le_trans (by decide) hd) hr) (fun s1 r2 => ?_)
  refine ok (m_aload_n (q := 9) rfl rfl rfl rfl) ?_
  refine ok (m_gfc (q := 12) rfl rfl rfl r2 rfl rfl rfl) ?_
  refine ok (m_iconst (q := 13) rfl rfl rfl) ?_
  refine oke (e_cvd (x_cs (q := 16) rfl rfl rfl rfl rfl rfl rfl rfl rfl) (ev_fill 59 (-1) rfl rfl ⟨by decide, by decide⟩) (Nat.le_trans (by decide) hd) r2) (fun s3 r4 => ?_)
  exact ok (m_retv rfl rfl) (ok_v r4)
theorem fl_X2_forgetPairing (D : aD) (t : Nat) (i : Int) (ht : Nat.ble t 49 = true) : u_X2_forgetPairing D (900 + t) i = D (900 + t) i := (fil_f (fl_ne rfl ht)).trans ((fil_f (fl_ne rfl ht)).trans (rfl))
abbrev P_X2_placeLikesBetter : Nat → Option am_E := am_fy tb_X2_placeLikesBetter
def v_X2_placeLikesBetter (D : aD) (a1 : Int) (a2 : Int) : Int := if D 59 a1 = (-1) then 1 else if D 57 (v_X2_pairOf D (D 59 a1) a1) ≤ D 57 (v_X2_pairOf D a2 a1) then 0 else 1
def p_X2_placeLikesBetter (D : aD) (a1 : Int) (a2 : Int) : Prop := (0 ≤ a1 ∧ a1 < 30) ∧ (if D 59 a1 = (-1) then True else (0 ≤ v_X2_pairOf D a2 a1 ∧ v_X2_pairOf D a2 a1 < 720) ∧ (0 ≤ v_X2_pairOf D (D 59 a1) a1 ∧ v_X2_pairOf D (D 59 a1) a1 < 720))
theorem b_X2_placeLikesBetter (D : aD) (a1 : Int) (a2 : Int) : 0 ≤ v_X2_placeLikesBetter D a1 a2 ∧ v_X2_placeLikesBetter D a1 a2 ≤ 1 := b01 (fun c2 => ⟨by decide, by decide⟩) (fun c2 => b01 (fun c9 => ⟨by decide, by decide⟩) (fun c9 => ⟨by decide, by decide⟩))
set_option maxRecDepth 100000 in
theorem ev_X2_placeLikesBetter {n : Nat} {A : aA} {D : aD} (a1 : Int) (a2 : Int) (h1 : rg a1) (h2 : rg a2) (hp : p_X2_placeLikesBetter D a1 a2) : Ev (n + 1) 2 18 [am_r (some 53), am_i (wz a1), am_i (wz a2)] A D (ri (v_X2_placeLikesBetter D a1 a2)) A D := by
  unfold p_X2_placeLikesBetter at hp
  unfold v_X2_placeLikesBetter
  refine Ev_of (c := 1) (P := P_X2_placeLikesBetter) (lo := [some (am_r (some 53)), some (am_i (wz a1)), some (am_i (wz a2)), none]) rfl rfl rfl (fun d hd s hr => ?_)
  refine ok (m_aload_n (q := 1) rfl rfl rfl rfl) ?_
  refine ok (m_gfc (q := 4) rfl rfl rfl hr rfl rfl rfl) ?_
  refine ok (m_iload_n (q := 5) rfl rfl rfl rfl) ?_
  obtain ⟨g1, hp⟩ := hp
  refine ok (m_ials (q := 6) rfl rfl rfl hr rfl rfl g1 rfl) ?_
  refine ok (m_istore_n (q := 7) (lo' := [some (am_r (some 53)), some (am_i (wz a1)), some (am_i (wz a2)), some (am_i (wz (D 59 a1)))]) rfl rfl rfl rfl rfl) ?_
  refine ok (m_iload_n (q := 8) rfl rfl rfl rfl) ?_
  refine ok (m_iconst (q := 9) rfl rfl rfl) ?_
  refine okp (m_cmpeq (qt := 35) (qf := 12) rfl rfl (Rp_rg hr 59 a1) ⟨by decide, by decide⟩ rfl rfl) (fun c2 => ?_) (fun c2 => ?_)
  · refine ok (m_iconst (q := 36) rfl rfl rfl) ?_
    refine ok (m_goto (q := 40) rfl rfl rfl) ?_
    exact ok (m_retb rfl rfl ⟨by decide, by decide⟩) (ok_i hr ⟨by decide, by decide⟩)
  · replace hp := iq c2 hp
    refine ok (m_aload_n (q := 13) rfl rfl rfl rfl) ?_
    refine ok (m_gfc (q := 16) rfl rfl rfl hr rfl rfl rfl) ?_
    refine ok (m_iload_n (q := 17) rfl rfl rfl rfl) ?_
    refine ok (m_iload_n (q := 18) rfl rfl rfl rfl) ?_
    refine oke (e_ci (x_cs (q := 21) rfl rfl rfl rfl rfl rfl rfl rfl rfl) (ev_X2_pairOf (D := D) a2 a1 h2 h1) (Nat.le_trans (by decide) hd) hr) (fun s3 r4 => ?_)
    obtain ⟨g5, hp⟩ := hp
    refine ok (m_ials (q := 22) rfl rfl rfl r4 rfl rfl g5 rfl) ?_
    refine ok (m_aload_n (q := 23) rfl rfl rfl rfl) ?_
    refine ok (m_gfc (q := 26) rfl rfl rfl r4 rfl rfl rfl) ?_
    refine ok (m_iload_n (q := 27) rfl rfl rfl rfl) ?_
    refine ok (m_iload_n (q := 28) rfl rfl rfl rfl) ?_
    refine oke (e_ci (x_cs (q := 31) rfl rfl rfl rfl rfl rfl rfl rfl rfl) (ev_X2_pairOf (D := D) (D 59 a1) a1 (Rp_rg hr 59 a1) h1) (Nat.le_trans (by decide) hd) r4) (fun s6 r7 => ?_)
    have g8 := hp
    refine ok (m_ials (q := 32) rfl rfl rfl r7 rfl rfl g8 rfl) ?_
    refine okp (m_cmpge (qt := 39) (qf := 35) rfl rfl (Rp_rg r4 57 (v_X2_pairOf D a2 a1)) (Rp_rg r7 57 (v_X2_pairOf D (D 59 a1) a1)) rfl rfl) (fun c9 => ?_) (fun c9 => ?_)
    · refine ok (m_iconst (q := 40) rfl rfl rfl) ?_
      exact ok (m_retb rfl rfl ⟨by decide, by decide⟩) (ok_i r7 ⟨by decide, by decide⟩)
    · refine ok (m_iconst (q := 36) rfl rfl rfl) ?_
      refine ok (m_goto (q := 40) rfl rfl rfl) ?_
      exact ok (m_retb rfl rfl ⟨by decide, by decide⟩) (ok_i r7 ⟨by decide, by decide⟩)
abbrev P_X2_offer : Nat → Option am_E := am_fy tb_X2_offer
def u_X2_offer (D : aD) (a1 : Int) (a2 : Int) : aD := if v_X2_placeLikesBetter D a2 a1 = 0 then D else if D 59 a2 = (-1) then (up (up D 59 a2 a1) 61 a1 a2) else (up (up (up D 61 (D 59 a2) (-1)) 59 a2 a1) 61 a1 a2)
def p_X2_offer (D : aD) (a1 : Int) (a2 : Int) : Prop := (p_X2_placeLikesBetter D a2 a1) ∧ (if v_X2_placeLikesBetter D a2 a1 = 0 then True else (0 ≤ a2 ∧ a2 < 30) ∧ (if D 59 a2 = (-1) then (0 ≤ a1 ∧ a1 < 24) else (0 ≤ D 59 a2 ∧ D 59 a2 < 24) ∧ (0 ≤ a1 ∧ a1 < 24)))
set_option maxRecDepth 100000 in
theorem ev_X2_offer {n : Nat} {A : aA} {D : aD} (a1 : Int) (a2 : Int) (h1 : rg a1) (h2 : rg a2) (hp : p_X2_offer D a1 a2) : Ev (n + 1) 3 17 [am_r (some 53), am_i (wz a1), am_i (wz a2)] A D rv A (u_X2_offer D a1 a2) := by
  unfold p_X2_offer at hp
  unfold u_X2_offer
  refine Ev_of (c := 2) (P := P_X2_offer) (lo := [some (am_r (some 53)), some (am_i (wz a1)), some (am_i (wz a2))]) rfl rfl rfl (fun d hd s hr => ?_)
  refine ok (m_aload_n (q := 1) rfl rfl rfl rfl) ?_
  refine ok (m_iload_n (q := 2) rfl rfl rfl rfl) ?_
  refine ok (m_iload_n (q := 3) rfl rfl rfl rfl) ?_
  obtain ⟨g3, hp⟩ := hp
  refine oke (e_ci (x_cv (q := 6) rfl rfl rfl rfl rfl rfl rfl rfl rfl rfl (is_st hr rfl rfl)) (ev_X2_placeLikesBetter (D := D) a2 a1 h2 h1 g3) (Nat.le_trans (by decide) hd) hr) (fun s1 r2 => ?_)
  refine okvf (m_ifne (qt := 10) (qf := 9) rfl rfl (Ev_rg (ev_X2_placeLikesBetter (D := D) a2 a1 h2 h1 g3) hr) rfl rfl) (fun c4 => ?_) (fun c4 => ?_)
  · exact ok (m_retv rfl rfl) (ok_v r2)
  · replace hp := iq c4 hp
    refine ok (m_aload_n (q := 11) rfl rfl rfl rfl) ?_
    refine ok (m_gfc (q := 14) rfl rfl rfl r2 rfl rfl rfl) ?_
    refine ok (m_iload_n (q := 15) rfl rfl rfl rfl) ?_
    obtain ⟨g5, hp⟩ := hp
    refine ok (m_ials (q := 16) rfl rfl rfl r2 rfl rfl g5 rfl) ?_
    refine ok (m_iconst (q := 17) rfl rfl rfl) ?_
    refine okvf (m_cmpeq (qt := 32) (qf := 20) rfl rfl (Rp_rg r2 59 a2) ⟨by decide, by decide⟩ rfl rfl) (fun c6 => ?_) (fun c6 => ?_)
    · replace hp := ip c6 hp
      refine ok (m_aload_n (q := 33) rfl rfl rfl rfl) ?_
      refine ok (m_gfc (q := 36) rfl rfl rfl r2 rfl rfl rfl) ?_
      refine ok (m_iload_n (q := 37) rfl rfl rfl rfl) ?_
      refine ok (m_iload_n (q := 38) rfl rfl rfl rfl) ?_
      refine oke (e_ias (q := 39) rfl rfl rfl r2 rfl rfl g5 h1) (fun s8 r7 => ?_)
      refine ok (m_aload_n (q := 40) rfl rfl rfl rfl) ?_
      refine ok (m_gfc (q := 43) rfl rfl rfl r7 rfl rfl rfl) ?_
      refine ok (m_iload_n (q := 44) rfl rfl rfl rfl) ?_
      refine ok (m_iload_n (q := 45) rfl rfl rfl rfl) ?_
      have g11 := hp
      refine oke (e_ias (q := 46) rfl rfl rfl r7 rfl rfl g11 h2) (fun s10 r9 => ?_)
      exact ok (m_retv rfl rfl) (ok_v r9)
    · replace hp := iq c6 hp
      refine ok (m_aload_n (q := 21) rfl rfl rfl rfl) ?_
      refine ok (m_gfc (q := 24) rfl rfl rfl r2 rfl rfl rfl) ?_
      refine ok (m_aload_n (q := 25) rfl rfl rfl rfl) ?_
      refine ok (m_gfc (q := 28) rfl rfl rfl r2 rfl rfl rfl) ?_
      refine ok (m_iload_n (q := 29) rfl rfl rfl rfl) ?_
      refine ok (m_ials (q := 30) rfl rfl rfl r2 rfl rfl g5 rfl) ?_
      refine ok (m_iconst (q := 31) rfl rfl rfl) ?_
      obtain ⟨g14, hp⟩ := hp
      refine oke (e_ias (q := 32) rfl rfl rfl r2 rfl rfl g14 ⟨by decide, by decide⟩) (fun s13 r12 => ?_)
      refine ok (m_aload_n (q := 33) rfl rfl rfl rfl) ?_
      refine ok (m_gfc (q := 36) rfl rfl rfl r12 rfl rfl rfl) ?_
      refine ok (m_iload_n (q := 37) rfl rfl rfl rfl) ?_
      refine ok (m_iload_n (q := 38) rfl rfl rfl rfl) ?_
      refine oke (e_ias (q := 39) rfl rfl rfl r12 rfl rfl g5 h1) (fun s16 r15 => ?_)
      refine ok (m_aload_n (q := 40) rfl rfl rfl rfl) ?_
      refine ok (m_gfc (q := 43) rfl rfl rfl r15 rfl rfl rfl) ?_
      refine ok (m_iload_n (q := 44) rfl rfl rfl rfl) ?_
      refine ok (m_iload_n (q := 45) rfl rfl rfl rfl) ?_
      have g19 := hp
      refine oke (e_ias (q := 46) rfl rfl rfl r15 rfl rfl g19 h2) (fun s18 r17 => ?_)
      exact ok (m_retv rfl rfl) (ok_v r17)
theorem fl_X2_offer (D : aD) (a1 : Int) (a2 : Int) (t : Nat) (i : Int) (ht : Nat.ble t 49 = true) : u_X2_offer D a1 a2 (900 + t) i = D (900 + t) i := fl_if (rfl) (fl_if ((up_c (fl_ne rfl ht)).trans ((up_c (fl_ne rfl ht)).trans (rfl))) ((up_c (fl_ne rfl ht)).trans ((up_c (fl_ne rfl ht)).trans ((up_c (fl_ne rfl ht)).trans (rfl)))))
abbrev P_X2_servantLikesBetter : Nat → Option am_E := am_fy tb_X2_servantLikesBetter
def v_X2_servantLikesBetter (D : aD) (a1 : Int) (a2 : Int) : Int := if D 61 a1 = (-1) then 1 else if D 56 (v_X2_pairOf D a1 (D 61 a1)) ≤ D 56 (v_X2_pairOf D a1 a2) then 0 else 1
def p_X2_servantLikesBetter (D : aD) (a1 : Int) (a2 : Int) : Prop := (0 ≤ a1 ∧ a1 < 24) ∧ (if D 61 a1 = (-1) then True else (0 ≤ v_X2_pairOf D a1 a2 ∧ v_X2_pairOf D a1 a2 < 720) ∧ (0 ≤ v_X2_pairOf D a1 (D 61 a1) ∧ v_X2_pairOf D a1 (D 61 a1) < 720))
theorem b_X2_servantLikesBetter (D : aD) (a1 : Int) (a2 : Int) : 0 ≤ v_X2_servantLikesBetter D a1 a2 ∧ v_X2_servantLikesBetter D a1 a2 ≤ 1 := b01 (fun c2 => ⟨by decide, by decide⟩) (fun c2 => b01 (fun c9 => ⟨by decide, by decide⟩) (fun c9 => ⟨by decide, by decide⟩))
set_option maxRecDepth 100000 in
theorem ev_X2_servantLikesBetter {n : Nat} {A : aA} {D : aD} (a1 : Int) (a2 : Int) (h1 : rg a1) (h2 : rg a2) (hp : p_X2_servantLikesBetter D a1 a2) : Ev (n + 1) 2 19 [am_r (some 53), am_i (wz a1), am_i (wz a2)] A D (ri (v_X2_servantLikesBetter D a1 a2)) A D := by
  unfold p_X2_servantLikesBetter at hp
  unfold v_X2_servantLikesBetter
  refine Ev_of (c := 1) (P := P_X2_servantLikesBetter) (lo := [some (am_r (some 53)), some (am_i (wz a1)), some (am_i (wz a2)), none]) rfl rfl rfl (fun d hd s hr => ?_)
  refine ok (m_aload_n (q := 1) rfl rfl rfl rfl) ?_
  refine ok (m_gfc (q := 4) rfl rfl rfl hr rfl rfl rfl) ?_
  refine ok (m_iload_n (q := 5) rfl rfl rfl rfl) ?_
  obtain ⟨g1, hp⟩ := hp
  refine ok (m_ials (q := 6) rfl rfl rfl hr rfl rfl g1 rfl) ?_
  refine ok (m_istore_n (q := 7) (lo' := [some (am_r (some 53)), some (am_i (wz a1)), some (am_i (wz a2)), some (am_i (wz (D 61 a1)))]) rfl rfl rfl rfl rfl) ?_
  refine ok (m_iload_n (q := 8) rfl rfl rfl rfl) ?_
  refine ok (m_iconst (q := 9) rfl rfl rfl) ?_
  refine okp (m_cmpeq (qt := 35) (qf := 12) rfl rfl (Rp_rg hr 61 a1) ⟨by decide, by decide⟩ rfl rfl) (fun c2 => ?_) (fun c2 => ?_)
  · refine ok (m_iconst (q := 36) rfl rfl rfl) ?_
    refine ok (m_goto (q := 40) rfl rfl rfl) ?_
    exact ok (m_retb rfl rfl ⟨by decide, by decide⟩) (ok_i hr ⟨by decide, by decide⟩)
  · replace hp := iq c2 hp
    refine ok (m_aload_n (q := 13) rfl rfl rfl rfl) ?_
    refine ok (m_gfc (q := 16) rfl rfl rfl hr rfl rfl rfl) ?_
    refine ok (m_iload_n (q := 17) rfl rfl rfl rfl) ?_
    refine ok (m_iload_n (q := 18) rfl rfl rfl rfl) ?_
    refine oke (e_ci (x_cs (q := 21) rfl rfl rfl rfl rfl rfl rfl rfl rfl) (ev_X2_pairOf (D := D) a1 a2 h1 h2) (Nat.le_trans (by decide) hd) hr) (fun s3 r4 => ?_)
    obtain ⟨g5, hp⟩ := hp
    refine ok (m_ials (q := 22) rfl rfl rfl r4 rfl rfl g5 rfl) ?_
    refine ok (m_aload_n (q := 23) rfl rfl rfl rfl) ?_
    refine ok (m_gfc (q := 26) rfl rfl rfl r4 rfl rfl rfl) ?_
    refine ok (m_iload_n (q := 27) rfl rfl rfl rfl) ?_
    refine ok (m_iload_n (q := 28) rfl rfl rfl rfl) ?_
    refine oke (e_ci (x_cs (q := 31) rfl rfl rfl rfl rfl rfl rfl rfl rfl) (ev_X2_pairOf (D := D) a1 (D 61 a1) h1 (Rp_rg hr 61 a1)) (Nat.le_trans (by decide) hd) r4) (fun s6 r7 => ?_)
    have g8 := hp
    refine ok (m_ials (q := 32) rfl rfl rfl r7 rfl rfl g8 rfl) ?_
    refine okp (m_cmpge (qt := 39) (qf := 35) rfl rfl (Rp_rg r4 56 (v_X2_pairOf D a1 a2)) (Rp_rg r7 56 (v_X2_pairOf D a1 (D 61 a1))) rfl rfl) (fun c9 => ?_) (fun c9 => ?_)
    · refine ok (m_iconst (q := 40) rfl rfl rfl) ?_
      exact ok (m_retb rfl rfl ⟨by decide, by decide⟩) (ok_i r7 ⟨by decide, by decide⟩)
    · refine ok (m_iconst (q := 36) rfl rfl rfl) ?_
      refine ok (m_goto (q := 40) rfl rfl rfl) ?_
      exact ok (m_retb rfl rfl ⟨by decide, by decide⟩) (ok_i r7 ⟨by decide, by decide⟩)
abbrev P_X7_wayBy : Nat → Option am_E := am_fy tb_X7_wayBy
def v_X7_wayBy (D : aD) (i0 : Int) (i1 : Int) : Int := if 0 < wr ((D 2603 i1) - (D 52 (D 2601 i1))) then if D 3501 (1024 * i0 + (D 2601 i1)) = 1000000000 then 1000000000 else wr ((wr ((D 3501 (1024 * i0 + (D 2601 i1))) + 1000000)) + (wr ((D 2603 i1) - (D 52 (D 2601 i1))))) else 0
def p_X7_wayBy (D : aD) (i0 : Int) (i1 : Int) : Prop := (0 ≤ D 2601 i1 ∧ D 2601 i1 < 6) ∧ (if 0 < wr ((D 2603 i1) - (D 52 (D 2601 i1))) then (0 ≤ D 2601 i1 ∧ D 2601 i1 < D 3500 i0) else True)
set_option maxRecDepth 100000 in
theorem ev_X7_wayBy {n : Nat} {A : aA} {D : aD} (i0 : Int) (i1 : Int) (f0 : D 914 i0 = 1) (f1 : D 916 i1 = 1) (hp : p_X7_wayBy D i0 i1) : Ev (n + 1) 1 62 [am_r (some (A 14 i0)), am_r (some (A 16 i1)), am_r (some 52)] A D (ri (v_X7_wayBy D i0 i1)) A D := by
  unfold p_X7_wayBy at hp
  unfold v_X7_wayBy
  refine Ev_of (c := 0) (P := P_X7_wayBy) (lo := [some (am_r (some (A 14 i0))), some (am_r (some (A 16 i1))), some (am_r (some 52)), none]) rfl rfl rfl (fun d hd s hr => ?_)
  refine ok (m_aload_n (q := 1) rfl rfl rfl rfl) ?_
  refine ok (m_gft (t := 16) (q := 4) rfl rfl rfl hr rfl f1 rfl rfl rfl) ?_
  refine ok (m_aload_n (q := 5) rfl rfl rfl rfl) ?_
  refine ok (m_aload_n (q := 6) rfl rfl rfl rfl) ?_
  refine ok (m_gft (t := 16) (q := 9) rfl rfl rfl hr rfl f1 rfl rfl rfl) ?_
  obtain ⟨g1, hp⟩ := hp
  refine ok (m_ials (q := 10) rfl rfl rfl hr rfl rfl g1 rfl) ?_
  refine ok (m_isub (q := 11) rfl rfl rfl) ?_
  refine ok (m_istore_n (q := 12) (lo' := [some (am_r (some (A 14 i0))), some (am_r (some (A 16 i1))), some (am_r (some 52)), some (am_i (wz (wr ((D 2603 i1) - (D 52 (D 2601 i1))))))]) rfl rfl rfl rfl rfl) ?_
  refine ok (m_iload_n (q := 13) rfl rfl rfl rfl) ?_
  refine okp (m_ifgt (qt := 18) (qf := 16) rfl rfl (rg_wr _) rfl rfl) (fun c2 => ?_) (fun c2 => ?_)
  · replace hp := ip c2 hp
    refine ok (m_aload_n (q := 19) rfl rfl rfl rfl) ?_
    have f_3 := Rp_f14_25 (D := D) (i := i0) hr f0
    refine ok (m_gfx (t := 14) (q := 22) (r := some (A 25 i0)) rfl rfl rfl hr rfl f0 rfl rfl rfl) ?_
    refine ok (m_aload_n (q := 23) rfl rfl rfl rfl) ?_
    refine ok (m_gft (t := 16) (q := 26) rfl rfl rfl hr rfl f1 rfl rfl rfl) ?_
    have g4 := hp
    refine ok (m_ialt (t := 25) (q := 27) rfl rfl rfl hr rfl f_3 rfl rfl rfl g4 rfl) ?_
    refine ok (m_ldci (q := 29) rfl rfl rfl) ?_
    refine okp (m_cmpne (qt := 37) (qf := 32) rfl rfl (show rg (D 3501 (1024 * i0 + (D 2601 i1))) from Rp_rg hr 3501 (1024 * i0 + (D 2601 i1))) ⟨by decide, by decide⟩ rfl rfl) (fun c5 => ?_) (fun c5 => ?_)
    · refine ok (m_ldci (q := 34) rfl rfl rfl) ?_
      refine ok (m_goto (q := 51) rfl rfl rfl) ?_
      exact ok (m_reti rfl rfl) (ok_i hr ⟨by decide, by decide⟩)
    · refine ok (m_aload_n (q := 38) rfl rfl rfl rfl) ?_
      have f_6 := Rp_f14_25 (D := D) (i := i0) hr f0
      refine ok (m_gfx (t := 14) (q := 41) (r := some (A 25 i0)) rfl rfl rfl hr rfl f0 rfl rfl rfl) ?_
      refine ok (m_aload_n (q := 42) rfl rfl rfl rfl) ?_
      refine ok (m_gft (t := 16) (q := 45) rfl rfl rfl hr rfl f1 rfl rfl rfl) ?_
      refine ok (m_ialt (t := 25) (q := 46) rfl rfl rfl hr rfl f_6 rfl rfl rfl g4 rfl) ?_
      refine ok (m_ldci (q := 48) rfl rfl rfl) ?_
      refine ok (m_iadd (q := 49) rfl rfl rfl) ?_
      refine ok (m_iload_n (q := 50) rfl rfl rfl rfl) ?_
      refine ok (m_iadd (q := 51) rfl rfl rfl) ?_
      exact ok (m_reti rfl rfl) (ok_i hr (rg_wr _))
  · refine ok (m_iconst (q := 17) rfl rfl rfl) ?_
    exact ok (m_reti rfl rfl) (ok_i hr ⟨by decide, by decide⟩)
abbrev P_X1_worthOf : Nat → Option am_E := am_fy tb_X1_worthOf
def v_X1_worthOf (D : aD) (a1 : Int) (a2 : Int) (a3 : Int) : Int := if D 67 (wr ((wr (a1 * 6)) + a2)) = (-1) then (-1) else if o_and (o_ushr a3 a2) 1 = 0 then wr ((wr (20000 - (D 67 (wr ((wr (a1 * 6)) + a2))))) + (D 68 (wr ((wr ((wr (a1 + 1)) * 64)) + (o_or a3 (o_shl 1 a2)))))) else (-1)
def p_X1_worthOf (D : aD) (a1 : Int) (a2 : Int) (a3 : Int) : Prop := (0 ≤ wr ((wr (a1 * 6)) + a2) ∧ wr ((wr (a1 * 6)) + a2) < 36) ∧ (if D 67 (wr ((wr (a1 * 6)) + a2)) = (-1) then True else (if o_and (o_ushr a3 a2) 1 = 0 then (0 ≤ wr ((wr ((wr (a1 + 1)) * 64)) + (o_or a3 (o_shl 1 a2))) ∧ wr ((wr ((wr (a1 + 1)) * 64)) + (o_or a3 (o_shl 1 a2))) < 448) else True))
set_option maxRecDepth 100000 in
theorem ev_X1_worthOf {n : Nat} {A : aA} {D : aD} (a1 : Int) (a2 : Int) (a3 : Int) (h1 : rg a1) (h2 : rg a2) (h3 : rg a3) (hp : p_X1_worthOf D a1 a2 a3) : Ev (n + 1) 1 8 [am_r (some 62), am_i (wz a1), am_i (wz a2), am_i (wz a3)] A D (ri (v_X1_worthOf D a1 a2 a3)) A D := by
  unfold p_X1_worthOf at hp
  unfold v_X1_worthOf
  refine Ev_of (c := 0) (P := P_X1_worthOf) (lo := [some (am_r (some 62)), some (am_i (wz a1)), some (am_i (wz a2)), some (am_i (wz a3)), none]) rfl rfl rfl (fun d hd s hr => ?_)
  refine ok (m_aload_n (q := 1) rfl rfl rfl rfl) ?_
  refine ok (m_gfc (q := 4) rfl rfl rfl hr rfl rfl rfl) ?_
  refine ok (m_iload_n (q := 5) rfl rfl rfl rfl) ?_
  refine ok (m_bipush (q := 7) rfl rfl rfl) ?_
  refine ok (m_imul (q := 8) rfl rfl rfl) ?_
  refine ok (m_iload_n (q := 9) rfl rfl rfl rfl) ?_
  refine ok (m_iadd (q := 10) rfl rfl rfl) ?_
  obtain ⟨g1, hp⟩ := hp
  refine ok (m_ials (q := 11) rfl rfl rfl hr rfl rfl g1 rfl) ?_
  refine ok (m_istore (q := 13) (lo' := [some (am_r (some 62)), some (am_i (wz a1)), some (am_i (wz a2)), some (am_i (wz a3)), some (am_i (wz (D 67 (wr ((wr (a1 * 6)) + a2)))))]) rfl rfl rfl rfl rfl) ?_
  refine ok (m_iload (q := 15) rfl rfl rfl rfl) ?_
  refine ok (m_iconst (q := 16) rfl rfl rfl) ?_
  refine okp (m_cmpeq (qt := 27) (qf := 19) rfl rfl (Rp_rg hr 67 (wr ((wr (a1 * 6)) + a2))) ⟨by decide, by decide⟩ rfl rfl) (fun c2 => ?_) (fun c2 => ?_)
  · refine ok (m_iconst (q := 28) rfl rfl rfl) ?_
    exact ok (m_reti rfl rfl) (ok_i hr ⟨by decide, by decide⟩)
  · replace hp := iq c2 hp
    refine ok (m_iload_n (q := 20) rfl rfl rfl rfl) ?_
    refine ok (m_iload_n (q := 21) rfl rfl rfl rfl) ?_
    refine ok (m_iushr (q := 22) rfl rfl rfl) ?_
    refine ok (m_iconst (q := 23) rfl rfl rfl) ?_
    refine ok (m_iand (q := 24) rfl rfl rfl) ?_
    refine okp (m_ifeq (qt := 29) (qf := 27) rfl rfl (rg_o _) rfl rfl) (fun c3 => ?_) (fun c3 => ?_)
    · replace hp := ip c3 hp
      refine ok (m_sipush (q := 32) rfl rfl rfl) ?_
      refine ok (m_iload (q := 34) rfl rfl rfl rfl) ?_
      refine ok (m_isub (q := 35) rfl rfl rfl) ?_
      refine ok (m_aload_n (q := 36) rfl rfl rfl rfl) ?_
      refine ok (m_gfc (q := 39) rfl rfl rfl hr rfl rfl rfl) ?_
      refine ok (m_iload_n (q := 40) rfl rfl rfl rfl) ?_
      refine ok (m_iconst (q := 41) rfl rfl rfl) ?_
      refine ok (m_iadd (q := 42) rfl rfl rfl) ?_
      refine ok (m_bipush (q := 44) rfl rfl rfl) ?_
      refine ok (m_imul (q := 45) rfl rfl rfl) ?_
      refine ok (m_iload_n (q := 46) rfl rfl rfl rfl) ?_
      refine ok (m_iconst (q := 47) rfl rfl rfl) ?_
      refine ok (m_iload_n (q := 48) rfl rfl rfl rfl) ?_
      refine ok (m_ishl (q := 49) rfl rfl rfl) ?_
      refine ok (m_ior (q := 50) rfl rfl rfl) ?_
      refine ok (m_iadd (q := 51) rfl rfl rfl) ?_
      have g4 := hp
      refine ok (m_ials (q := 52) rfl rfl rfl hr rfl rfl g4 rfl) ?_
      refine ok (m_iadd (q := 53) rfl rfl rfl) ?_
      exact ok (m_reti rfl rfl) (ok_i hr (rg_wr _))
    · refine ok (m_iconst (q := 28) rfl rfl rfl) ?_
      exact ok (m_reti rfl rfl) (ok_i hr ⟨by decide, by decide⟩)
abbrev P_X0_isAnsweredUnlike : Nat → Option am_E := am_fy tb_X0_isAnsweredUnlike
def v_X0_isAnsweredUnlike (D : aD) (i0 : Int) (i1 : Int) : Int := if D 2103 (D 2301 i0) = D 2103 (D 2301 i1) then if D 2101 (D 2301 i0) = D 2101 (D 2301 i1) then if v_J6_bitCount_0f7a4 D (D 2002 (D 2300 i0)) = v_J6_bitCount_0f7a4 D (D 2002 (D 2300 i1)) then if 5 < wr ((wr ((D 2302 i0) - (D 2302 i1))).natAbs : Int) then 0 else if D 2303 i0 = D 2303 i1 then 0 else 1 else 0 else 0 else 0
theorem b_X0_isAnsweredUnlike (D : aD) (i0 : Int) (i1 : Int) : 0 ≤ v_X0_isAnsweredUnlike D i0 i1 ∧ v_X0_isAnsweredUnlike D i0 i1 ≤ 1 := b01 (fun c3 => b01 (fun c6 => b01 (fun c13 => b01 (fun c14 => ⟨by decide, by decide⟩) (fun c14 => b01 (fun c15 => ⟨by decide, by decide⟩) (fun c15 => ⟨by decide, by decide⟩))) (fun c13 => ⟨by decide, by decide⟩)) (fun c6 => ⟨by decide, by decide⟩)) (fun c3 => ⟨by decide, by decide⟩)
set_option maxRecDepth 100000 in
theorem ev_X0_isAnsweredUnlike {n : Nat} {A : aA} {D : aD} (i0 : Int) (i1 : Int) (f0 : D 913 i0 = 1) (f1 : D 913 i1 = 1) : Ev (n) 2 2 [am_r (some (A 13 i0)), am_r (some (A 13 i1))] A D (ri (v_X0_isAnsweredUnlike D i0 i1)) A D := by
  unfold v_X0_isAnsweredUnlike
  refine Ev_of (c := 1) (P := P_X0_isAnsweredUnlike) (lo := [some (am_r (some (A 13 i0))), some (am_r (some (A 13 i1)))]) rfl rfl rfl (fun d hd s hr => ?_)
  refine ok (m_aload_n (q := 1) rfl rfl rfl rfl) ?_
  have f_1 : D 911 (D 2301 i0) = 1 := Rp_f13_11 (D := D) (i := i0) hr f0
  refine ok (m_gfx (t := 13) (q := 4) (r := some (A 11 (D 2301 i0))) rfl rfl rfl hr rfl f0 rfl rfl rfl) ?_
  refine ok (m_gft (t := 11) (q := 7) rfl rfl rfl hr rfl f_1 rfl rfl rfl) ?_
  refine ok (m_aload_n (q := 8) rfl rfl rfl rfl) ?_
  have f_2 : D 911 (D 2301 i1) = 1 := Rp_f13_11 (D := D) (i := i1) hr f1
  refine ok (m_gfx (t := 13) (q := 11) (r := some (A 11 (D 2301 i1))) rfl rfl rfl hr rfl f1 rfl rfl rfl) ?_
  refine ok (m_gft (t := 11) (q := 14) rfl rfl rfl hr rfl f_2 rfl rfl rfl) ?_
  refine okp (m_cmpne (qt := 88) (qf := 17) rfl rfl (show rg (D 2103 (D 2301 i0)) from Rp_rg hr 2103 (D 2301 i0)) (show rg (D 2103 (D 2301 i1)) from Rp_rg hr 2103 (D 2301 i1)) rfl rfl) (fun c3 => ?_) (fun c3 => ?_)
  · refine ok (m_aload_n (q := 18) rfl rfl rfl rfl) ?_
    have f_4 : D 911 (D 2301 i0) = 1 := Rp_f13_11 (D := D) (i := i0) hr f0
    refine ok (m_gfx (t := 13) (q := 21) (r := some (A 11 (D 2301 i0))) rfl rfl rfl hr rfl f0 rfl rfl rfl) ?_
    refine ok (m_gft (t := 11) (q := 24) rfl rfl rfl hr rfl f_4 rfl rfl rfl) ?_
    refine ok (m_aload_n (q := 25) rfl rfl rfl rfl) ?_
    have f_5 : D 911 (D 2301 i1) = 1 := Rp_f13_11 (D := D) (i := i1) hr f1
    refine ok (m_gfx (t := 13) (q := 28) (r := some (A 11 (D 2301 i1))) rfl rfl rfl hr rfl f1 rfl rfl rfl) ?_
    refine ok (m_gft (t := 11) (q := 31) rfl rfl rfl hr rfl f_5 rfl rfl rfl) ?_
    refine okp (m_cmpne (qt := 88) (qf := 34) rfl rfl (show rg (D 2101 (D 2301 i0)) from Rp_rg hr 2101 (D 2301 i0)) (show rg (D 2101 (D 2301 i1)) from Rp_rg hr 2101 (D 2301 i1)) rfl rfl) (fun c6 => ?_) (fun c6 => ?_)
    · refine ok (m_aload_n (q := 35) rfl rfl rfl rfl) ?_
      have f_7 : D 910 (D 2300 i0) = 1 := Rp_f13_10 (D := D) (i := i0) hr f0
      refine ok (m_gfx (t := 13) (q := 38) (r := some (A 10 (D 2300 i0))) rfl rfl rfl hr rfl f0 rfl rfl rfl) ?_
      refine ok (m_gft (t := 10) (q := 41) rfl rfl rfl hr rfl f_7 rfl rfl rfl) ?_
      refine oke (e_ci (x_cs (q := 44) rfl rfl rfl rfl rfl rfl rfl rfl rfl) (ev_J6_bitCount_0f7a4 (D := D) (D 2002 (D 2300 i0)) (show rg (D 2002 (D 2300 i0)) from Rp_rg hr 2002 (D 2300 i0))) (Nat.le_trans (by decide) hd) hr) (fun s8 r9 => ?_)
      refine ok (m_aload_n (q := 45) rfl rfl rfl rfl) ?_
      have f_10 : D 910 (D 2300 i1) = 1 := Rp_f13_10 (D := D) (i := i1) r9 f1
      refine ok (m_gfx (t := 13) (q := 48) (r := some (A 10 (D 2300 i1))) rfl rfl rfl r9 rfl f1 rfl rfl rfl) ?_
      refine ok (m_gft (t := 10) (q := 51) rfl rfl rfl r9 rfl f_10 rfl rfl rfl) ?_
      refine oke (e_ci (x_cs (q := 54) rfl rfl rfl rfl rfl rfl rfl rfl rfl) (ev_J6_bitCount_0f7a4 (D := D) (D 2002 (D 2300 i1)) (show rg (D 2002 (D 2300 i1)) from Rp_rg r9 2002 (D 2300 i1))) (Nat.le_trans (by decide) hd) r9) (fun s11 r12 => ?_)
      refine okp (m_cmpne (qt := 88) (qf := 57) rfl rfl (Ev_rg (ev_J6_bitCount_0f7a4 (D := D) (D 2002 (D 2300 i0)) (show rg (D 2002 (D 2300 i0)) from Rp_rg hr 2002 (D 2300 i0))) hr) (Ev_rg (ev_J6_bitCount_0f7a4 (D := D) (D 2002 (D 2300 i1)) (show rg (D 2002 (D 2300 i1)) from Rp_rg r9 2002 (D 2300 i1))) r9) rfl rfl) (fun c13 => ?_) (fun c13 => ?_)
      · refine ok (m_aload_n (q := 58) rfl rfl rfl rfl) ?_
        refine ok (m_gft (t := 13) (q := 61) rfl rfl rfl r12 rfl f0 rfl rfl rfl) ?_
        refine ok (m_aload_n (q := 62) rfl rfl rfl rfl) ?_
        refine ok (m_gft (t := 13) (q := 65) rfl rfl rfl r12 rfl f1 rfl rfl rfl) ?_
        refine ok (m_isub (q := 66) rfl rfl rfl) ?_
        refine ok (m_abs (q := 69) rfl rfl rfl (rg_wr _) rfl) ?_
        refine ok (m_iconst (q := 70) rfl rfl rfl) ?_
        refine okp (m_cmpgt (qt := 88) (qf := 73) rfl rfl (rg_wr _) ⟨by decide, by decide⟩ rfl rfl) (fun c14 => ?_) (fun c14 => ?_)
        · refine ok (m_iconst (q := 89) rfl rfl rfl) ?_
          exact ok (m_retb rfl rfl ⟨by decide, by decide⟩) (ok_i r12 ⟨by decide, by decide⟩)
        · refine ok (m_aload_n (q := 74) rfl rfl rfl rfl) ?_
          refine ok (m_gft (t := 13) (q := 77) rfl rfl rfl r12 rfl f0 rfl rfl rfl) ?_
          refine ok (m_aload_n (q := 78) rfl rfl rfl rfl) ?_
          refine ok (m_gft (t := 13) (q := 81) rfl rfl rfl r12 rfl f1 rfl rfl rfl) ?_
          refine okp (m_cmpeq (qt := 88) (qf := 84) rfl rfl (show rg (D 2303 i0) from Rp_rg r12 2303 i0) (show rg (D 2303 i1) from Rp_rg r12 2303 i1) rfl rfl) (fun c15 => ?_) (fun c15 => ?_)
          · refine ok (m_iconst (q := 89) rfl rfl rfl) ?_
            exact ok (m_retb rfl rfl ⟨by decide, by decide⟩) (ok_i r12 ⟨by decide, by decide⟩)
          · refine ok (m_iconst (q := 85) rfl rfl rfl) ?_
            refine ok (m_goto (q := 89) rfl rfl rfl) ?_
            exact ok (m_retb rfl rfl ⟨by decide, by decide⟩) (ok_i r12 ⟨by decide, by decide⟩)
      · refine ok (m_iconst (q := 89) rfl rfl rfl) ?_
        exact ok (m_retb rfl rfl ⟨by decide, by decide⟩) (ok_i r12 ⟨by decide, by decide⟩)
    · refine ok (m_iconst (q := 89) rfl rfl rfl) ?_
      exact ok (m_retb rfl rfl ⟨by decide, by decide⟩) (ok_i hr ⟨by decide, by decide⟩)
  · refine ok (m_iconst (q := 89) rfl rfl rfl) ?_
    exact ok (m_retb rfl rfl ⟨by decide, by decide⟩) (ok_i hr ⟨by decide, by decide⟩)
