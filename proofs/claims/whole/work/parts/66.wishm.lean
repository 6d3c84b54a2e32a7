/-! Wishes: the reference. -/
section Wm
variable {n : Nat} {A A' : aA} {D D' D0 : aD} {d : Nat} {s : am_S}
abbrev P_X12_wish : Nat → Option am_E := am_fy tb_X12_wish
def K_X12_wish_50 (n : Nat) (A : aA) (D : aD) (a1 : Int) (a2 : Int) (l3 : Int64) (a5 : Int) (a6 : Int) (a7 : Int) (x : Int) (D' : aD) : Prop := Lp n 2 P_X12_wish 50 [some (am_r (some 70)), some (am_i (wz a1)), some (am_i (wz a2)), some (am_l l3), none, some (am_i (wz a5)), some (am_i (wz a6)), some (am_i (wz a7)), none] [] A D (ri x) A D'
def K_X12_wish_160 (n : Nat) (A : aA) (D : aD) (a1 : Int) (a2 : Int) (l3 : Int64) (a5 : Int) (a7 : Int) (a8 : Int) (x : Int) (D' : aD) : Prop := Lp n 2 P_X12_wish 160 [some (am_r (some 70)), some (am_i (wz a1)), some (am_i (wz a2)), some (am_l l3), none, some (am_i (wz a5)), none, some (am_i (wz a7)), some (am_i (wz a8))] [] A D (ri x) A D'
def K_X12_wish_189 (n : Nat) (A : aA) (D : aD) (a1 : Int) (a2 : Int) (l3 : Int64) (a5 : Int) (a7 : Int) (a8 : Int) (x : Int) (D' : aD) : Prop := Lp n 2 P_X12_wish 189 [some (am_r (some 70)), some (am_i (wz a1)), some (am_i (wz a2)), some (am_l l3), none, some (am_i (wz a5)), none, some (am_i (wz a7)), some (am_i (wz a8))] [] A D (ri x) A D'
set_option maxRecDepth 100000 in
theorem rl_X12_wish {n : Nat} {A : aA} {D D' : aD} (a1 : Int) (a2 : Int) (l3 : Int64) (h1 : rg a1) (h2 : rg a2) {x : Int} (hp : (if v_X12_isIn D a1 0 1 = 0 then (x = (-1) ∧ D' = D) else (if a1 = 0 then (if v_X12_isServant D a2 = 0 then (x = (-1) ∧ D' = D) else (if 0 ≤ o_lcmp l3 (0 : Int64) then K_X12_wish_50 (n) A D a1 a2 l3 0 0 60 x D' else (x = (-1) ∧ D' = D))) else (if v_X12_isPlace D a2 = 0 then (x = (-1) ∧ D' = D) else (if 0 ≤ o_lcmp l3 (0 : Int64) then K_X12_wish_50 (n) A D a1 a2 l3 0 0 60 x D' else (x = (-1) ∧ D' = D)))))) : Ev (n) (3) 186 [am_r (some 70), am_i (wz a1), am_i (wz a2), am_l l3] A D (ri x) A D' := by
  refine Ev_of (c := 2) (P := P_X12_wish) (lo := [some (am_r (some 70)), some (am_i (wz a1)), some (am_i (wz a2)), some (am_l l3), none, none, none, none, none]) rfl rfl rfl (fun d hd s hr => ?_)
  refine ok (m_iload_n (q := 1) rfl rfl rfl rfl) ?_
  refine ok (m_iconst (q := 2) rfl rfl rfl) ?_
  refine ok (m_iconst (q := 3) rfl rfl rfl) ?_
  refine oke (e_ci (x_cs (q := 6) rfl rfl rfl rfl rfl rfl rfl rfl rfl) (ev_X12_isIn (D := D) a1 0 1 h1 ⟨by decide, by decide⟩ ⟨by decide, by decide⟩) (Nat.le_trans (by decide) hd) hr) (fun s1 r2 => ?_)
  refine okc (m_ifeq (qt := 38) (qf := 9) rfl rfl (Ev_rg (ev_X12_isIn (D := D) a1 0 1 h1 ⟨by decide, by decide⟩ ⟨by decide, by decide⟩) hr) rfl rfl) (fun c3 => ?_) (fun c3 => ?_)
  · replace hp := ip c3 hp
    refine ok (m_iconst (q := 39) rfl rfl rfl) ?_
    exact ok (m_reti rfl rfl) (ok_iq r2 ⟨by decide, by decide⟩ hp)
  · replace hp := iq c3 hp
    refine ok (m_iload_n (q := 10) rfl rfl rfl rfl) ?_
    refine okc (m_ifne (qt := 24) (qf := 13) rfl rfl h1 rfl rfl) (fun c4 => ?_) (fun c4 => ?_)
    · replace hp := ip c4 hp
      refine ok (m_aload_n (q := 14) rfl rfl rfl rfl) ?_
      refine ok (m_iload_n (q := 15) rfl rfl rfl rfl) ?_
      refine oke (e_ci (x_cv (q := 18) rfl rfl rfl rfl rfl rfl rfl rfl rfl rfl (is_st r2 rfl rfl)) (ev_X12_isServant (D := D) a2 h2) (Nat.le_trans (by decide) hd) r2) (fun s5 r6 => ?_)
      refine okc (m_ifeq (qt := 38) (qf := 21) rfl rfl (Ev_rg (ev_X12_isServant (D := D) a2 h2) r2) rfl rfl) (fun c7 => ?_) (fun c7 => ?_)
      · replace hp := ip c7 hp
        refine ok (m_iconst (q := 39) rfl rfl rfl) ?_
        exact ok (m_reti rfl rfl) (ok_iq r6 ⟨by decide, by decide⟩ hp)
      · replace hp := iq c7 hp
        refine ok (m_goto (q := 32) rfl rfl rfl) ?_
        refine ok (m_lload_n (q := 33) rfl rfl rfl rfl) ?_
        refine ok (m_lconst (q := 34) rfl rfl rfl) ?_
        refine ok (m_lcmp (q := 35) rfl rfl rfl) ?_
        refine okc (m_ifge (qt := 40) (qf := 38) rfl rfl (rg_lcmp _ _) rfl rfl) (fun c8 => ?_) (fun c8 => ?_)
        · replace hp := ip c8 hp
          refine ok (m_iconst (q := 41) rfl rfl rfl) ?_
          refine ok (m_istore (q := 43) (lo' := [some (am_r (some 70)), some (am_i (wz a1)), some (am_i (wz a2)), some (am_l l3), none, some (am_i (wz 0)), none, none, none]) rfl rfl rfl rfl rfl) ?_
          refine ok (m_iconst (q := 44) rfl rfl rfl) ?_
          refine ok (m_istore (q := 46) (lo' := [some (am_r (some 70)), some (am_i (wz a1)), some (am_i (wz a2)), some (am_l l3), none, some (am_i (wz 0)), some (am_i (wz 0)), none, none]) rfl rfl rfl rfl rfl) ?_
          refine ok (m_bipush (q := 48) rfl rfl rfl) ?_
          refine ok (m_istore (q := 50) (lo' := [some (am_r (some 70)), some (am_i (wz a1)), some (am_i (wz a2)), some (am_l l3), none, some (am_i (wz 0)), some (am_i (wz 0)), some (am_i (wz 60)), none]) rfl rfl rfl rfl rfl) ?_
          exact hp d hd _ r6
        · replace hp := iq c8 hp
          refine ok (m_iconst (q := 39) rfl rfl rfl) ?_
          exact ok (m_reti rfl rfl) (ok_iq r6 ⟨by decide, by decide⟩ hp)
    · replace hp := iq c4 hp
      refine ok (m_aload_n (q := 25) rfl rfl rfl rfl) ?_
      refine ok (m_iload_n (q := 26) rfl rfl rfl rfl) ?_
      refine oke (e_ci (x_cv (q := 29) rfl rfl rfl rfl rfl rfl rfl rfl rfl rfl (is_st r2 rfl rfl)) (ev_X12_isPlace (D := D) a2 h2) (Nat.le_trans (by decide) hd) r2) (fun s9 r10 => ?_)
      refine okc (m_ifeq (qt := 38) (qf := 32) rfl rfl (Ev_rg (ev_X12_isPlace (D := D) a2 h2) r2) rfl rfl) (fun c11 => ?_) (fun c11 => ?_)
      · replace hp := ip c11 hp
        refine ok (m_iconst (q := 39) rfl rfl rfl) ?_
        exact ok (m_reti rfl rfl) (ok_iq r10 ⟨by decide, by decide⟩ hp)
      · replace hp := iq c11 hp
        refine ok (m_lload_n (q := 33) rfl rfl rfl rfl) ?_
        refine ok (m_lconst (q := 34) rfl rfl rfl) ?_
        refine ok (m_lcmp (q := 35) rfl rfl rfl) ?_
        refine okc (m_ifge (qt := 40) (qf := 38) rfl rfl (rg_lcmp _ _) rfl rfl) (fun c12 => ?_) (fun c12 => ?_)
        · replace hp := ip c12 hp
          refine ok (m_iconst (q := 41) rfl rfl rfl) ?_
          refine ok (m_istore (q := 43) (lo' := [some (am_r (some 70)), some (am_i (wz a1)), some (am_i (wz a2)), some (am_l l3), none, some (am_i (wz 0)), none, none, none]) rfl rfl rfl rfl rfl) ?_
          refine ok (m_iconst (q := 44) rfl rfl rfl) ?_
          refine ok (m_istore (q := 46) (lo' := [some (am_r (some 70)), some (am_i (wz a1)), some (am_i (wz a2)), some (am_l l3), none, some (am_i (wz 0)), some (am_i (wz 0)), none, none]) rfl rfl rfl rfl rfl) ?_
          refine ok (m_bipush (q := 48) rfl rfl rfl) ?_
          refine ok (m_istore (q := 50) (lo' := [some (am_r (some 70)), some (am_i (wz a1)), some (am_i (wz a2)), some (am_l l3), none, some (am_i (wz 0)), some (am_i (wz 0)), some (am_i (wz 60)), none]) rfl rfl rfl rfl rfl) ?_
          exact hp d hd _ r10
        · replace hp := iq c12 hp
          refine ok (m_iconst (q := 39) rfl rfl rfl) ?_
          exact ok (m_reti rfl rfl) (ok_iq r10 ⟨by decide, by decide⟩ hp)
set_option maxRecDepth 100000 in
theorem rl_X12_wish_50 {n : Nat} {A : aA} {D D' : aD} (a1 : Int) (a2 : Int) (l3 : Int64) (a5 : Int) (a6 : Int) (a7 : Int) (h1 : rg a1) (h2 : rg a2) (h5 : rg a5) (h6 : rg a6) (h7 : rg a7) {x : Int} (hp : (if a7 < 0 then (if a1 = 0 then K_X12_wish_160 (n) A D a1 a2 l3 a5 30 0 x D' else K_X12_wish_160 (n) A D a1 a2 l3 a5 24 0 x D') else (if o_l2i ((l3 >>> ((wz a7).toInt64 &&& 63)) &&& (31 : Int64)) = 0 then (if a5 = 0 then K_X12_wish_50 (n) A D a1 a2 l3 a5 a6 (wr (a7 + (-5))) x D' else (if o_l2i ((l3 >>> ((wz a7).toInt64 &&& 63)) &&& (31 : Int64)) = 0 then (x = (-1) ∧ D' = D) else (if a1 = 0 then (if v_X12_isPlace D (wr ((o_l2i ((l3 >>> ((wz a7).toInt64 &&& 63)) &&& (31 : Int64))) - 1)) = 0 then (x = (-1) ∧ D' = D) else (if o_and (o_shr a6 (o_l2i ((l3 >>> ((wz a7).toInt64 &&& 63)) &&& (31 : Int64)))) 1 = 1 then (x = (-1) ∧ D' = D) else K_X12_wish_50 (n) A D a1 a2 l3 (wr (a5 + 1)) (o_or a6 (o_shl 1 (o_l2i ((l3 >>> ((wz a7).toInt64 &&& 63)) &&& (31 : Int64))))) (wr (a7 + (-5))) x D')) else (if v_X12_isServant D (wr ((o_l2i ((l3 >>> ((wz a7).toInt64 &&& 63)) &&& (31 : Int64))) - 1)) = 0 then (x = (-1) ∧ D' = D) else (if o_and (o_shr a6 (o_l2i ((l3 >>> ((wz a7).toInt64 &&& 63)) &&& (31 : Int64)))) 1 = 1 then (x = (-1) ∧ D' = D) else K_X12_wish_50 (n) A D a1 a2 l3 (wr (a5 + 1)) (o_or a6 (o_shl 1 (o_l2i ((l3 >>> ((wz a7).toInt64 &&& 63)) &&& (31 : Int64))))) (wr (a7 + (-5))) x D'))))) else (if o_l2i ((l3 >>> ((wz a7).toInt64 &&& 63)) &&& (31 : Int64)) = 0 then (x = (-1) ∧ D' = D) else (if a1 = 0 then (if v_X12_isPlace D (wr ((o_l2i ((l3 >>> ((wz a7).toInt64 &&& 63)) &&& (31 : Int64))) - 1)) = 0 then (x = (-1) ∧ D' = D) else (if o_and (o_shr a6 (o_l2i ((l3 >>> ((wz a7).toInt64 &&& 63)) &&& (31 : Int64)))) 1 = 1 then (x = (-1) ∧ D' = D) else K_X12_wish_50 (n) A D a1 a2 l3 (wr (a5 + 1)) (o_or a6 (o_shl 1 (o_l2i ((l3 >>> ((wz a7).toInt64 &&& 63)) &&& (31 : Int64))))) (wr (a7 + (-5))) x D')) else (if v_X12_isServant D (wr ((o_l2i ((l3 >>> ((wz a7).toInt64 &&& 63)) &&& (31 : Int64))) - 1)) = 0 then (x = (-1) ∧ D' = D) else (if o_and (o_shr a6 (o_l2i ((l3 >>> ((wz a7).toInt64 &&& 63)) &&& (31 : Int64)))) 1 = 1 then (x = (-1) ∧ D' = D) else K_X12_wish_50 (n) A D a1 a2 l3 (wr (a5 + 1)) (o_or a6 (o_shl 1 (o_l2i ((l3 >>> ((wz a7).toInt64 &&& 63)) &&& (31 : Int64))))) (wr (a7 + (-5))) x D'))))))) : K_X12_wish_50 (n) A D a1 a2 l3 a5 a6 a7 x D' := by
  unfold K_X12_wish_50
  refine fun d hd s hr => ?_
  refine ok (m_iload (q := 52) rfl rfl rfl rfl) ?_
  refine okc (m_iflt (qt := 144) (qf := 55) rfl rfl h7 rfl rfl) (fun c13 => ?_) (fun c13 => ?_)
  · replace hp := ip c13 hp
    refine ok (m_iload_n (q := 145) rfl rfl rfl rfl) ?_
    refine okc (m_ifne (qt := 153) (qf := 148) rfl rfl h1 rfl rfl) (fun c14 => ?_) (fun c14 => ?_)
    · replace hp := ip c14 hp
      refine ok (m_bipush (q := 150) rfl rfl rfl) ?_
      refine ok (m_goto (q := 155) rfl rfl rfl) ?_
      refine ok (m_istore (q := 157) (lo' := [some (am_r (some 70)), some (am_i (wz a1)), some (am_i (wz a2)), some (am_l l3), none, some (am_i (wz a5)), some (am_i (wz a6)), some (am_i (wz 30)), none]) rfl rfl rfl rfl rfl) ?_
      refine ok (m_iconst (q := 158) rfl rfl rfl) ?_
      refine ok (m_istore (q := 160) (lo' := [some (am_r (some 70)), some (am_i (wz a1)), some (am_i (wz a2)), some (am_l l3), none, some (am_i (wz a5)), some (am_i (wz a6)), some (am_i (wz 30)), some (am_i (wz 0))]) rfl rfl rfl rfl rfl) ?_
      refine ok (mk rfl (lo' := [some (am_r (some 70)), some (am_i (wz a1)), some (am_i (wz a2)), some (am_l l3), none, some (am_i (wz a5)), none, some (am_i (wz 30)), some (am_i (wz 0))]) rfl) ?_
      exact hp d hd _ hr
    · replace hp := iq c14 hp
      refine ok (m_bipush (q := 155) rfl rfl rfl) ?_
      refine ok (m_istore (q := 157) (lo' := [some (am_r (some 70)), some (am_i (wz a1)), some (am_i (wz a2)), some (am_l l3), none, some (am_i (wz a5)), some (am_i (wz a6)), some (am_i (wz 24)), none]) rfl rfl rfl rfl rfl) ?_
      refine ok (m_iconst (q := 158) rfl rfl rfl) ?_
      refine ok (m_istore (q := 160) (lo' := [some (am_r (some 70)), some (am_i (wz a1)), some (am_i (wz a2)), some (am_l l3), none, some (am_i (wz a5)), some (am_i (wz a6)), some (am_i (wz 24)), some (am_i (wz 0))]) rfl rfl rfl rfl rfl) ?_
      refine ok (mk rfl (lo' := [some (am_r (some 70)), some (am_i (wz a1)), some (am_i (wz a2)), some (am_l l3), none, some (am_i (wz a5)), none, some (am_i (wz 24)), some (am_i (wz 0))]) rfl) ?_
      exact hp d hd _ hr
  · replace hp := iq c13 hp
    refine ok (m_lload_n (q := 56) rfl rfl rfl rfl) ?_
    refine ok (m_iload (q := 58) rfl rfl rfl rfl) ?_
    refine ok (m_lshr (q := 59) rfl rfl rfl) ?_
    refine ok (m_ldc2_w (q := 62) rfl rfl rfl) ?_
    refine ok (m_land (q := 63) rfl rfl rfl) ?_
    refine ok (m_l2i (q := 64) rfl rfl rfl) ?_
    refine ok (m_istore (q := 66) (lo' := [some (am_r (some 70)), some (am_i (wz a1)), some (am_i (wz a2)), some (am_l l3), none, some (am_i (wz a5)), some (am_i (wz a6)), some (am_i (wz a7)), some (am_i (wz (o_l2i ((l3 >>> ((wz a7).toInt64 &&& 63)) &&& (31 : Int64)))))]) rfl rfl rfl rfl rfl) ?_
    refine ok (m_iload (q := 68) rfl rfl rfl rfl) ?_
    refine okc (m_ifne (qt := 79) (qf := 71) rfl rfl (rg_o _) rfl rfl) (fun c15 => ?_) (fun c15 => ?_)
    · replace hp := ip c15 hp
      refine ok (m_iload (q := 73) rfl rfl rfl rfl) ?_
      refine okc (m_ifne (qt := 79) (qf := 76) rfl rfl h5 rfl rfl) (fun c16 => ?_) (fun c16 => ?_)
      · replace hp := ip c16 hp
        refine ok (m_goto (q := 138) rfl rfl rfl) ?_
        refine ok (m_iinc (q := 141) (lo' := [some (am_r (some 70)), some (am_i (wz a1)), some (am_i (wz a2)), some (am_l l3), none, some (am_i (wz a5)), some (am_i (wz a6)), some (am_i (wz (wr (a7 + (-5))))), some (am_i (wz (o_l2i ((l3 >>> ((wz a7).toInt64 &&& 63)) &&& (31 : Int64)))))]) rfl rfl rfl rfl rfl rfl rfl) ?_
        refine ok (m_goto (q := 50) rfl rfl rfl) ?_
        refine ok (mk rfl (lo' := [some (am_r (some 70)), some (am_i (wz a1)), some (am_i (wz a2)), some (am_l l3), none, some (am_i (wz a5)), some (am_i (wz a6)), some (am_i (wz (wr (a7 + (-5))))), none]) rfl) ?_
        exact hp d hd _ hr
      · replace hp := iq c16 hp
        refine ok (m_iload (q := 81) rfl rfl rfl rfl) ?_
        refine okc (m_ifeq (qt := 124) (qf := 84) rfl rfl (rg_o _) rfl rfl) (fun c17 => ?_) (fun c17 => ?_)
        · replace hp := ip c17 hp
          refine ok (m_iconst (q := 125) rfl rfl rfl) ?_
          exact ok (m_reti rfl rfl) (ok_iq hr ⟨by decide, by decide⟩ hp)
        · replace hp := iq c17 hp
          refine ok (m_iload_n (q := 85) rfl rfl rfl rfl) ?_
          refine okc (m_ifne (qt := 102) (qf := 88) rfl rfl h1 rfl rfl) (fun c18 => ?_) (fun c18 => ?_)
          · replace hp := ip c18 hp
            refine ok (m_aload_n (q := 89) rfl rfl rfl rfl) ?_
            refine ok (m_iload (q := 91) rfl rfl rfl rfl) ?_
            refine ok (m_iconst (q := 92) rfl rfl rfl) ?_
            refine ok (m_isub (q := 93) rfl rfl rfl) ?_
            refine oke (e_ci (x_cv (q := 96) rfl rfl rfl rfl rfl rfl rfl rfl rfl rfl (is_st hr rfl rfl)) (ev_X12_isPlace (D := D) (wr ((o_l2i ((l3 >>> ((wz a7).toInt64 &&& 63)) &&& (31 : Int64))) - 1)) (rg_wr _)) (Nat.le_trans (by decide) hd) hr) (fun s19 r20 => ?_)
            refine okc (m_ifeq (qt := 124) (qf := 99) rfl rfl (Ev_rg (ev_X12_isPlace (D := D) (wr ((o_l2i ((l3 >>> ((wz a7).toInt64 &&& 63)) &&& (31 : Int64))) - 1)) (rg_wr _)) hr) rfl rfl) (fun c21 => ?_) (fun c21 => ?_)
            · replace hp := ip c21 hp
              refine ok (m_iconst (q := 125) rfl rfl rfl) ?_
              exact ok (m_reti rfl rfl) (ok_iq r20 ⟨by decide, by decide⟩ hp)
            · replace hp := iq c21 hp
              refine ok (m_goto (q := 113) rfl rfl rfl) ?_
              refine ok (m_iload (q := 115) rfl rfl rfl rfl) ?_
              refine ok (m_iload (q := 117) rfl rfl rfl rfl) ?_
              refine ok (m_ishr (q := 118) rfl rfl rfl) ?_
              refine ok (m_iconst (q := 119) rfl rfl rfl) ?_
              refine ok (m_iand (q := 120) rfl rfl rfl) ?_
              refine ok (m_iconst (q := 121) rfl rfl rfl) ?_
              refine okc (m_cmpne (qt := 126) (qf := 124) rfl rfl (rg_o _) ⟨by decide, by decide⟩ rfl rfl) (fun c22 => ?_) (fun c22 => ?_)
              · replace hp := ip c22 hp
                refine ok (m_iconst (q := 125) rfl rfl rfl) ?_
                exact ok (m_reti rfl rfl) (ok_iq r20 ⟨by decide, by decide⟩ hp)
              · replace hp := iq c22 hp
                refine ok (m_iload (q := 128) rfl rfl rfl rfl) ?_
                refine ok (m_iconst (q := 129) rfl rfl rfl) ?_
                refine ok (m_iload (q := 131) rfl rfl rfl rfl) ?_
                refine ok (m_ishl (q := 132) rfl rfl rfl) ?_
                refine ok (m_ior (q := 133) rfl rfl rfl) ?_
                refine ok (m_istore (q := 135) (lo' := [some (am_r (some 70)), some (am_i (wz a1)), some (am_i (wz a2)), some (am_l l3), none, some (am_i (wz a5)), some (am_i (wz (o_or a6 (o_shl 1 (o_l2i ((l3 >>> ((wz a7).toInt64 &&& 63)) &&& (31 : Int64))))))), some (am_i (wz a7)), some (am_i (wz (o_l2i ((l3 >>> ((wz a7).toInt64 &&& 63)) &&& (31 : Int64)))))]) rfl rfl rfl rfl rfl) ?_
                refine ok (m_iinc (q := 138) (lo' := [some (am_r (some 70)), some (am_i (wz a1)), some (am_i (wz a2)), some (am_l l3), none, some (am_i (wz (wr (a5 + 1)))), some (am_i (wz (o_or a6 (o_shl 1 (o_l2i ((l3 >>> ((wz a7).toInt64 &&& 63)) &&& (31 : Int64))))))), some (am_i (wz a7)), some (am_i (wz (o_l2i ((l3 >>> ((wz a7).toInt64 &&& 63)) &&& (31 : Int64)))))]) rfl rfl rfl rfl rfl rfl rfl) ?_
                refine ok (m_iinc (q := 141) (lo' := [some (am_r (some 70)), some (am_i (wz a1)), some (am_i (wz a2)), some (am_l l3), none, some (am_i (wz (wr (a5 + 1)))), some (am_i (wz (o_or a6 (o_shl 1 (o_l2i ((l3 >>> ((wz a7).toInt64 &&& 63)) &&& (31 : Int64))))))), some (am_i (wz (wr (a7 + (-5))))), some (am_i (wz (o_l2i ((l3 >>> ((wz a7).toInt64 &&& 63)) &&& (31 : Int64)))))]) rfl rfl rfl rfl rfl rfl rfl) ?_
                refine ok (m_goto (q := 50) rfl rfl rfl) ?_
                refine ok (mk rfl (lo' := [some (am_r (some 70)), some (am_i (wz a1)), some (am_i (wz a2)), some (am_l l3), none, some (am_i (wz (wr (a5 + 1)))), some (am_i (wz (o_or a6 (o_shl 1 (o_l2i ((l3 >>> ((wz a7).toInt64 &&& 63)) &&& (31 : Int64))))))), some (am_i (wz (wr (a7 + (-5))))), none]) rfl) ?_
                exact hp d hd _ r20
          · replace hp := iq c18 hp
            refine ok (m_aload_n (q := 103) rfl rfl rfl rfl) ?_
            refine ok (m_iload (q := 105) rfl rfl rfl rfl) ?_
            refine ok (m_iconst (q := 106) rfl rfl rfl) ?_
            refine ok (m_isub (q := 107) rfl rfl rfl) ?_
            refine oke (e_ci (x_cv (q := 110) rfl rfl rfl rfl rfl rfl rfl rfl rfl rfl (is_st hr rfl rfl)) (ev_X12_isServant (D := D) (wr ((o_l2i ((l3 >>> ((wz a7).toInt64 &&& 63)) &&& (31 : Int64))) - 1)) (rg_wr _)) (Nat.le_trans (by decide) hd) hr) (fun s23 r24 => ?_)
            refine okc (m_ifeq (qt := 124) (qf := 113) rfl rfl (Ev_rg (ev_X12_isServant (D := D) (wr ((o_l2i ((l3 >>> ((wz a7).toInt64 &&& 63)) &&& (31 : Int64))) - 1)) (rg_wr _)) hr) rfl rfl) (fun c25 => ?_) (fun c25 => ?_)
            · replace hp := ip c25 hp
              refine ok (m_iconst (q := 125) rfl rfl rfl) ?_
              exact ok (m_reti rfl rfl) (ok_iq r24 ⟨by decide, by decide⟩ hp)
            · replace hp := iq c25 hp
              refine ok (m_iload (q := 115) rfl rfl rfl rfl) ?_
              refine ok (m_iload (q := 117) rfl rfl rfl rfl) ?_
              refine ok (m_ishr (q := 118) rfl rfl rfl) ?_
              refine ok (m_iconst (q := 119) rfl rfl rfl) ?_
              refine ok (m_iand (q := 120) rfl rfl rfl) ?_
              refine ok (m_iconst (q := 121) rfl rfl rfl) ?_
              refine okc (m_cmpne (qt := 126) (qf := 124) rfl rfl (rg_o _) ⟨by decide, by decide⟩ rfl rfl) (fun c26 => ?_) (fun c26 => ?_)
              · replace hp := ip c26 hp
                refine ok (m_iconst (q := 125) rfl rfl rfl) ?_
                exact ok (m_reti rfl rfl) (ok_iq r24 ⟨by decide, by decide⟩ hp)
              · replace hp := iq c26 hp
                refine ok (m_iload (q := 128) rfl rfl rfl rfl) ?_
                refine ok (m_iconst (q := 129) rfl rfl rfl) ?_
                refine ok (m_iload (q := 131) rfl rfl rfl rfl) ?_
                refine ok (m_ishl (q := 132) rfl rfl rfl) ?_
                refine ok (m_ior (q := 133) rfl rfl rfl) ?_
                refine ok (m_istore (q := 135) (lo' := [some (am_r (some 70)), some (am_i (wz a1)), some (am_i (wz a2)), some (am_l l3), none, some (am_i (wz a5)), some (am_i (wz (o_or a6 (o_shl 1 (o_l2i ((l3 >>> ((wz a7).toInt64 &&& 63)) &&& (31 : Int64))))))), some (am_i (wz a7)), some (am_i (wz (o_l2i ((l3 >>> ((wz a7).toInt64 &&& 63)) &&& (31 : Int64)))))]) rfl rfl rfl rfl rfl) ?_
                refine ok (m_iinc (q := 138) (lo' := [some (am_r (some 70)), some (am_i (wz a1)), some (am_i (wz a2)), some (am_l l3), none, some (am_i (wz (wr (a5 + 1)))), some (am_i (wz (o_or a6 (o_shl 1 (o_l2i ((l3 >>> ((wz a7).toInt64 &&& 63)) &&& (31 : Int64))))))), some (am_i (wz a7)), some (am_i (wz (o_l2i ((l3 >>> ((wz a7).toInt64 &&& 63)) &&& (31 : Int64)))))]) rfl rfl rfl rfl rfl rfl rfl) ?_
                refine ok (m_iinc (q := 141) (lo' := [some (am_r (some 70)), some (am_i (wz a1)), some (am_i (wz a2)), some (am_l l3), none, some (am_i (wz (wr (a5 + 1)))), some (am_i (wz (o_or a6 (o_shl 1 (o_l2i ((l3 >>> ((wz a7).toInt64 &&& 63)) &&& (31 : Int64))))))), some (am_i (wz (wr (a7 + (-5))))), some (am_i (wz (o_l2i ((l3 >>> ((wz a7).toInt64 &&& 63)) &&& (31 : Int64)))))]) rfl rfl rfl rfl rfl rfl rfl) ?_
                refine ok (m_goto (q := 50) rfl rfl rfl) ?_
                refine ok (mk rfl (lo' := [some (am_r (some 70)), some (am_i (wz a1)), some (am_i (wz a2)), some (am_l l3), none, some (am_i (wz (wr (a5 + 1)))), some (am_i (wz (o_or a6 (o_shl 1 (o_l2i ((l3 >>> ((wz a7).toInt64 &&& 63)) &&& (31 : Int64))))))), some (am_i (wz (wr (a7 + (-5))))), none]) rfl) ?_
                exact hp d hd _ r24
    · replace hp := iq c15 hp
      refine ok (m_iload (q := 81) rfl rfl rfl rfl) ?_
      refine okc (m_ifeq (qt := 124) (qf := 84) rfl rfl (rg_o _) rfl rfl) (fun c27 => ?_) (fun c27 => ?_)
      · replace hp := ip c27 hp
        refine ok (m_iconst (q := 125) rfl rfl rfl) ?_
        exact ok (m_reti rfl rfl) (ok_iq hr ⟨by decide, by decide⟩ hp)
      · replace hp := iq c27 hp
        refine ok (m_iload_n (q := 85) rfl rfl rfl rfl) ?_
        refine okc (m_ifne (qt := 102) (qf := 88) rfl rfl h1 rfl rfl) (fun c28 => ?_) (fun c28 => ?_)
        · replace hp := ip c28 hp
          refine ok (m_aload_n (q := 89) rfl rfl rfl rfl) ?_
          refine ok (m_iload (q := 91) rfl rfl rfl rfl) ?_
          refine ok (m_iconst (q := 92) rfl rfl rfl) ?_
          refine ok (m_isub (q := 93) rfl rfl rfl) ?_
          refine oke (e_ci (x_cv (q := 96) rfl rfl rfl rfl rfl rfl rfl rfl rfl rfl (is_st hr rfl rfl)) (ev_X12_isPlace (D := D) (wr ((o_l2i ((l3 >>> ((wz a7).toInt64 &&& 63)) &&& (31 : Int64))) - 1)) (rg_wr _)) (Nat.le_trans (by decide) hd) hr) (fun s29 r30 => ?_)
          refine okc (m_ifeq (qt := 124) (qf := 99) rfl rfl (Ev_rg (ev_X12_isPlace (D := D) (wr ((o_l2i ((l3 >>> ((wz a7).toInt64 &&& 63)) &&& (31 : Int64))) - 1)) (rg_wr _)) hr) rfl rfl) (fun c31 => ?_) (fun c31 => ?_)
          · replace hp := ip c31 hp
            refine ok (m_iconst (q := 125) rfl rfl rfl) ?_
            exact ok (m_reti rfl rfl) (ok_iq r30 ⟨by decide, by decide⟩ hp)
          · replace hp := iq c31 hp
            refine ok (m_goto (q := 113) rfl rfl rfl) ?_
            refine ok (m_iload (q := 115) rfl rfl rfl rfl) ?_
            refine ok (m_iload (q := 117) rfl rfl rfl rfl) ?_
            refine ok (m_ishr (q := 118) rfl rfl rfl) ?_
            refine ok (m_iconst (q := 119) rfl rfl rfl) ?_
            refine ok (m_iand (q := 120) rfl rfl rfl) ?_
            refine ok (m_iconst (q := 121) rfl rfl rfl) ?_
            refine okc (m_cmpne (qt := 126) (qf := 124) rfl rfl (rg_o _) ⟨by decide, by decide⟩ rfl rfl) (fun c32 => ?_) (fun c32 => ?_)
            · replace hp := ip c32 hp
              refine ok (m_iconst (q := 125) rfl rfl rfl) ?_
              exact ok (m_reti rfl rfl) (ok_iq r30 ⟨by decide, by decide⟩ hp)
            · replace hp := iq c32 hp
              refine ok (m_iload (q := 128) rfl rfl rfl rfl) ?_
              refine ok (m_iconst (q := 129) rfl rfl rfl) ?_
              refine ok (m_iload (q := 131) rfl rfl rfl rfl) ?_
              refine ok (m_ishl (q := 132) rfl rfl rfl) ?_
              refine ok (m_ior (q := 133) rfl rfl rfl) ?_
              refine ok (m_istore (q := 135) (lo' := [some (am_r (some 70)), some (am_i (wz a1)), some (am_i (wz a2)), some (am_l l3), none, some (am_i (wz a5)), some (am_i (wz (o_or a6 (o_shl 1 (o_l2i ((l3 >>> ((wz a7).toInt64 &&& 63)) &&& (31 : Int64))))))), some (am_i (wz a7)), some (am_i (wz (o_l2i ((l3 >>> ((wz a7).toInt64 &&& 63)) &&& (31 : Int64)))))]) rfl rfl rfl rfl rfl) ?_
              refine ok (m_iinc (q := 138) (lo' := [some (am_r (some 70)), some (am_i (wz a1)), some (am_i (wz a2)), some (am_l l3), none, some (am_i (wz (wr (a5 + 1)))), some (am_i (wz (o_or a6 (o_shl 1 (o_l2i ((l3 >>> ((wz a7).toInt64 &&& 63)) &&& (31 : Int64))))))), some (am_i (wz a7)), some (am_i (wz (o_l2i ((l3 >>> ((wz a7).toInt64 &&& 63)) &&& (31 : Int64)))))]) rfl rfl rfl rfl rfl rfl rfl) ?_
              refine ok (m_iinc (q := 141) (lo' := [some (am_r (some 70)), some (am_i (wz a1)), some (am_i (wz a2)), some (am_l l3), none, some (am_i (wz (wr (a5 + 1)))), some (am_i (wz (o_or a6 (o_shl 1 (o_l2i ((l3 >>> ((wz a7).toInt64 &&& 63)) &&& (31 : Int64))))))), some (am_i (wz (wr (a7 + (-5))))), some (am_i (wz (o_l2i ((l3 >>> ((wz a7).toInt64 &&& 63)) &&& (31 : Int64)))))]) rfl rfl rfl rfl rfl rfl rfl) ?_
              refine ok (m_goto (q := 50) rfl rfl rfl) ?_
              refine ok (mk rfl (lo' := [some (am_r (some 70)), some (am_i (wz a1)), some (am_i (wz a2)), some (am_l l3), none, some (am_i (wz (wr (a5 + 1)))), some (am_i (wz (o_or a6 (o_shl 1 (o_l2i ((l3 >>> ((wz a7).toInt64 &&& 63)) &&& (31 : Int64))))))), some (am_i (wz (wr (a7 + (-5))))), none]) rfl) ?_
              exact hp d hd _ r30
        · replace hp := iq c28 hp
          refine ok (m_aload_n (q := 103) rfl rfl rfl rfl) ?_
          refine ok (m_iload (q := 105) rfl rfl rfl rfl) ?_
          refine ok (m_iconst (q := 106) rfl rfl rfl) ?_
          refine ok (m_isub (q := 107) rfl rfl rfl) ?_
          refine oke (e_ci (x_cv (q := 110) rfl rfl rfl rfl rfl rfl rfl rfl rfl rfl (is_st hr rfl rfl)) (ev_X12_isServant (D := D) (wr ((o_l2i ((l3 >>> ((wz a7).toInt64 &&& 63)) &&& (31 : Int64))) - 1)) (rg_wr _)) (Nat.le_trans (by decide) hd) hr) (fun s33 r34 => ?_)
          refine okc (m_ifeq (qt := 124) (qf := 113) rfl rfl (Ev_rg (ev_X12_isServant (D := D) (wr ((o_l2i ((l3 >>> ((wz a7).toInt64 &&& 63)) &&& (31 : Int64))) - 1)) (rg_wr _)) hr) rfl rfl) (fun c35 => ?_) (fun c35 => ?_)
          · replace hp := ip c35 hp
            refine ok (m_iconst (q := 125) rfl rfl rfl) ?_
            exact ok (m_reti rfl rfl) (ok_iq r34 ⟨by decide, by decide⟩ hp)
          · replace hp := iq c35 hp
            refine ok (m_iload (q := 115) rfl rfl rfl rfl) ?_
            refine ok (m_iload (q := 117) rfl rfl rfl rfl) ?_
            refine ok (m_ishr (q := 118) rfl rfl rfl) ?_
            refine ok (m_iconst (q := 119) rfl rfl rfl) ?_
            refine ok (m_iand (q := 120) rfl rfl rfl) ?_
            refine ok (m_iconst (q := 121) rfl rfl rfl) ?_
            refine okc (m_cmpne (qt := 126) (qf := 124) rfl rfl (rg_o _) ⟨by decide, by decide⟩ rfl rfl) (fun c36 => ?_) (fun c36 => ?_)
            · replace hp := ip c36 hp
              refine ok (m_iconst (q := 125) rfl rfl rfl) ?_
              exact ok (m_reti rfl rfl) (ok_iq r34 ⟨by decide, by decide⟩ hp)
            · replace hp := iq c36 hp
              refine ok (m_iload (q := 128) rfl rfl rfl rfl) ?_
              refine ok (m_iconst (q := 129) rfl rfl rfl) ?_
              refine ok (m_iload (q := 131) rfl rfl rfl rfl) ?_
              refine ok (m_ishl (q := 132) rfl rfl rfl) ?_
              refine ok (m_ior (q := 133) rfl rfl rfl) ?_
              refine ok (m_istore (q := 135) (lo' := [some (am_r (some 70)), some (am_i (wz a1)), some (am_i (wz a2)), some (am_l l3), none, some (am_i (wz a5)), some (am_i (wz (o_or a6 (o_shl 1 (o_l2i ((l3 >>> ((wz a7).toInt64 &&& 63)) &&& (31 : Int64))))))), some (am_i (wz a7)), some (am_i (wz (o_l2i ((l3 >>> ((wz a7).toInt64 &&& 63)) &&& (31 : Int64)))))]) rfl rfl rfl rfl rfl) ?_
              refine ok (m_iinc (q := 138) (lo' := [some (am_r (some 70)), some (am_i (wz a1)), some (am_i (wz a2)), some (am_l l3), none, some (am_i (wz (wr (a5 + 1)))), some (am_i (wz (o_or a6 (o_shl 1 (o_l2i ((l3 >>> ((wz a7).toInt64 &&& 63)) &&& (31 : Int64))))))), some (am_i (wz a7)), some (am_i (wz (o_l2i ((l3 >>> ((wz a7).toInt64 &&& 63)) &&& (31 : Int64)))))]) rfl rfl rfl rfl rfl rfl rfl) ?_
              refine ok (m_iinc (q := 141) (lo' := [some (am_r (some 70)), some (am_i (wz a1)), some (am_i (wz a2)), some (am_l l3), none, some (am_i (wz (wr (a5 + 1)))), some (am_i (wz (o_or a6 (o_shl 1 (o_l2i ((l3 >>> ((wz a7).toInt64 &&& 63)) &&& (31 : Int64))))))), some (am_i (wz (wr (a7 + (-5))))), some (am_i (wz (o_l2i ((l3 >>> ((wz a7).toInt64 &&& 63)) &&& (31 : Int64)))))]) rfl rfl rfl rfl rfl rfl rfl) ?_
              refine ok (m_goto (q := 50) rfl rfl rfl) ?_
              refine ok (mk rfl (lo' := [some (am_r (some 70)), some (am_i (wz a1)), some (am_i (wz a2)), some (am_l l3), none, some (am_i (wz (wr (a5 + 1)))), some (am_i (wz (o_or a6 (o_shl 1 (o_l2i ((l3 >>> ((wz a7).toInt64 &&& 63)) &&& (31 : Int64))))))), some (am_i (wz (wr (a7 + (-5))))), none]) rfl) ?_
              exact hp d hd _ r34
set_option maxRecDepth 100000 in
theorem rl_X12_wish_160 {n : Nat} {A : aA} {D D' : aD} (a1 : Int) (a2 : Int) (l3 : Int64) (a5 : Int) (a7 : Int) (a8 : Int) (h1 : rg a1) (h2 : rg a2) (h5 : rg a5) (h7 : rg a7) (h8 : rg a8) {x : Int} (hp : (if a7 ≤ a8 then K_X12_wish_189 (n) A D a1 a2 l3 a5 a7 0 x D' else (p_X12_put D a1 (wr ((wr (a7 * a2)) + a8)) 0) ∧ K_X12_wish_160 (n) A (u_X12_put D a1 (wr ((wr (a7 * a2)) + a8)) 0) a1 a2 l3 a5 a7 (wr (a8 + 1)) x D')) : K_X12_wish_160 (n) A D a1 a2 l3 a5 a7 a8 x D' := by
  unfold K_X12_wish_160
  refine fun d hd s hr => ?_
  refine ok (m_iload (q := 162) rfl rfl rfl rfl) ?_
  refine ok (m_iload (q := 164) rfl rfl rfl rfl) ?_
  refine okc (m_cmpge (qt := 186) (qf := 167) rfl rfl h8 h7 rfl rfl) (fun c37 => ?_) (fun c37 => ?_)
  · replace hp := ip c37 hp
    refine ok (m_iconst (q := 187) rfl rfl rfl) ?_
    refine ok (m_istore (q := 189) (lo' := [some (am_r (some 70)), some (am_i (wz a1)), some (am_i (wz a2)), some (am_l l3), none, some (am_i (wz a5)), none, some (am_i (wz a7)), some (am_i (wz 0))]) rfl rfl rfl rfl rfl) ?_
    exact hp d hd _ hr
  · replace hp := iq c37 hp
    refine ok (m_aload_n (q := 168) rfl rfl rfl rfl) ?_
    refine ok (m_iload_n (q := 169) rfl rfl rfl rfl) ?_
    refine ok (m_iload (q := 171) rfl rfl rfl rfl) ?_
    refine ok (m_iload_n (q := 172) rfl rfl rfl rfl) ?_
    refine ok (m_imul (q := 173) rfl rfl rfl) ?_
    refine ok (m_iload (q := 175) rfl rfl rfl rfl) ?_
    refine ok (m_iadd (q := 176) rfl rfl rfl) ?_
    refine ok (m_iconst (q := 177) rfl rfl rfl) ?_
    obtain ⟨g40, hp⟩ := hp
    refine oke (e_cvd (x_cv (q := 180) rfl rfl rfl rfl rfl rfl rfl rfl rfl rfl (is_st hr rfl rfl)) (ev_X12_put (D := D) a1 (wr ((wr (a7 * a2)) + a8)) 0 h1 (rg_wr _) ⟨by decide, by decide⟩ g40) (Nat.le_trans (by decide) hd) hr) (fun s38 r39 => ?_)
    refine ok (m_iinc (q := 183) (lo' := [some (am_r (some 70)), some (am_i (wz a1)), some (am_i (wz a2)), some (am_l l3), none, some (am_i (wz a5)), none, some (am_i (wz a7)), some (am_i (wz (wr (a8 + 1))))]) rfl rfl rfl rfl rfl rfl rfl) ?_
    refine ok (m_goto (q := 160) rfl rfl rfl) ?_
    exact hp d hd _ r39
set_option maxRecDepth 100000 in
theorem rl_X12_wish_189 {n : Nat} {A : aA} {D D' : aD} (a1 : Int) (a2 : Int) (l3 : Int64) (a5 : Int) (a7 : Int) (a8 : Int) (h1 : rg a1) (h2 : rg a2) (h5 : rg a5) (h7 : rg a7) (h8 : rg a8) {x : Int} (hp : (if a5 ≤ a8 then (x = a5 ∧ D' = D) else (p_X12_put D a1 (wr ((wr ((wr (a7 * a2)) + (o_l2i ((l3 >>> ((wz (wr (5 * (wr ((wr (a5 - 1)) - a8))))).toInt64 &&& 63)) &&& (31 : Int64))))) - 1)) (wr (a8 + 1))) ∧ K_X12_wish_189 (n) A (u_X12_put D a1 (wr ((wr ((wr (a7 * a2)) + (o_l2i ((l3 >>> ((wz (wr (5 * (wr ((wr (a5 - 1)) - a8))))).toInt64 &&& 63)) &&& (31 : Int64))))) - 1)) (wr (a8 + 1))) a1 a2 l3 a5 a7 (wr (a8 + 1)) x D')) : K_X12_wish_189 (n) A D a1 a2 l3 a5 a7 a8 x D' := by
  unfold K_X12_wish_189
  refine fun d hd s hr => ?_
  refine ok (m_iload (q := 191) rfl rfl rfl rfl) ?_
  refine ok (m_iload (q := 193) rfl rfl rfl rfl) ?_
  refine okc (m_cmpge (qt := 234) (qf := 196) rfl rfl h8 h5 rfl rfl) (fun c41 => ?_) (fun c41 => ?_)
  · replace hp := ip c41 hp
    refine ok (m_iload (q := 236) rfl rfl rfl rfl) ?_
    exact ok (m_reti rfl rfl) (ok_iq hr h5 hp)
  · replace hp := iq c41 hp
    refine ok (m_aload_n (q := 197) rfl rfl rfl rfl) ?_
    refine ok (m_iload_n (q := 198) rfl rfl rfl rfl) ?_
    refine ok (m_iload (q := 200) rfl rfl rfl rfl) ?_
    refine ok (m_iload_n (q := 201) rfl rfl rfl rfl) ?_
    refine ok (m_imul (q := 202) rfl rfl rfl) ?_
    refine ok (m_lload_n (q := 203) rfl rfl rfl rfl) ?_
    refine ok (m_iconst (q := 204) rfl rfl rfl) ?_
    refine ok (m_iload (q := 206) rfl rfl rfl rfl) ?_
    refine ok (m_iconst (q := 207) rfl rfl rfl) ?_
    refine ok (m_isub (q := 208) rfl rfl rfl) ?_
    refine ok (m_iload (q := 210) rfl rfl rfl rfl) ?_
    refine ok (m_isub (q := 211) rfl rfl rfl) ?_
    refine ok (m_imul (q := 212) rfl rfl rfl) ?_
    refine ok (m_lshr (q := 213) rfl rfl rfl) ?_
    refine ok (m_ldc2_w (q := 216) rfl rfl rfl) ?_
    refine ok (m_land (q := 217) rfl rfl rfl) ?_
    refine ok (m_l2i (q := 218) rfl rfl rfl) ?_
    refine ok (m_iadd (q := 219) rfl rfl rfl) ?_
    refine ok (m_iconst (q := 220) rfl rfl rfl) ?_
    refine ok (m_isub (q := 221) rfl rfl rfl) ?_
    refine ok (m_iload (q := 223) rfl rfl rfl rfl) ?_
    refine ok (m_iconst (q := 224) rfl rfl rfl) ?_
    refine ok (m_iadd (q := 225) rfl rfl rfl) ?_
    obtain ⟨g44, hp⟩ := hp
    refine oke (e_cvd (x_cv (q := 228) rfl rfl rfl rfl rfl rfl rfl rfl rfl rfl (is_st hr rfl rfl)) (ev_X12_put (D := D) a1 (wr ((wr ((wr (a7 * a2)) + (o_l2i ((l3 >>> ((wz (wr (5 * (wr ((wr (a5 - 1)) - a8))))).toInt64 &&& 63)) &&& (31 : Int64))))) - 1)) (wr (a8 + 1)) h1 (rg_wr _) (rg_wr _) g44) (Nat.le_trans (by decide) hd) hr) (fun s42 r43 => ?_)
    refine ok (m_iinc (q := 231) (lo' := [some (am_r (some 70)), some (am_i (wz a1)), some (am_i (wz a2)), some (am_l l3), none, some (am_i (wz a5)), none, some (am_i (wz a7)), some (am_i (wz (wr (a8 + 1))))]) rfl rfl rfl rfl rfl rfl rfl) ?_
    refine ok (m_goto (q := 189) rfl rfl rfl) ?_
    exact hp d hd _ r43
abbrev wc (a : Int) : Nat := if a = 0 then 114 else 115
theorem put_eq {a i v : Int} : u_X12_put D a i v = up D (wc a) i v := by
  unfold u_X12_put wc
  by_cases c : a = 0
  · rw [if_pos c, if_pos c]
  · rw [if_neg c, if_neg c]
theorem K_wM {l : Int64} {o a1 a2 x : Int} (h0 : 0 ≤ o_lcmp l (0 : Int64)) (h1 : a1 = 0 ∨ a1 = 1) (hI : Iv D0) (h70 : D 70 = D0 70) (ho : o = if a1 = 0 then D0 70 3 else D0 70 1) (h2 : rg a2) : ∀ (m : Nat) (k st : Int), 0 ≤ k → k + m ≤ 13 → rg st → (∀ e, 1 ≤ e → e ≤ 31 → (sM st e ↔ ∃ j, 0 ≤ j ∧ j < k ∧ dgt l (m + j) = e)) → (wp l o m k = -1 → x = -1 ∧ D' = D) → (wp l o m k ≠ -1 → K_X12_wish_160 n A D a1 a2 l (wp l o m k) (if a1 = 0 then 30 else 24) 0 x D') → K_X12_wish_50 n A D a1 a2 l k st (5 * m - 5) x D' := by
  have hr1 : rg a1 := rgb (by omega) (by omega)
  have hc := hI.ct; unfold I_ct at hc
  have eP : ∀ z, v_X12_isPlace D z = v_X12_isPlace D0 z := fun z => by unfold v_X12_isPlace; rw [h70]; rfl
  have eS : ∀ z, v_X12_isServant D z = v_X12_isServant D0 z := fun z => by unfold v_X12_isServant; rw [h70]; rfl
  intro m
  induction m with
  | zero =>
    intro k st k0 k1 hst hs H1 H2
    refine rl_X12_wish_50 _ _ _ _ _ _ hr1 h2 (rgb (by omega) (by omega)) hst (rgb (by omega) (by omega)) ?_
    rw [if_pos (by omega)]
    have := H2 (show k ≠ -1 by omega)
    by_cases c : a1 = 0
    · rw [if_pos c] at this ⊢; exact this
    · rw [if_neg c] at this ⊢; exact this
  | succ m ih =>
    intro k st k0 k1 hst hs H1 H2
    have em : ((m + 1 : Nat) : Int) = (m : Int) + 1 := by omega
    have hb := dgt_b l m
    rw [em] at hs k1
    rw [wp] at H1 H2
    rw [show 5 * ((m + 1 : Nat) : Int) - 5 = 5 * (m : Int) by omega]
    refine rl_X12_wish_50 _ _ _ _ _ _ hr1 h2 (rgb (by omega) (by omega)) hst (rgb (by omega) (by omega)) ?_
    rw [if_neg (by omega), dgt_M h0 ⟨by omega, by omega⟩, wr_id (z := 5 * (m : Int) + -5) (by omega) (by omega), wr_id (z := k + 1) (by omega) (by omega), wr_id (z := dgt l m - 1) (by omega) (by omega), eP, eS, show 5 * (m : Int) + -5 = 5 * m - 5 by omega]
    by_cases c1 : dgt l m = 0
    · rw [if_pos c1] at H1 H2 ⊢
      by_cases c2 : k = 0
      · rw [if_pos c2] at H1 H2 ⊢
        subst c2
        exact ih 0 st (by omega) (by omega) hst (fun e e0 e1 => by rw [hs e e0 e1]; exact ⟨fun ⟨j, a, b, _⟩ => by omega, fun ⟨j, a, b, _⟩ => by omega⟩) H1 H2
      · rw [if_neg c2] at H1 ⊢
        rw [if_pos c1]
        exact H1 rfl
    · rw [if_neg c1] at H1 H2 ⊢
      rw [if_neg c1]
      have eo : ∀ X Y : Prop, (if a1 = 0 then (if v_X12_isPlace D0 (dgt l m - 1) = 0 then X else Y) else (if v_X12_isServant D0 (dgt l m - 1) = 0 then X else Y)) = if o < dgt l m then X else Y := fun X Y => by
        by_cases c : a1 = 0
        · rw [if_pos c] at ho ⊢
          by_cases c2 : o < dgt l m
          · rw [if_pos c2, if_pos]; exact Decidable.not_not.mp (fun z => by have := (isPl hI).mp z; omega)
          · rw [if_neg c2, if_neg]; exact (isPl hI).mpr (by omega)
        · rw [if_neg c] at ho ⊢
          by_cases c2 : o < dgt l m
          · rw [if_pos c2, if_pos]; exact Decidable.not_not.mp (fun z => by have := (isSv hI).mp z; omega)
          · rw [if_neg c2, if_neg]; exact (isSv hI).mpr (by omega)
      rw [eo]
      have ht := thr_b (fun k => dgt l (m + 1 + k)) (dgt l m) k k0
      by_cases c2 : o < dgt l m
      · rw [if_pos c2] at H1 ⊢; exact H1 rfl
      · rw [if_neg c2] at H1 H2 ⊢
        by_cases c3 : sM st (dgt l m)
        · obtain ⟨j, j0, j1, j2⟩ := (hs (dgt l m) (by omega) (by omega)).mp c3
          have c4 : ¬ thr (fun k => dgt l (m + 1 + k)) (dgt l m) k = 0 := by
            rcases ht with ⟨_, q⟩ | ⟨q, _⟩
            · exact absurd j2 (q j j0 j1)
            · omega
          rw [if_neg c4] at H1
          rw [if_pos c3]
          exact H1 rfl
        · have c4 : thr (fun k => dgt l (m + 1 + k)) (dgt l m) k = 0 := by
            rcases ht with ⟨q, _⟩ | ⟨_, j, j0, j1, q⟩
            · exact q
            · exact absurd ((hs (dgt l m) (by omega) (by omega)).mpr ⟨j, j0, j1, q⟩) c3
          rw [if_pos c4] at H1 H2
          rw [if_neg c3]
          refine ih (k + 1) _ (by omega) (by omega) (rg_o _) (fun e e0 e1 => ?_) H1 H2
          have zz := sM_o (s := st) (d := e) (e := dgt l m) ⟨by omega, by omega⟩ ⟨by omega, by omega⟩
          rw [zz, hs e e0 e1]
          constructor
          · rintro (q | ⟨j, j0, j1, q⟩)
            · exact ⟨0, by omega, by omega, by rw [show (m : Int) + 0 = m by omega]; exact q.symm⟩
            · exact ⟨j + 1, by omega, by omega, by rw [show (m : Int) + (j + 1) = m + 1 + j by omega]; exact q⟩
          · rintro ⟨j, j0, j1, q⟩
            by_cases z : j = 0
            · subst z; left; rw [show (m : Int) + 0 = m by omega] at q; exact q.symm
            · right; exact ⟨j - 1, by omega, by omega, by rw [show (m : Int) + 1 + (j - 1) = m + j by omega]; exact q⟩
def zrw (D : aD) (c : Nat) (b m : Int) : aD := fun c' z => if c' = c ∧ b ≤ z ∧ z < b + m then 0 else D c' z
theorem zrw_0 {c : Nat} {b : Int} : zrw D c b 0 = D := by
  funext c' z; exact if_neg (by omega)
theorem zrw_s {c : Nat} {b m : Int} (h : 0 ≤ m) : up (zrw D c b m) c (b + m) 0 = zrw D c b (m + 1) := by
  funext c' z
  unfold up zrw
  by_cases e : c' = c ∧ z = b + m
  · rw [if_pos e, if_pos (by omega)]
  · rw [if_neg e]
    by_cases e2 : c' = c ∧ b ≤ z ∧ z < b + m
    · rw [if_pos e2, if_pos (by omega)]
    · rw [if_neg e2, if_neg (by omega)]
theorem K_w160 {l : Int64} {a1 a2 x N M : Int} (h1 : rg a1) (hM : M = 30 ∨ M = 24) (h2 : 0 ≤ a2 ∧ M * a2 + M ≤ 720) (hN : rg N) (H : K_X12_wish_189 n A (zrw D (wc a1) (M * a2) M) a1 a2 l N M 0 x D') : K_X12_wish_160 n A D a1 a2 l N M 0 x D' := by
  have hMa : 0 ≤ M * a2 := by rcases hM with rfl | rfl <;> omega
  have ha : a2 ≤ 720 := by rcases hM with rfl | rfl <;> omega
  have key := dn_ind (K := fun j => K_X12_wish_160 n A (zrw D (wc a1) (M * a2) j) a1 a2 l N M j x D') (lo := 0) (N := M) ?_ ?_ 0 (by omega) (by omega)
  · simp only [zrw_0] at key; exact key
  · refine rl_X12_wish_160 _ _ _ _ _ _ h1 (rgb (by omega) (by omega)) hN (rgb (by omega) (by omega)) (rgb (by omega) (by omega)) ?_
    rw [if_pos (Int.le_refl _)]; exact H
  · intro j j0 j1 ih
    refine rl_X12_wish_160 _ _ _ _ _ _ h1 (rgb (by omega) (by omega)) hN (rgb (by omega) (by omega)) (rgb (by omega) (by omega)) ?_
    rw [if_neg (by omega), wr_id (z := M * a2) (by omega) (by omega), wr_id (z := M * a2 + j) (by omega) (by omega), wr_id (z := j + 1) (by omega) (by omega), put_eq, zrw_s j0]
    refine ⟨?_, ih⟩
    unfold p_X12_put
    split <;> omega
def uwf (D : aD) (c : Nat) (b : Int) (l : Int64) (N : Int) (j : Int) : aD := foi (fun E k => up E c (b + dgt l (N - 1 - k) - 1) (k + 1)) D j
theorem K_w189 {l : Int64} {a1 a2 N M : Int} (h0 : 0 ≤ o_lcmp l (0 : Int64)) (h1 : rg a1) (hM : M = 30 ∨ M = 24) (h2 : 0 ≤ a2 ∧ M * a2 + M ≤ 720) (hN : 0 ≤ N ∧ N ≤ 13) (hd : ∀ k, 0 ≤ k → k < N → 1 ≤ dgt l k ∧ dgt l k ≤ M) : K_X12_wish_189 n A D a1 a2 l N M 0 N (uwf D (wc a1) (M * a2) l N N) := by
  have hMa : 0 ≤ M * a2 := by rcases hM with rfl | rfl <;> omega
  have ha : a2 ≤ 720 := by rcases hM with rfl | rfl <;> omega
  refine dn_ind (K := fun j => K_X12_wish_189 n A (uwf D (wc a1) (M * a2) l N j) a1 a2 l N M j N (uwf D (wc a1) (M * a2) l N N)) (lo := 0) (N := N) ?_ ?_ 0 (by omega) (by omega)
  · refine rl_X12_wish_189 _ _ _ _ _ _ h1 (rgb (by omega) (by omega)) (rgb (by omega) (by omega)) (rgb (by omega) (by omega)) (rgb (by omega) (by omega)) ?_
    rw [if_pos (Int.le_refl _)]; exact ⟨rfl, rfl⟩
  · intro j j0 j1 ih
    have z := hd (N - 1 - j) (by omega) (by omega)
    refine rl_X12_wish_189 _ _ _ _ _ _ h1 (rgb (by omega) (by omega)) (rgb (by omega) (by omega)) (rgb (by omega) (by omega)) (rgb (by omega) (by omega)) ?_
    rw [if_neg (by omega), wr_id (z := M * a2) (by omega) (by omega), wr_id (z := N - 1) (by omega) (by omega), wr_id (z := N - 1 - j) (by omega) (by omega), wr_id (z := 5 * (N - 1 - j)) (by omega) (by omega), dgt_M h0 ⟨by omega, by omega⟩, wr_id (z := M * a2 + dgt l (N - 1 - j)) (by omega) (by omega), wr_id (z := M * a2 + dgt l (N - 1 - j) - 1) (by omega) (by omega), wr_id (z := j + 1) (by omega) (by omega), put_eq]
    have e : up (uwf D (wc a1) (M * a2) l N j) (wc a1) (M * a2 + dgt l (N - 1 - j) - 1) (j + 1) = uwf D (wc a1) (M * a2) l N (j + 1) := (foi_s (f := fun E k => up E (wc a1) (M * a2 + dgt l (N - 1 - k) - 1) (k + 1)) (b := D) j0).symm
    rw [e]
    refine ⟨?_, ih⟩
    unfold p_X12_put
    split <;> omega
/-- what stands in the row then -/
theorem uwf_p {c : Nat} {b N : Int} {l : Int64} (hinj : ∀ k, 0 ≤ k → k < N → ∀ k', k < k' → k' < N → dgt l k ≠ dgt l k') : ∀ j, 0 ≤ j → j ≤ N → (∀ c', c' ≠ c → uwf D c b l N j c' = D c') ∧ ∀ z, (∃ k, 0 ≤ k ∧ k < j ∧ z = b + dgt l (N - 1 - k) - 1 ∧ uwf D c b l N j c z = k + 1) ∨ ((∀ k, 0 ≤ k → k < j → z ≠ b + dgt l (N - 1 - k) - 1) ∧ uwf D c b l N j c z = D c z) := by
  unfold uwf
  refine foi_ind (α := aD) (Q := fun j E => (∀ c', c' ≠ c → E c' = D c') ∧ ∀ z, (∃ k, 0 ≤ k ∧ k < j ∧ z = b + dgt l (N - 1 - k) - 1 ∧ E c z = k + 1) ∨ ((∀ k, 0 ≤ k → k < j → z ≠ b + dgt l (N - 1 - k) - 1) ∧ E c z = D c z)) ⟨fun _ _ => rfl, fun z => Or.inr ⟨fun k a b => by omega, rfl⟩⟩ (fun j E j0 j1 q => ?_)
  refine ⟨fun c' hc => (up_cf hc).trans (q.1 c' hc), fun z => ?_⟩
  by_cases e : z = b + dgt l (N - 1 - j) - 1
  · subst e
    exact Or.inl ⟨j, j0, by omega, rfl, up_eq⟩
  · rw [up_i e]
    rcases q.2 z with ⟨k, a1, a2, a3, a4⟩ | ⟨a1, a2⟩
    · exact Or.inl ⟨k, a1, by omega, a3, a4⟩
    · refine Or.inr ⟨fun k k0 k1 => ?_, a2⟩
      by_cases e2 : k = j
      · subst e2; exact e
      · exact a1 k k0 (by omega)
theorem ev_wM {l : Int64} {o a1 a2 : Int} (h1 : a1 = 0 ∨ a1 = 1) (hI : Iv D0) (h70 : D 70 = D0 70) (ho : o = if a1 = 0 then D0 70 3 else D0 70 1) (h2 : 0 ≤ a2 ∧ a2 < if a1 = 0 then D0 70 1 else D0 70 3) (h0 : 0 ≤ o_lcmp l (0 : Int64)) (hw : wp l o 13 0 ≠ -1) : Ev n 3 186 [am_r (some 70), am_i (wz a1), am_i (wz a2), am_l l] A D (ri (wp l o 13 0)) A (uwf (zrw D (wc a1) ((if a1 = 0 then 30 else 24) * a2) (if a1 = 0 then 30 else 24)) (wc a1) ((if a1 = 0 then 30 else 24) * a2) l (wp l o 13 0) (wp l o 13 0)) := by
  have hc := hI.ct; unfold I_ct at hc
  have hr1 : rg a1 := rgb (by omega) (by omega)
  have ha2 : a2 ≤ 30 := by rcases h1 with rfl | rfl <;> simp at h2 <;> omega
  have hr2 : rg a2 := rgb (by omega) (by omega)
  have eP : ∀ z, v_X12_isPlace D z = v_X12_isPlace D0 z := fun z => by unfold v_X12_isPlace; rw [h70]; rfl
  have eS : ∀ z, v_X12_isServant D z = v_X12_isServant D0 z := fun z => by unfold v_X12_isServant; rw [h70]; rfl
  have hp := wp_p (l := l) (o := o) 13 0 (by omega) hw (fun k a b => by omega)
  have ho' : o ≤ if a1 = 0 then 30 else 24 := by
    rcases h1 with rfl | rfl
    · rw [if_pos rfl] at ho ⊢; omega
    · rw [if_neg (by decide)] at ho ⊢; omega
  have K50 : K_X12_wish_50 n A D a1 a2 l 0 0 (5 * (13 : Nat) - 5) (wp l o 13 0) (uwf (zrw D (wc a1) ((if a1 = 0 then 30 else 24) * a2) (if a1 = 0 then 30 else 24)) (wc a1) ((if a1 = 0 then 30 else 24) * a2) l (wp l o 13 0) (wp l o 13 0)) := by
    refine K_wM h0 h1 hI h70 ho hr2 13 0 0 (by omega) (by omega) rg0 (fun e e0 e1 => ⟨fun q => absurd q (sM_0 (by omega)), fun ⟨j, a, b, _⟩ => by omega⟩) (fun q => absurd q hw) (fun _ => ?_)
    have hM : (if a1 = 0 then (30 : Int) else 24) = 30 ∨ (if a1 = 0 then (30 : Int) else 24) = 24 := by split; exact Or.inl rfl; exact Or.inr rfl
    have hb : (if a1 = 0 then (30 : Int) else 24) * a2 + (if a1 = 0 then (30 : Int) else 24) ≤ 720 := by
      rcases h1 with rfl | rfl
      · rw [if_pos rfl] at h2 ⊢; omega
      · rw [if_neg (by decide)] at h2 ⊢; omega
    refine K_w160 hr1 hM ⟨h2.1, hb⟩ (rgb (by omega) (by omega)) ?_
    exact K_w189 h0 hr1 hM ⟨h2.1, hb⟩ ⟨hp.1, by omega⟩ (fun k k0 k1 => ⟨((hp.2.2 k k0 k1).1).1, Int.le_trans ((hp.2.2 k k0 k1).1).2 ho'⟩)
  refine rl_X12_wish a1 a2 l hr1 hr2 ?_
  rw [if_neg (isI.mpr (by omega)), eS, eP]
  by_cases c : a1 = 0
  · rw [if_pos c] at h2 ⊢
    rw [if_neg ((isSv hI).mpr h2), if_pos h0]
    exact K50
  · rw [if_neg c] at h2 ⊢
    rw [if_neg ((isPl hI).mpr h2), if_pos h0]
    exact K50
theorem ev_wMn {l : Int64} {o a1 a2 : Int} (hr1 : rg a1) (hr2 : rg a2) (hI : Iv D) (ho : o = if a1 = 0 then D 70 3 else D 70 1) (hq : ¬ ((a1 = 0 ∨ a1 = 1) ∧ (0 ≤ a2 ∧ a2 < if a1 = 0 then D 70 1 else D 70 3) ∧ 0 ≤ o_lcmp l (0 : Int64) ∧ wp l o 13 0 ≠ -1)) : Ev n 3 186 [am_r (some 70), am_i (wz a1), am_i (wz a2), am_l l] A D (ri (-1)) A D := by
  refine rl_X12_wish a1 a2 l hr1 hr2 ?_
  by_cases c0 : v_X12_isIn D a1 0 1 = 0
  · rw [if_pos c0]; exact ⟨rfl, rfl⟩
  rw [if_neg c0]
  have z0 := isI.mp c0
  have h1 : a1 = 0 ∨ a1 = 1 := by omega
  have K50 : 0 ≤ o_lcmp l (0 : Int64) → (0 ≤ a2 ∧ a2 < if a1 = 0 then D 70 1 else D 70 3) → K_X12_wish_50 n A D a1 a2 l 0 0 (5 * (13 : Nat) - 5) (-1) D := fun q q2 =>
    K_wM q h1 hI rfl ho hr2 13 0 0 (by omega) (by omega) rg0 (fun e e0 e1 => ⟨fun q => absurd q (sM_0 (by omega)), fun ⟨j, a, b, _⟩ => by omega⟩) (fun _ => ⟨rfl, rfl⟩) (fun hw => absurd ⟨h1, q2, q, hw⟩ hq)
  by_cases c : a1 = 0
  · rw [if_pos c] at K50 ⊢
    by_cases c1 : v_X12_isServant D a2 = 0
    · rw [if_pos c1]; exact ⟨rfl, rfl⟩
    rw [if_neg c1]
    by_cases c2 : 0 ≤ o_lcmp l (0 : Int64)
    · rw [if_pos c2]; exact K50 c2 ((isSv hI).mp c1)
    · rw [if_neg c2]; exact ⟨rfl, rfl⟩
  · rw [if_neg c] at K50 ⊢
    by_cases c1 : v_X12_isPlace D a2 = 0
    · rw [if_pos c1]; exact ⟨rfl, rfl⟩
    rw [if_neg c1]
    by_cases c2 : 0 ≤ o_lcmp l (0 : Int64)
    · rw [if_pos c2]; exact K50 c2 ((isPl hI).mp c1)
    · rw [if_neg c2]; exact ⟨rfl, rfl⟩
end Wm
