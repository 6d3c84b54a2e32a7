/-! Wishes. -/
section Wi
variable {n : Nat} {A A' : aA} {D D' : aD} {d : Nat} {s : am_S}
abbrev P_X11_readWishes : Nat → Option am_E := am_fy tb_X11_readWishes
def K_X11_readWishes_18 (n : Nat) (A : aA) (D : aD) (l1 : Int64) (a3 : Int) (a4 : Int) (l5 : Int64) (a7 : Int) (x : Int) (D' : aD) : Prop := Lp n 0 P_X11_readWishes 18 [some (am_r (some 32)), some (am_l l1), none, some (am_i (wz a3)), some (am_i (wz a4)), some (am_l l5), none, some (am_i (wz a7)), none] [] A D (ri x) A D'
set_option maxRecDepth 100000 in
theorem rl_X11_readWishes {n : Nat} {A : aA} {D D' : aD} (l1 : Int64) (a3 : Int) (h3 : rg a3) {x : Int} (hp : (if 0 ≤ o_lcmp l1 (0 : Int64) then K_X11_readWishes_18 (n + 1) A D l1 a3 0 (0 : Int64) 12 x D' else (x = (-1) ∧ D' = D))) : Ev (n + 1) (1) 117 [am_r (some 32), am_l l1, am_i (wz a3)] A D (ri x) A D' := by
  refine Ev_of (c := 0) (P := P_X11_readWishes) (lo := [some (am_r (some 32)), some (am_l l1), none, some (am_i (wz a3)), none, none, none, none, none]) rfl rfl rfl (fun d hd s hr => ?_)
  refine ok (m_lload_n (q := 1) rfl rfl rfl rfl) ?_
  refine ok (m_lconst (q := 2) rfl rfl rfl) ?_
  refine ok (m_lcmp (q := 3) rfl rfl rfl) ?_
  refine okc (m_ifge (qt := 8) (qf := 6) rfl rfl (rg_lcmp _ _) rfl rfl) (fun c1 => ?_) (fun c1 => ?_)
  · replace hp := ip c1 hp
    refine ok (m_iconst (q := 9) rfl rfl rfl) ?_
    refine ok (m_istore (q := 11) (lo' := [some (am_r (some 32)), some (am_l l1), none, some (am_i (wz a3)), some (am_i (wz 0)), none, none, none, none]) rfl rfl rfl rfl rfl) ?_
    refine ok (m_lconst (q := 12) rfl rfl rfl) ?_
    refine ok (m_lstore (q := 14) (lo' := [some (am_r (some 32)), some (am_l l1), none, some (am_i (wz a3)), some (am_i (wz 0)), some (am_l (0 : Int64)), none, none, none]) rfl rfl rfl rfl rfl) ?_
    refine ok (m_bipush (q := 16) rfl rfl rfl) ?_
    refine ok (m_istore (q := 18) (lo' := [some (am_r (some 32)), some (am_l l1), none, some (am_i (wz a3)), some (am_i (wz 0)), some (am_l (0 : Int64)), none, some (am_i (wz 12)), none]) rfl rfl rfl rfl rfl) ?_
    exact hp d hd _ hr
  · replace hp := iq c1 hp
    refine ok (m_iconst (q := 7) rfl rfl rfl) ?_
    exact ok (m_reti rfl rfl) (ok_iq hr ⟨by decide, by decide⟩ hp)
set_option maxRecDepth 100000 in
theorem rl_X11_readWishes_18 {n : Nat} {A : aA} {D D' : aD} (l1 : Int64) (a3 : Int) (a4 : Int) (l5 : Int64) (a7 : Int) (h3 : rg a3) (h4 : rg a4) (h7 : rg a7) {x : Int} (hp : (if a7 < 0 then (x = a4 ∧ D' = D) else (if o_and (o_l2i ((l1.toUInt64 >>> ((wz (wr (5 * a7))).toInt64.toUInt64 &&& Int64.toUInt64 63)).toInt64)) 31 = 0 then (if a4 = 0 then K_X11_readWishes_18 (n + 1) A D l1 a3 a4 l5 (wr (a7 + (-1))) x D' else (if o_and (o_l2i ((l1.toUInt64 >>> ((wz (wr (5 * a7))).toInt64.toUInt64 &&& Int64.toUInt64 63)).toInt64)) 31 = 0 then (x = (-1) ∧ D' = D) else (if a3 < o_and (o_l2i ((l1.toUInt64 >>> ((wz (wr (5 * a7))).toInt64.toUInt64 &&& Int64.toUInt64 63)).toInt64)) 31 then (x = (-1) ∧ D' = D) else (if o_lcmp (((l5.toUInt64 >>> ((wz (o_and (o_l2i ((l1.toUInt64 >>> ((wz (wr (5 * a7))).toInt64.toUInt64 &&& Int64.toUInt64 63)).toInt64)) 31)).toInt64.toUInt64 &&& Int64.toUInt64 63)).toInt64) &&& (1 : Int64)) (0 : Int64) = 0 then (0 ≤ a4 ∧ a4 < 13) ∧ K_X11_readWishes_18 (n + 1) A (up D 35 a4 (wr ((o_and (o_l2i ((l1.toUInt64 >>> ((wz (wr (5 * a7))).toInt64.toUInt64 &&& Int64.toUInt64 63)).toInt64)) 31) - 1))) l1 a3 (wr (a4 + 1)) (l5 ||| ((1 : Int64) <<< ((wz (o_and (o_l2i ((l1.toUInt64 >>> ((wz (wr (5 * a7))).toInt64.toUInt64 &&& Int64.toUInt64 63)).toInt64)) 31)).toInt64 &&& 63))) (wr (a7 + (-1))) x D' else (x = (-1) ∧ D' = D))))) else (if o_and (o_l2i ((l1.toUInt64 >>> ((wz (wr (5 * a7))).toInt64.toUInt64 &&& Int64.toUInt64 63)).toInt64)) 31 = 0 then (x = (-1) ∧ D' = D) else (if a3 < o_and (o_l2i ((l1.toUInt64 >>> ((wz (wr (5 * a7))).toInt64.toUInt64 &&& Int64.toUInt64 63)).toInt64)) 31 then (x = (-1) ∧ D' = D) else (if o_lcmp (((l5.toUInt64 >>> ((wz (o_and (o_l2i ((l1.toUInt64 >>> ((wz (wr (5 * a7))).toInt64.toUInt64 &&& Int64.toUInt64 63)).toInt64)) 31)).toInt64.toUInt64 &&& Int64.toUInt64 63)).toInt64) &&& (1 : Int64)) (0 : Int64) = 0 then (0 ≤ a4 ∧ a4 < 13) ∧ K_X11_readWishes_18 (n + 1) A (up D 35 a4 (wr ((o_and (o_l2i ((l1.toUInt64 >>> ((wz (wr (5 * a7))).toInt64.toUInt64 &&& Int64.toUInt64 63)).toInt64)) 31) - 1))) l1 a3 (wr (a4 + 1)) (l5 ||| ((1 : Int64) <<< ((wz (o_and (o_l2i ((l1.toUInt64 >>> ((wz (wr (5 * a7))).toInt64.toUInt64 &&& Int64.toUInt64 63)).toInt64)) 31)).toInt64 &&& 63))) (wr (a7 + (-1))) x D' else (x = (-1) ∧ D' = D))))))) : K_X11_readWishes_18 (n + 1) A D l1 a3 a4 l5 a7 x D' := by
  unfold K_X11_readWishes_18
  refine fun d hd s hr => ?_
  refine ok (m_iload (q := 20) rfl rfl rfl rfl) ?_
  refine okc (m_iflt (qt := 102) (qf := 23) rfl rfl h7 rfl rfl) (fun c2 => ?_) (fun c2 => ?_)
  · replace hp := ip c2 hp
    refine ok (m_iload (q := 104) rfl rfl rfl rfl) ?_
    exact ok (m_reti rfl rfl) (ok_iq hr h4 hp)
  · replace hp := iq c2 hp
    refine ok (m_lload_n (q := 24) rfl rfl rfl rfl) ?_
    refine ok (m_iconst (q := 25) rfl rfl rfl) ?_
    refine ok (m_iload (q := 27) rfl rfl rfl rfl) ?_
    refine ok (m_imul (q := 28) rfl rfl rfl) ?_
    refine ok (m_lushr (q := 29) rfl rfl rfl) ?_
    refine ok (m_l2i (q := 30) rfl rfl rfl) ?_
    refine ok (m_bipush (q := 32) rfl rfl rfl) ?_
    refine ok (m_iand (q := 33) rfl rfl rfl) ?_
    refine ok (m_istore (q := 35) (lo' := [some (am_r (some 32)), some (am_l l1), none, some (am_i (wz a3)), some (am_i (wz a4)), some (am_l l5), none, some (am_i (wz a7)), some (am_i (wz (o_and (o_l2i ((l1.toUInt64 >>> ((wz (wr (5 * a7))).toInt64.toUInt64 &&& Int64.toUInt64 63)).toInt64)) 31)))]) rfl rfl rfl rfl rfl) ?_
    refine ok (m_iload (q := 37) rfl rfl rfl rfl) ?_
    refine okc (m_ifne (qt := 48) (qf := 40) rfl rfl (rg_o _) rfl rfl) (fun c3 => ?_) (fun c3 => ?_)
    · replace hp := ip c3 hp
      refine ok (m_iload (q := 42) rfl rfl rfl rfl) ?_
      refine okc (m_ifne (qt := 48) (qf := 45) rfl rfl h4 rfl rfl) (fun c4 => ?_) (fun c4 => ?_)
      · replace hp := ip c4 hp
        refine ok (m_goto (q := 96) rfl rfl rfl) ?_
        refine ok (m_iinc (q := 99) (lo' := [some (am_r (some 32)), some (am_l l1), none, some (am_i (wz a3)), some (am_i (wz a4)), some (am_l l5), none, some (am_i (wz (wr (a7 + (-1))))), some (am_i (wz (o_and (o_l2i ((l1.toUInt64 >>> ((wz (wr (5 * a7))).toInt64.toUInt64 &&& Int64.toUInt64 63)).toInt64)) 31)))]) rfl rfl rfl rfl rfl rfl rfl) ?_
        refine ok (m_goto (q := 18) rfl rfl rfl) ?_
        refine ok (mk rfl (lo' := [some (am_r (some 32)), some (am_l l1), none, some (am_i (wz a3)), some (am_i (wz a4)), some (am_l l5), none, some (am_i (wz (wr (a7 + (-1))))), none]) rfl) ?_
        exact hp d hd _ hr
      · replace hp := iq c4 hp
        refine ok (m_iload (q := 50) rfl rfl rfl rfl) ?_
        refine okc (m_ifeq (qt := 71) (qf := 53) rfl rfl (rg_o _) rfl rfl) (fun c5 => ?_) (fun c5 => ?_)
        · replace hp := ip c5 hp
          refine ok (m_iconst (q := 72) rfl rfl rfl) ?_
          exact ok (m_reti rfl rfl) (ok_iq hr ⟨by decide, by decide⟩ hp)
        · replace hp := iq c5 hp
          refine ok (m_iload (q := 55) rfl rfl rfl rfl) ?_
          refine ok (m_iload_n (q := 56) rfl rfl rfl rfl) ?_
          refine okc (m_cmpgt (qt := 71) (qf := 59) rfl rfl (rg_o _) h3 rfl rfl) (fun c6 => ?_) (fun c6 => ?_)
          · replace hp := ip c6 hp
            refine ok (m_iconst (q := 72) rfl rfl rfl) ?_
            exact ok (m_reti rfl rfl) (ok_iq hr ⟨by decide, by decide⟩ hp)
          · replace hp := iq c6 hp
            refine ok (m_lload (q := 61) rfl rfl rfl rfl) ?_
            refine ok (m_iload (q := 63) rfl rfl rfl rfl) ?_
            refine ok (m_lushr (q := 64) rfl rfl rfl) ?_
            refine ok (m_lconst (q := 65) rfl rfl rfl) ?_
            refine ok (m_land (q := 66) rfl rfl rfl) ?_
            refine ok (m_lconst (q := 67) rfl rfl rfl) ?_
            refine ok (m_lcmp (q := 68) rfl rfl rfl) ?_
            refine okc (m_ifeq (qt := 73) (qf := 71) rfl rfl (rg_lcmp _ _) rfl rfl) (fun c7 => ?_) (fun c7 => ?_)
            · replace hp := ip c7 hp
              refine ok (m_lload (q := 75) rfl rfl rfl rfl) ?_
              refine ok (m_lconst (q := 76) rfl rfl rfl) ?_
              refine ok (m_iload (q := 78) rfl rfl rfl rfl) ?_
              refine ok (m_lshl (q := 79) rfl rfl rfl) ?_
              refine ok (m_lor (q := 80) rfl rfl rfl) ?_
              refine ok (m_lstore (q := 82) (lo' := [some (am_r (some 32)), some (am_l l1), none, some (am_i (wz a3)), some (am_i (wz a4)), some (am_l (l5 ||| ((1 : Int64) <<< ((wz (o_and (o_l2i ((l1.toUInt64 >>> ((wz (wr (5 * a7))).toInt64.toUInt64 &&& Int64.toUInt64 63)).toInt64)) 31)).toInt64 &&& 63)))), none, some (am_i (wz a7)), some (am_i (wz (o_and (o_l2i ((l1.toUInt64 >>> ((wz (wr (5 * a7))).toInt64.toUInt64 &&& Int64.toUInt64 63)).toInt64)) 31)))]) rfl rfl rfl rfl rfl) ?_
              refine ok (m_aload_n (q := 83) rfl rfl rfl rfl) ?_
              refine ok (m_gfc (q := 86) rfl rfl rfl hr rfl rfl rfl) ?_
              refine ok (m_iload (q := 88) rfl rfl rfl rfl) ?_
              refine ok (m_iload (q := 90) rfl rfl rfl rfl) ?_
              refine ok (m_iconst (q := 91) rfl rfl rfl) ?_
              refine ok (m_isub (q := 92) rfl rfl rfl) ?_
              obtain ⟨g10, hp⟩ := hp
              refine oke (e_ias (q := 93) rfl rfl rfl hr rfl rfl g10 (rg_wr _)) (fun s9 r8 => ?_)
              refine ok (m_iinc (q := 96) (lo' := [some (am_r (some 32)), some (am_l l1), none, some (am_i (wz a3)), some (am_i (wz (wr (a4 + 1)))), some (am_l (l5 ||| ((1 : Int64) <<< ((wz (o_and (o_l2i ((l1.toUInt64 >>> ((wz (wr (5 * a7))).toInt64.toUInt64 &&& Int64.toUInt64 63)).toInt64)) 31)).toInt64 &&& 63)))), none, some (am_i (wz a7)), some (am_i (wz (o_and (o_l2i ((l1.toUInt64 >>> ((wz (wr (5 * a7))).toInt64.toUInt64 &&& Int64.toUInt64 63)).toInt64)) 31)))]) rfl rfl rfl rfl rfl rfl rfl) ?_
              refine ok (m_iinc (q := 99) (lo' := [some (am_r (some 32)), some (am_l l1), none, some (am_i (wz a3)), some (am_i (wz (wr (a4 + 1)))), some (am_l (l5 ||| ((1 : Int64) <<< ((wz (o_and (o_l2i ((l1.toUInt64 >>> ((wz (wr (5 * a7))).toInt64.toUInt64 &&& Int64.toUInt64 63)).toInt64)) 31)).toInt64 &&& 63)))), none, some (am_i (wz (wr (a7 + (-1))))), some (am_i (wz (o_and (o_l2i ((l1.toUInt64 >>> ((wz (wr (5 * a7))).toInt64.toUInt64 &&& Int64.toUInt64 63)).toInt64)) 31)))]) rfl rfl rfl rfl rfl rfl rfl) ?_
              refine ok (m_goto (q := 18) rfl rfl rfl) ?_
              refine ok (mk rfl (lo' := [some (am_r (some 32)), some (am_l l1), none, some (am_i (wz a3)), some (am_i (wz (wr (a4 + 1)))), some (am_l (l5 ||| ((1 : Int64) <<< ((wz (o_and (o_l2i ((l1.toUInt64 >>> ((wz (wr (5 * a7))).toInt64.toUInt64 &&& Int64.toUInt64 63)).toInt64)) 31)).toInt64 &&& 63)))), none, some (am_i (wz (wr (a7 + (-1))))), none]) rfl) ?_
              exact hp d hd _ r8
            · replace hp := iq c7 hp
              refine ok (m_iconst (q := 72) rfl rfl rfl) ?_
              exact ok (m_reti rfl rfl) (ok_iq hr ⟨by decide, by decide⟩ hp)
    · replace hp := iq c3 hp
      refine ok (m_iload (q := 50) rfl rfl rfl rfl) ?_
      refine okc (m_ifeq (qt := 71) (qf := 53) rfl rfl (rg_o _) rfl rfl) (fun c11 => ?_) (fun c11 => ?_)
      · replace hp := ip c11 hp
        refine ok (m_iconst (q := 72) rfl rfl rfl) ?_
        exact ok (m_reti rfl rfl) (ok_iq hr ⟨by decide, by decide⟩ hp)
      · replace hp := iq c11 hp
        refine ok (m_iload (q := 55) rfl rfl rfl rfl) ?_
        refine ok (m_iload_n (q := 56) rfl rfl rfl rfl) ?_
        refine okc (m_cmpgt (qt := 71) (qf := 59) rfl rfl (rg_o _) h3 rfl rfl) (fun c12 => ?_) (fun c12 => ?_)
        · replace hp := ip c12 hp
          refine ok (m_iconst (q := 72) rfl rfl rfl) ?_
          exact ok (m_reti rfl rfl) (ok_iq hr ⟨by decide, by decide⟩ hp)
        · replace hp := iq c12 hp
          refine ok (m_lload (q := 61) rfl rfl rfl rfl) ?_
          refine ok (m_iload (q := 63) rfl rfl rfl rfl) ?_
          refine ok (m_lushr (q := 64) rfl rfl rfl) ?_
          refine ok (m_lconst (q := 65) rfl rfl rfl) ?_
          refine ok (m_land (q := 66) rfl rfl rfl) ?_
          refine ok (m_lconst (q := 67) rfl rfl rfl) ?_
          refine ok (m_lcmp (q := 68) rfl rfl rfl) ?_
          refine okc (m_ifeq (qt := 73) (qf := 71) rfl rfl (rg_lcmp _ _) rfl rfl) (fun c13 => ?_) (fun c13 => ?_)
          · replace hp := ip c13 hp
            refine ok (m_lload (q := 75) rfl rfl rfl rfl) ?_
            refine ok (m_lconst (q := 76) rfl rfl rfl) ?_
            refine ok (m_iload (q := 78) rfl rfl rfl rfl) ?_
            refine ok (m_lshl (q := 79) rfl rfl rfl) ?_
            refine ok (m_lor (q := 80) rfl rfl rfl) ?_
            refine ok (m_lstore (q := 82) (lo' := [some (am_r (some 32)), some (am_l l1), none, some (am_i (wz a3)), some (am_i (wz a4)), some (am_l (l5 ||| ((1 : Int64) <<< ((wz (o_and (o_l2i ((l1.toUInt64 >>> ((wz (wr (5 * a7))).toInt64.toUInt64 &&& Int64.toUInt64 63)).toInt64)) 31)).toInt64 &&& 63)))), none, some (am_i (wz a7)), some (am_i (wz (o_and (o_l2i ((l1.toUInt64 >>> ((wz (wr (5 * a7))).toInt64.toUInt64 &&& Int64.toUInt64 63)).toInt64)) 31)))]) rfl rfl rfl rfl rfl) ?_
            refine ok (m_aload_n (q := 83) rfl rfl rfl rfl) ?_
            refine ok (m_gfc (q := 86) rfl rfl rfl hr rfl rfl rfl) ?_
            refine ok (m_iload (q := 88) rfl rfl rfl rfl) ?_
            refine ok (m_iload (q := 90) rfl rfl rfl rfl) ?_
            refine ok (m_iconst (q := 91) rfl rfl rfl) ?_
            refine ok (m_isub (q := 92) rfl rfl rfl) ?_
            obtain ⟨g16, hp⟩ := hp
            refine oke (e_ias (q := 93) rfl rfl rfl hr rfl rfl g16 (rg_wr _)) (fun s15 r14 => ?_)
            refine ok (m_iinc (q := 96) (lo' := [some (am_r (some 32)), some (am_l l1), none, some (am_i (wz a3)), some (am_i (wz (wr (a4 + 1)))), some (am_l (l5 ||| ((1 : Int64) <<< ((wz (o_and (o_l2i ((l1.toUInt64 >>> ((wz (wr (5 * a7))).toInt64.toUInt64 &&& Int64.toUInt64 63)).toInt64)) 31)).toInt64 &&& 63)))), none, some (am_i (wz a7)), some (am_i (wz (o_and (o_l2i ((l1.toUInt64 >>> ((wz (wr (5 * a7))).toInt64.toUInt64 &&& Int64.toUInt64 63)).toInt64)) 31)))]) rfl rfl rfl rfl rfl rfl rfl) ?_
            refine ok (m_iinc (q := 99) (lo' := [some (am_r (some 32)), some (am_l l1), none, some (am_i (wz a3)), some (am_i (wz (wr (a4 + 1)))), some (am_l (l5 ||| ((1 : Int64) <<< ((wz (o_and (o_l2i ((l1.toUInt64 >>> ((wz (wr (5 * a7))).toInt64.toUInt64 &&& Int64.toUInt64 63)).toInt64)) 31)).toInt64 &&& 63)))), none, some (am_i (wz (wr (a7 + (-1))))), some (am_i (wz (o_and (o_l2i ((l1.toUInt64 >>> ((wz (wr (5 * a7))).toInt64.toUInt64 &&& Int64.toUInt64 63)).toInt64)) 31)))]) rfl rfl rfl rfl rfl rfl rfl) ?_
            refine ok (m_goto (q := 18) rfl rfl rfl) ?_
            refine ok (mk rfl (lo' := [some (am_r (some 32)), some (am_l l1), none, some (am_i (wz a3)), some (am_i (wz (wr (a4 + 1)))), some (am_l (l5 ||| ((1 : Int64) <<< ((wz (o_and (o_l2i ((l1.toUInt64 >>> ((wz (wr (5 * a7))).toInt64.toUInt64 &&& Int64.toUInt64 63)).toInt64)) 31)).toInt64 &&& 63)))), none, some (am_i (wz (wr (a7 + (-1))))), none]) rfl) ?_
            exact hp d hd _ r14
          · replace hp := iq c13 hp
            refine ok (m_iconst (q := 72) rfl rfl rfl) ?_
            exact ok (m_reti rfl rfl) (ok_iq hr ⟨by decide, by decide⟩ hp)
/-- how many digits a row has from the m-th down, n stand before them; -1: not as told -/
def wp (l : Int64) (o : Int) : Nat → Int → Int
  | 0, n => n
  | m + 1, n => if dgt l m = 0 then (if n = 0 then wp l o m 0 else -1) else if o < dgt l m then -1 else if thr (fun k => dgt l (m + 1 + k)) (dgt l m) n = 0 then wp l o m (n + 1) else -1
theorem wp_p {l : Int64} {o : Int} : ∀ (m : Nat) (n : Int), 0 ≤ n → wp l o m n ≠ -1 → (∀ k, 0 ≤ k → k < n → (1 ≤ dgt l (m + k) ∧ dgt l (m + k) ≤ o) ∧ ∀ k', k < k' → k' < n → dgt l (m + k) ≠ dgt l (m + k')) → 0 ≤ wp l o m n ∧ wp l o m n ≤ m + n ∧ ∀ k, 0 ≤ k → k < wp l o m n → (1 ≤ dgt l k ∧ dgt l k ≤ o) ∧ ∀ k', k < k' → k' < wp l o m n → dgt l k ≠ dgt l k' := by
  intro m
  induction m with
  | zero =>
    intro n n0 _ h
    refine ⟨n0, by show n ≤ _; omega, fun k k0 k1 => ?_⟩
    have z := h k k0 k1
    rw [show ((0 : Nat) : Int) + k = k by omega] at z
    refine ⟨z.1, fun k' a b => ?_⟩
    have y := z.2 k' a b
    rwa [show ((0 : Nat) : Int) + k' = k' by omega] at y
  | succ m ih =>
    intro n n0 hw h
    have em : ((m + 1 : Nat) : Int) = (m : Int) + 1 := by omega
    rw [wp] at hw ⊢
    by_cases c1 : dgt l m = 0
    · rw [if_pos c1] at hw ⊢
      by_cases c2 : n = 0
      · rw [if_pos c2] at hw ⊢
        have := ih 0 (by omega) hw (fun k a b => by omega)
        exact ⟨this.1, by omega, this.2.2⟩
      · rw [if_neg c2] at hw; exact absurd rfl hw
    · rw [if_neg c1] at hw ⊢
      by_cases c2 : o < dgt l m
      · rw [if_pos c2] at hw; exact absurd rfl hw
      · rw [if_neg c2] at hw ⊢
        by_cases c3 : thr (fun k => dgt l (m + 1 + k)) (dgt l m) n = 0
        · rw [if_pos c3] at hw ⊢
          have hb := dgt_b l m
          have ht : ∀ k, 0 ≤ k → k < n → dgt l (m + 1 + k) ≠ dgt l m := by
            rcases thr_b (fun k => dgt l (m + 1 + k)) (dgt l m) n n0 with ⟨_, q⟩ | ⟨q, _⟩
            · exact q
            · omega
          have := ih (n + 1) (by omega) hw (fun k k0 k1 => ?_)
          · refine ⟨this.1, by omega, this.2.2⟩
          · by_cases e : k = 0
            · subst e
              rw [show (m : Int) + 0 = m by omega]
              refine ⟨by omega, fun k' a b => ?_⟩
              have y := ht (k' - 1) (by omega) (by omega)
              rw [show (m : Int) + 1 + (k' - 1) = m + k' by omega] at y
              exact Ne.symm y
            · have z := h (k - 1) (by omega) (by omega)
              rw [em, show (m : Int) + 1 + (k - 1) = m + k by omega] at z
              refine ⟨z.1, fun k' a b => ?_⟩
              have y := z.2 (k' - 1) (by omega) (by omega)
              rwa [show (m : Int) + 1 + (k' - 1) = m + k' by omega] at y
        · rw [if_neg c3] at hw; exact absurd rfl hw
theorem K_rwx {l : Int64} {o : Int} (ho : rg o) : ∀ (m : Nat) (n : Int) (st : Int64) (D : aD), 0 ≤ n → n + m ≤ 13 → (∀ e, 1 ≤ e → e ≤ 31 → (sX st e ↔ ∀ k, 0 ≤ k → k < n → dgt l (m + k) ≠ e)) → (∀ j, 0 ≤ j → j < n → D 35 j = dgt l (m + n - 1 - j) - 1) → ∃ D', (∀ c, c ≠ 35 → D' c = D c) ∧ (wp l o m n ≠ -1 → ∀ j, 0 ≤ j → j < wp l o m n → D' 35 j = dgt l (wp l o m n - 1 - j) - 1) ∧ ∀ N A, K_X11_readWishes_18 (N + 1) A D l o n st (m - 1) (wp l o m n) D' := by
  intro m
  induction m with
  | zero =>
    intro n st D n0 n1 hs hrow
    refine ⟨D, fun _ _ => rfl, fun _ j j0 j1 => ?_, fun N A => rl_X11_readWishes_18 _ _ _ _ _ ho (rgb (by omega) (by omega)) (rgb (by omega) (by omega)) ?_⟩
    · show D 35 j = dgt l (n - 1 - j) - 1
      have := hrow j j0 j1
      rwa [show ((0 : Nat) : Int) + n - 1 - j = n - 1 - j by omega] at this
    · rw [if_pos (by omega)]; exact ⟨rfl, rfl⟩
  | succ m ih =>
    intro n st D n0 n1 hs hrow
    have em : ((m + 1 : Nat) : Int) = (m : Int) + 1 := by omega
    have hb := dgt_b l m
    rw [em] at hs hrow n1
    rw [wp]
    by_cases c1 : dgt l m = 0
    · rw [if_pos c1]
      by_cases c2 : n = 0
      · subst c2
        rw [if_pos rfl]
        obtain ⟨D', a, b, c⟩ := ih 0 st D (by omega) (by omega) (fun e e0 e1 => by rw [hs e e0 e1]; exact ⟨fun _ k k0 k1 => by omega, fun _ k k0 k1 => by omega⟩) (fun j j0 j1 => by omega)
        refine ⟨D', a, b, fun N A => ?_⟩
        rw [show ((m + 1 : Nat) : Int) - 1 = m by omega]
        refine rl_X11_readWishes_18 _ _ _ _ _ ho rg0 (rgb (by omega) (by omega)) ?_
        rw [if_neg (by omega), if_pos c1, if_pos rfl, wr_id (by omega) (by omega), ← Int.sub_eq_add_neg]
        exact c N A
      · rw [if_neg c2]
        refine ⟨D, fun _ _ => rfl, fun q => absurd rfl q, fun N A => ?_⟩
        rw [show ((m + 1 : Nat) : Int) - 1 = m by omega]
        refine rl_X11_readWishes_18 _ _ _ _ _ ho (rgb (by omega) (by omega)) (rgb (by omega) (by omega)) ?_
        rw [if_neg (by omega), if_pos c1, if_neg c2, if_pos c1]
        exact ⟨rfl, rfl⟩
    · rw [if_neg c1]
      by_cases c2 : o < dgt l m
      · rw [if_pos c2]
        refine ⟨D, fun _ _ => rfl, fun q => absurd rfl q, fun N A => ?_⟩
        rw [show ((m + 1 : Nat) : Int) - 1 = m by omega]
        refine rl_X11_readWishes_18 _ _ _ _ _ ho (rgb (by omega) (by omega)) (rgb (by omega) (by omega)) ?_
        rw [if_neg (by omega), if_neg c1, if_neg c1, if_pos c2]
        exact ⟨rfl, rfl⟩
      · rw [if_neg c2]
        have ht := thr_b (fun k => dgt l (m + 1 + k)) (dgt l m) n n0
        by_cases c3 : sX st (dgt l m)
        · have c3' := (hs (dgt l m) (by omega) (by omega)).mp c3
          have c4 : thr (fun k => dgt l (m + 1 + k)) (dgt l m) n = 0 := by
            rcases ht with ⟨q, _⟩ | ⟨_, k, k0, k1, q⟩
            · exact q
            · exact absurd q (c3' k k0 k1)
          rw [if_pos c4]
          have Q1 : ∀ e, 1 ≤ e → e ≤ 31 → (sX (st ||| ((1 : Int64) <<< ((wz (dgt l m)).toInt64 &&& 63))) e ↔ ∀ k, 0 ≤ k → k < n + 1 → dgt l (m + k) ≠ e) := by
            intro e e0 e1
            have zz := sX_o (s := st) (d := e) (e := dgt l m) ⟨by omega, by omega⟩ ⟨by omega, by omega⟩
            rw [zz, hs e e0 e1]
            constructor
            · rintro ⟨q1, q2⟩ k k0 k1
              by_cases z : k = 0
              · subst z; rw [show (m : Int) + 0 = m by omega]; exact Ne.symm q1
              · have y := q2 (k - 1) (by omega) (by omega)
                rwa [show (m : Int) + 1 + (k - 1) = m + k by omega] at y
            · intro q
              refine ⟨?_, fun k k0 k1 => ?_⟩
              · have y := q 0 (by omega) (by omega)
                rw [show (m : Int) + 0 = m by omega] at y; exact Ne.symm y
              · have y := q (k + 1) (by omega) (by omega)
                rwa [show (m : Int) + (k + 1) = m + 1 + k by omega] at y
          have Q2 : ∀ j, 0 ≤ j → j < n + 1 → up D 35 n (dgt l m - 1) 35 j = dgt l (m + (n + 1) - 1 - j) - 1 := by
            intro j j0 j1
            by_cases z : j = n
            · subst z; rw [up_eq, show (m : Int) + (j + 1) - 1 - j = m by omega]
            · rw [up_i z, hrow j j0 (by omega), show (m : Int) + 1 + n - 1 - j = m + (n + 1) - 1 - j by omega]
          obtain ⟨D', a, b, c⟩ := ih (n + 1) (st ||| ((1 : Int64) <<< ((wz (dgt l m)).toInt64 &&& 63))) (up D 35 n (dgt l m - 1)) (by omega) (by omega) Q1 Q2
          refine ⟨D', fun c' hc => (a c' hc).trans (up_cf hc), b, fun N A => ?_⟩
          rw [show ((m + 1 : Nat) : Int) - 1 = m by omega]
          refine rl_X11_readWishes_18 _ _ _ _ _ ho (rgb (by omega) (by omega)) (rgb (by omega) (by omega)) ?_
          rw [if_neg (by omega), if_neg c1, if_neg c1, if_neg c2, if_pos c3]
          refine ⟨by omega, ?_⟩
          rw [wr_id (z := dgt l m - 1) (by omega) (by omega), wr_id (z := n + 1) (by omega) (by omega), wr_id (z := (m : Int) + -1) (by omega) (by omega), ← Int.sub_eq_add_neg]
          exact c N A
        · have c4 : ¬ thr (fun k => dgt l (m + 1 + k)) (dgt l m) n = 0 := by
            intro q
            rcases ht with ⟨_, q2⟩ | ⟨q2, _⟩
            · exact c3 ((hs (dgt l m) (by omega) (by omega)).mpr q2)
            · omega
          rw [if_neg c4]
          refine ⟨D, fun _ _ => rfl, fun q => absurd rfl q, fun N A => ?_⟩
          rw [show ((m + 1 : Nat) : Int) - 1 = m by omega]
          refine rl_X11_readWishes_18 _ _ _ _ _ ho (rgb (by omega) (by omega)) (rgb (by omega) (by omega)) ?_
          rw [if_neg (by omega), if_neg c1, if_neg c1, if_neg c2, if_neg c3]
          exact ⟨rfl, rfl⟩
def w_rw (_ : aD) (l : Int64) (o : Int) : Int := if 0 ≤ o_lcmp l 0 then wp l o 13 0 else -1
theorem rw_ex (D : aD) (l : Int64) (o : Int) : ∃ D', (∀ c, c ≠ 35 → D' c = D c) ∧ (rg o → w_rw D l o ≠ -1 → ∀ j, 0 ≤ j → j < w_rw D l o → D' 35 j = dgt l (w_rw D l o - 1 - j) - 1) ∧ (rg o → ∀ N A, Ev (N + 1) 1 117 [am_r (some 32), am_l l, am_i (wz o)] A D (ri (w_rw D l o)) A D') := by
  by_cases ho : rg o
  · unfold w_rw
    by_cases c : 0 ≤ o_lcmp l 0
    · rw [if_pos c]
      obtain ⟨D', a, b, e⟩ := K_rwx ho (l := l) 13 0 0 D (by omega) (by omega) (fun e e0 e1 => ⟨fun _ k k0 k1 => by omega, fun _ => sX_0 (by omega)⟩) (fun j j0 j1 => by omega)
      refine ⟨D', a, fun _ => b, fun _ N A => rl_X11_readWishes l o ho ?_⟩
      rw [if_pos c]
      exact e N A
    · rw [if_neg c]
      refine ⟨D, fun _ _ => rfl, fun _ q => absurd rfl q, fun _ N A => rl_X11_readWishes l o ho ?_⟩
      rw [if_neg c]; exact ⟨rfl, rfl⟩
  · exact ⟨D, fun _ _ => rfl, fun q => absurd q ho, fun q => absurd q ho⟩
noncomputable def u_rw (D : aD) (l : Int64) (o : Int) : aD := Classical.choose (rw_ex D l o)
theorem u_rw_c (D : aD) (l : Int64) (o : Int) : ∀ c, c ≠ 35 → u_rw D l o c = D c := (Classical.choose_spec (rw_ex D l o)).1
theorem u_rw_r {D : aD} {l : Int64} {o : Int} (ho : rg o) (h : w_rw D l o ≠ -1) : ∀ j, 0 ≤ j → j < w_rw D l o → u_rw D l o 35 j = dgt l (w_rw D l o - 1 - j) - 1 := (Classical.choose_spec (rw_ex D l o)).2.1 ho h
theorem ev_X11_readWishes (l : Int64) (o : Int) (ho : rg o) : Ev (n + 1) 1 117 [am_r (some 32), am_l l, am_i (wz o)] A D (ri (w_rw D l o)) A (u_rw D l o) := (Classical.choose_spec (rw_ex D l o)).2.2 ho n A
theorem fl_rw (D : aD) (l : Int64) (o : Int) (t : Nat) (i : Int) (_ : Nat.ble t 49 = true) : u_rw D l o (900 + t) i = D (900 + t) i := by rw [u_rw_c D l o (900 + t) (by omega)]
abbrev P_X11_wish : Nat → Option am_E := am_fy tb_X11_wish
def K_X11_wish_75 (n : Nat) (A : aA) (D : aD) (a2 : Int) (a5 : Int) (ta0 : Int) (tl1 : Int64) (x : Int) (A' : aA) (D' : aD) : Prop := Lp n 8 P_X11_wish 75 [some (am_r (some 32)), none, some (am_i (wz a2)), none, none, some (am_i (wz a5)), none, none, none] [am_i (wz ta0), am_l tl1, am_r (some 32)] A D (ri x) A' D'
def K_X11_wish_88 (n : Nat) (A : aA) (D : aD) (a2 : Int) (a5 : Int) (a7 : Int) (x : Int) (A' : aA) (D' : aD) : Prop := Lp n 8 P_X11_wish 88 [some (am_r (some 32)), none, some (am_i (wz a2)), none, none, some (am_i (wz a5)), none, some (am_i (wz a7)), none] [] A D (ri x) A' D'
set_option maxRecDepth 100000 in
theorem rl_X11_wish {n : Nat} {A A' : aA} {D D' : aD} (a1 : Int) (a2 : Int) (l3 : Int64) (h1 : rg a1) (h2 : rg a2) {x : Int} (hp : (if a1 = 0 then (if v_X11_isServant D a2 = 0 then (if a1 = 1 then (if v_X11_isPlace D a2 = 0 then (A' = A ∧ x = (-1) ∧ D' = D) else K_X11_wish_75 (n + 1) A D a2 0 (D 1002 0) l3 x A' D') else (A' = A ∧ x = (-1) ∧ D' = D)) else (if a1 = 1 then (if v_X11_isPlace D a2 = 0 then K_X11_wish_75 (n + 1) A D a2 1 (D 1002 1) l3 x A' D' else K_X11_wish_75 (n + 1) A D a2 1 (D 1002 1) l3 x A' D') else K_X11_wish_75 (n + 1) A D a2 1 (D 1002 1) l3 x A' D')) else (if a1 = 1 then (if v_X11_isPlace D a2 = 0 then (A' = A ∧ x = (-1) ∧ D' = D) else K_X11_wish_75 (n + 1) A D a2 0 (D 1002 0) l3 x A' D') else (A' = A ∧ x = (-1) ∧ D' = D)))) : Ev (n + 1) (9) 93 [am_r (some 32), am_i (wz a1), am_i (wz a2), am_l l3] A D (ri x) A' D' := by
  refine Ev_of (c := 8) (P := P_X11_wish) (lo := [some (am_r (some 32)), some (am_i (wz a1)), some (am_i (wz a2)), some (am_l l3), none, none, none, none, none]) rfl rfl rfl (fun d hd s hr => ?_)
  refine ok (m_iload_n (q := 1) rfl rfl rfl rfl) ?_
  refine okc (m_ifne (qt := 16) (qf := 4) rfl rfl h1 rfl rfl) (fun c1 => ?_) (fun c1 => ?_)
  · replace hp := ip c1 hp
    refine ok (m_aload_n (q := 5) rfl rfl rfl rfl) ?_
    refine ok (m_iload_n (q := 6) rfl rfl rfl rfl) ?_
    refine oke (e_ci (x_cv (q := 9) rfl rfl rfl rfl rfl rfl rfl rfl rfl rfl (is_st hr rfl rfl)) (ev_X11_isServant (D := D) a2 h2) (Nat.le_trans (by decide) hd) hr) (fun s2 r3 => ?_)
    refine okc (m_ifeq (qt := 16) (qf := 12) rfl rfl (Ev_rg (ev_X11_isServant (D := D) a2 h2) hr) rfl rfl) (fun c4 => ?_) (fun c4 => ?_)
    · replace hp := ip c4 hp
      refine ok (m_iconst (q := 17) rfl rfl rfl) ?_
      refine ok (m_istore (q := 19) (lo' := [some (am_r (some 32)), some (am_i (wz a1)), some (am_i (wz a2)), some (am_l l3), none, some (am_i (wz 0)), none, none, none]) rfl rfl rfl rfl rfl) ?_
      refine ok (m_iload_n (q := 20) rfl rfl rfl rfl) ?_
      refine ok (m_iconst (q := 21) rfl rfl rfl) ?_
      refine okc (m_cmpne (qt := 36) (qf := 24) rfl rfl h1 ⟨by decide, by decide⟩ rfl rfl) (fun c5 => ?_) (fun c5 => ?_)
      · replace hp := ip c5 hp
        refine ok (m_aload_n (q := 25) rfl rfl rfl rfl) ?_
        refine ok (m_iload_n (q := 26) rfl rfl rfl rfl) ?_
        refine oke (e_ci (x_cv (q := 29) rfl rfl rfl rfl rfl rfl rfl rfl rfl rfl (is_st r3 rfl rfl)) (ev_X11_isPlace (D := D) a2 h2) (Nat.le_trans (by decide) hd) r3) (fun s6 r7 => ?_)
        refine okc (m_ifeq (qt := 36) (qf := 32) rfl rfl (Ev_rg (ev_X11_isPlace (D := D) a2 h2) r3) rfl rfl) (fun c8 => ?_) (fun c8 => ?_)
        · replace hp := ip c8 hp
          refine ok (m_iconst (q := 37) rfl rfl rfl) ?_
          refine ok (m_istore (q := 39) (lo' := [some (am_r (some 32)), some (am_i (wz a1)), some (am_i (wz a2)), some (am_l l3), none, some (am_i (wz 0)), some (am_i (wz 0)), none, none]) rfl rfl rfl rfl rfl) ?_
          refine ok (m_iload (q := 41) rfl rfl rfl rfl) ?_
          refine ok ((m_ifne (qt := 51) (qf := 44) rfl rfl ⟨by decide, by decide⟩ rfl rfl).trans (if_pos (by decide))) ?_
          refine ok (m_iload (q := 46) rfl rfl rfl rfl) ?_
          refine ok ((m_ifne (qt := 51) (qf := 49) rfl rfl ⟨by decide, by decide⟩ rfl rfl).trans (if_pos (by decide))) ?_
          refine ok (m_iconst (q := 50) rfl rfl rfl) ?_
          obtain ⟨rfl, hp⟩ := hp
          exact ok (m_reti rfl rfl) (ok_iq r7 ⟨by decide, by decide⟩ hp)
        · replace hp := iq c8 hp
          refine ok (m_iconst (q := 33) rfl rfl rfl) ?_
          refine ok (m_goto (q := 37) rfl rfl rfl) ?_
          refine ok (m_istore (q := 39) (lo' := [some (am_r (some 32)), some (am_i (wz a1)), some (am_i (wz a2)), some (am_l l3), none, some (am_i (wz 0)), some (am_i (wz 1)), none, none]) rfl rfl rfl rfl rfl) ?_
          refine ok (m_iload (q := 41) rfl rfl rfl rfl) ?_
          refine ok ((m_ifne (qt := 51) (qf := 44) rfl rfl ⟨by decide, by decide⟩ rfl rfl).trans (if_pos (by decide))) ?_
          refine ok (m_iload (q := 46) rfl rfl rfl rfl) ?_
          refine ok ((m_ifne (qt := 51) (qf := 49) rfl rfl ⟨by decide, by decide⟩ rfl rfl).trans (if_neg (by decide))) ?_
          refine ok (m_aload_n (q := 52) rfl rfl rfl rfl) ?_
          refine ok (m_lload_n (q := 53) rfl rfl rfl rfl) ?_
          refine ok (m_iload (q := 55) rfl rfl rfl rfl) ?_
          refine ok ((m_ifeq (qt := 68) (qf := 58) rfl rfl ⟨by decide, by decide⟩ rfl rfl).trans (if_pos (by decide))) ?_
          refine ok (m_aload_n (q := 69) rfl rfl rfl rfl) ?_
          have f_9 := Rp_fx0_0 r7
          refine ok (m_gfy (q := 72) rfl rfl rfl r7 rfl rfl rfl) ?_
          refine oke (e_ci (x_cv (q := 75) rfl rfl rfl rfl rfl rfl rfl rfl rfl rfl (is_ty r7 rfl f_9)) (ev_size 0 f_9) (Nat.le_trans (by decide) hd) r7) (fun s10 r11 => ?_)
          refine ok (mk rfl (lo' := [some (am_r (some 32)), none, some (am_i (wz a2)), none, none, some (am_i (wz 0)), none, none, none]) rfl) ?_
          exact hp d hd _ r11
      · replace hp := iq c5 hp
        refine ok (m_iconst (q := 37) rfl rfl rfl) ?_
        refine ok (m_istore (q := 39) (lo' := [some (am_r (some 32)), some (am_i (wz a1)), some (am_i (wz a2)), some (am_l l3), none, some (am_i (wz 0)), some (am_i (wz 0)), none, none]) rfl rfl rfl rfl rfl) ?_
        refine ok (m_iload (q := 41) rfl rfl rfl rfl) ?_
        refine ok ((m_ifne (qt := 51) (qf := 44) rfl rfl ⟨by decide, by decide⟩ rfl rfl).trans (if_pos (by decide))) ?_
        refine ok (m_iload (q := 46) rfl rfl rfl rfl) ?_
        refine ok ((m_ifne (qt := 51) (qf := 49) rfl rfl ⟨by decide, by decide⟩ rfl rfl).trans (if_pos (by decide))) ?_
        refine ok (m_iconst (q := 50) rfl rfl rfl) ?_
        obtain ⟨rfl, hp⟩ := hp
        exact ok (m_reti rfl rfl) (ok_iq r3 ⟨by decide, by decide⟩ hp)
    · replace hp := iq c4 hp
      refine ok (m_iconst (q := 13) rfl rfl rfl) ?_
      refine ok (m_goto (q := 17) rfl rfl rfl) ?_
      refine ok (m_istore (q := 19) (lo' := [some (am_r (some 32)), some (am_i (wz a1)), some (am_i (wz a2)), some (am_l l3), none, some (am_i (wz 1)), none, none, none]) rfl rfl rfl rfl rfl) ?_
      refine ok (m_iload_n (q := 20) rfl rfl rfl rfl) ?_
      refine ok (m_iconst (q := 21) rfl rfl rfl) ?_
      refine okc (m_cmpne (qt := 36) (qf := 24) rfl rfl h1 ⟨by decide, by decide⟩ rfl rfl) (fun c12 => ?_) (fun c12 => ?_)
      · replace hp := ip c12 hp
        refine ok (m_aload_n (q := 25) rfl rfl rfl rfl) ?_
        refine ok (m_iload_n (q := 26) rfl rfl rfl rfl) ?_
        refine oke (e_ci (x_cv (q := 29) rfl rfl rfl rfl rfl rfl rfl rfl rfl rfl (is_st r3 rfl rfl)) (ev_X11_isPlace (D := D) a2 h2) (Nat.le_trans (by decide) hd) r3) (fun s13 r14 => ?_)
        refine okc (m_ifeq (qt := 36) (qf := 32) rfl rfl (Ev_rg (ev_X11_isPlace (D := D) a2 h2) r3) rfl rfl) (fun c15 => ?_) (fun c15 => ?_)
        · replace hp := ip c15 hp
          refine ok (m_iconst (q := 37) rfl rfl rfl) ?_
          refine ok (m_istore (q := 39) (lo' := [some (am_r (some 32)), some (am_i (wz a1)), some (am_i (wz a2)), some (am_l l3), none, some (am_i (wz 1)), some (am_i (wz 0)), none, none]) rfl rfl rfl rfl rfl) ?_
          refine ok (m_iload (q := 41) rfl rfl rfl rfl) ?_
          refine ok ((m_ifne (qt := 51) (qf := 44) rfl rfl ⟨by decide, by decide⟩ rfl rfl).trans (if_neg (by decide))) ?_
          refine ok (m_aload_n (q := 52) rfl rfl rfl rfl) ?_
          refine ok (m_lload_n (q := 53) rfl rfl rfl rfl) ?_
          refine ok (m_iload (q := 55) rfl rfl rfl rfl) ?_
          refine ok ((m_ifeq (qt := 68) (qf := 58) rfl rfl ⟨by decide, by decide⟩ rfl rfl).trans (if_neg (by decide))) ?_
          refine ok (m_aload_n (q := 59) rfl rfl rfl rfl) ?_
          have f_16 := Rp_fx0_1 r14
          refine ok (m_gfy (q := 62) rfl rfl rfl r14 rfl rfl rfl) ?_
          refine oke (e_ci (x_cv (q := 65) rfl rfl rfl rfl rfl rfl rfl rfl rfl rfl (is_ty r14 rfl f_16)) (ev_size 1 f_16) (Nat.le_trans (by decide) hd) r14) (fun s17 r18 => ?_)
          refine ok (m_goto (q := 75) rfl rfl rfl) ?_
          refine ok (mk rfl (lo' := [some (am_r (some 32)), none, some (am_i (wz a2)), none, none, some (am_i (wz 1)), none, none, none]) rfl) ?_
          exact hp d hd _ r18
        · replace hp := iq c15 hp
          refine ok (m_iconst (q := 33) rfl rfl rfl) ?_
          refine ok (m_goto (q := 37) rfl rfl rfl) ?_
          refine ok (m_istore (q := 39) (lo' := [some (am_r (some 32)), some (am_i (wz a1)), some (am_i (wz a2)), some (am_l l3), none, some (am_i (wz 1)), some (am_i (wz 1)), none, none]) rfl rfl rfl rfl rfl) ?_
          refine ok (m_iload (q := 41) rfl rfl rfl rfl) ?_
          refine ok ((m_ifne (qt := 51) (qf := 44) rfl rfl ⟨by decide, by decide⟩ rfl rfl).trans (if_neg (by decide))) ?_
          refine ok (m_aload_n (q := 52) rfl rfl rfl rfl) ?_
          refine ok (m_lload_n (q := 53) rfl rfl rfl rfl) ?_
          refine ok (m_iload (q := 55) rfl rfl rfl rfl) ?_
          refine ok ((m_ifeq (qt := 68) (qf := 58) rfl rfl ⟨by decide, by decide⟩ rfl rfl).trans (if_neg (by decide))) ?_
          refine ok (m_aload_n (q := 59) rfl rfl rfl rfl) ?_
          have f_19 := Rp_fx0_1 r14
          refine ok (m_gfy (q := 62) rfl rfl rfl r14 rfl rfl rfl) ?_
          refine oke (e_ci (x_cv (q := 65) rfl rfl rfl rfl rfl rfl rfl rfl rfl rfl (is_ty r14 rfl f_19)) (ev_size 1 f_19) (Nat.le_trans (by decide) hd) r14) (fun s20 r21 => ?_)
          refine ok (m_goto (q := 75) rfl rfl rfl) ?_
          refine ok (mk rfl (lo' := [some (am_r (some 32)), none, some (am_i (wz a2)), none, none, some (am_i (wz 1)), none, none, none]) rfl) ?_
          exact hp d hd _ r21
      · replace hp := iq c12 hp
        refine ok (m_iconst (q := 37) rfl rfl rfl) ?_
        refine ok (m_istore (q := 39) (lo' := [some (am_r (some 32)), some (am_i (wz a1)), some (am_i (wz a2)), some (am_l l3), none, some (am_i (wz 1)), some (am_i (wz 0)), none, none]) rfl rfl rfl rfl rfl) ?_
        refine ok (m_iload (q := 41) rfl rfl rfl rfl) ?_
        refine ok ((m_ifne (qt := 51) (qf := 44) rfl rfl ⟨by decide, by decide⟩ rfl rfl).trans (if_neg (by decide))) ?_
        refine ok (m_aload_n (q := 52) rfl rfl rfl rfl) ?_
        refine ok (m_lload_n (q := 53) rfl rfl rfl rfl) ?_
        refine ok (m_iload (q := 55) rfl rfl rfl rfl) ?_
        refine ok ((m_ifeq (qt := 68) (qf := 58) rfl rfl ⟨by decide, by decide⟩ rfl rfl).trans (if_neg (by decide))) ?_
        refine ok (m_aload_n (q := 59) rfl rfl rfl rfl) ?_
        have f_22 := Rp_fx0_1 r3
        refine ok (m_gfy (q := 62) rfl rfl rfl r3 rfl rfl rfl) ?_
        refine oke (e_ci (x_cv (q := 65) rfl rfl rfl rfl rfl rfl rfl rfl rfl rfl (is_ty r3 rfl f_22)) (ev_size 1 f_22) (Nat.le_trans (by decide) hd) r3) (fun s23 r24 => ?_)
        refine ok (m_goto (q := 75) rfl rfl rfl) ?_
        refine ok (mk rfl (lo' := [some (am_r (some 32)), none, some (am_i (wz a2)), none, none, some (am_i (wz 1)), none, none, none]) rfl) ?_
        exact hp d hd _ r24
  · replace hp := iq c1 hp
    refine ok (m_iconst (q := 17) rfl rfl rfl) ?_
    refine ok (m_istore (q := 19) (lo' := [some (am_r (some 32)), some (am_i (wz a1)), some (am_i (wz a2)), some (am_l l3), none, some (am_i (wz 0)), none, none, none]) rfl rfl rfl rfl rfl) ?_
    refine ok (m_iload_n (q := 20) rfl rfl rfl rfl) ?_
    refine ok (m_iconst (q := 21) rfl rfl rfl) ?_
    refine okc (m_cmpne (qt := 36) (qf := 24) rfl rfl h1 ⟨by decide, by decide⟩ rfl rfl) (fun c25 => ?_) (fun c25 => ?_)
    · replace hp := ip c25 hp
      refine ok (m_aload_n (q := 25) rfl rfl rfl rfl) ?_
      refine ok (m_iload_n (q := 26) rfl rfl rfl rfl) ?_
      refine oke (e_ci (x_cv (q := 29) rfl rfl rfl rfl rfl rfl rfl rfl rfl rfl (is_st hr rfl rfl)) (ev_X11_isPlace (D := D) a2 h2) (Nat.le_trans (by decide) hd) hr) (fun s26 r27 => ?_)
      refine okc (m_ifeq (qt := 36) (qf := 32) rfl rfl (Ev_rg (ev_X11_isPlace (D := D) a2 h2) hr) rfl rfl) (fun c28 => ?_) (fun c28 => ?_)
      · replace hp := ip c28 hp
        refine ok (m_iconst (q := 37) rfl rfl rfl) ?_
        refine ok (m_istore (q := 39) (lo' := [some (am_r (some 32)), some (am_i (wz a1)), some (am_i (wz a2)), some (am_l l3), none, some (am_i (wz 0)), some (am_i (wz 0)), none, none]) rfl rfl rfl rfl rfl) ?_
        refine ok (m_iload (q := 41) rfl rfl rfl rfl) ?_
        refine ok ((m_ifne (qt := 51) (qf := 44) rfl rfl ⟨by decide, by decide⟩ rfl rfl).trans (if_pos (by decide))) ?_
        refine ok (m_iload (q := 46) rfl rfl rfl rfl) ?_
        refine ok ((m_ifne (qt := 51) (qf := 49) rfl rfl ⟨by decide, by decide⟩ rfl rfl).trans (if_pos (by decide))) ?_
        refine ok (m_iconst (q := 50) rfl rfl rfl) ?_
        obtain ⟨rfl, hp⟩ := hp
        exact ok (m_reti rfl rfl) (ok_iq r27 ⟨by decide, by decide⟩ hp)
      · replace hp := iq c28 hp
        refine ok (m_iconst (q := 33) rfl rfl rfl) ?_
        refine ok (m_goto (q := 37) rfl rfl rfl) ?_
        refine ok (m_istore (q := 39) (lo' := [some (am_r (some 32)), some (am_i (wz a1)), some (am_i (wz a2)), some (am_l l3), none, some (am_i (wz 0)), some (am_i (wz 1)), none, none]) rfl rfl rfl rfl rfl) ?_
        refine ok (m_iload (q := 41) rfl rfl rfl rfl) ?_
        refine ok ((m_ifne (qt := 51) (qf := 44) rfl rfl ⟨by decide, by decide⟩ rfl rfl).trans (if_pos (by decide))) ?_
        refine ok (m_iload (q := 46) rfl rfl rfl rfl) ?_
        refine ok ((m_ifne (qt := 51) (qf := 49) rfl rfl ⟨by decide, by decide⟩ rfl rfl).trans (if_neg (by decide))) ?_
        refine ok (m_aload_n (q := 52) rfl rfl rfl rfl) ?_
        refine ok (m_lload_n (q := 53) rfl rfl rfl rfl) ?_
        refine ok (m_iload (q := 55) rfl rfl rfl rfl) ?_
        refine ok ((m_ifeq (qt := 68) (qf := 58) rfl rfl ⟨by decide, by decide⟩ rfl rfl).trans (if_pos (by decide))) ?_
        refine ok (m_aload_n (q := 69) rfl rfl rfl rfl) ?_
        have f_29 := Rp_fx0_0 r27
        refine ok (m_gfy (q := 72) rfl rfl rfl r27 rfl rfl rfl) ?_
        refine oke (e_ci (x_cv (q := 75) rfl rfl rfl rfl rfl rfl rfl rfl rfl rfl (is_ty r27 rfl f_29)) (ev_size 0 f_29) (Nat.le_trans (by decide) hd) r27) (fun s30 r31 => ?_)
        refine ok (mk rfl (lo' := [some (am_r (some 32)), none, some (am_i (wz a2)), none, none, some (am_i (wz 0)), none, none, none]) rfl) ?_
        exact hp d hd _ r31
    · replace hp := iq c25 hp
      refine ok (m_iconst (q := 37) rfl rfl rfl) ?_
      refine ok (m_istore (q := 39) (lo' := [some (am_r (some 32)), some (am_i (wz a1)), some (am_i (wz a2)), some (am_l l3), none, some (am_i (wz 0)), some (am_i (wz 0)), none, none]) rfl rfl rfl rfl rfl) ?_
      refine ok (m_iload (q := 41) rfl rfl rfl rfl) ?_
      refine ok ((m_ifne (qt := 51) (qf := 44) rfl rfl ⟨by decide, by decide⟩ rfl rfl).trans (if_pos (by decide))) ?_
      refine ok (m_iload (q := 46) rfl rfl rfl rfl) ?_
      refine ok ((m_ifne (qt := 51) (qf := 49) rfl rfl ⟨by decide, by decide⟩ rfl rfl).trans (if_pos (by decide))) ?_
      refine ok (m_iconst (q := 50) rfl rfl rfl) ?_
      obtain ⟨rfl, hp⟩ := hp
      exact ok (m_reti rfl rfl) (ok_iq hr ⟨by decide, by decide⟩ hp)
set_option maxRecDepth 100000 in
theorem rl_X11_wish_75 {n : Nat} {A A' : aA} {D D' : aD} (a2 : Int) (a5 : Int) (ta0 : Int) (tl1 : Int64) (h2 : rg a2) (h5 : rg a5) (b5 : 0 ≤ a5 ∧ a5 ≤ 1) (th0 : rg ta0) {x : Int} (hp : (if w_rw D tl1 ta0 = (-1) then (A' = A ∧ x = (-1) ∧ D' = (u_rw D tl1 ta0)) else K_X11_wish_88 (n + 1) A (u_rw D tl1 ta0) a2 a5 (w_rw D tl1 ta0) x A' D')) : K_X11_wish_75 (n + 1) A D a2 a5 ta0 tl1 x A' D' := by
  unfold K_X11_wish_75
  refine fun d hd s hr => ?_
  refine oke (e_ci (x_cv (q := 78) rfl rfl rfl rfl rfl rfl rfl rfl rfl rfl (is_st hr rfl rfl)) (ev_X11_readWishes (D := D) tl1 ta0 th0) (Nat.le_trans (by decide) hd) hr) (fun s32 r33 => ?_)
  refine ok (m_istore (q := 80) (lo' := [some (am_r (some 32)), none, some (am_i (wz a2)), none, none, some (am_i (wz a5)), none, some (am_i (wz (w_rw D tl1 ta0))), none]) rfl rfl rfl rfl rfl) ?_
  refine ok (m_iload (q := 82) rfl rfl rfl rfl) ?_
  refine ok (m_iconst (q := 83) rfl rfl rfl) ?_
  refine okc (m_cmpne (qt := 88) (qf := 86) rfl rfl (Ev_rg (ev_X11_readWishes (D := D) tl1 ta0 th0) hr) ⟨by decide, by decide⟩ rfl rfl) (fun c34 => ?_) (fun c34 => ?_)
  · replace hp := ip c34 hp
    refine ok (m_iconst (q := 87) rfl rfl rfl) ?_
    obtain ⟨rfl, hp⟩ := hp
    exact ok (m_reti rfl rfl) (ok_iq r33 ⟨by decide, by decide⟩ hp)
  · replace hp := iq c34 hp
    exact hp d hd _ r33
theorem wi_a {a2 : Int} {m : Nat} (hr : Rp (n + 1) A D s) (hm : m ≤ 13) (g2 : 0 ≤ a2 ∧ a2 < D 1002 0) (hh : D 950 0 ≤ 1000000000 ∧ D 951 0 ≤ 1000000000) : ∃ s', mr (d + 3) P_X11_wish 88 [some (am_r (some 32)), none, some (am_i (wz a2)), none, none, some (am_i (wz 1)), none, some (am_i (wz (m : Int))), none] [] s = some (some (am_i (wz (m : Int))), s') ∧ Rp (n + 1) (upA A 20 a2 (D 950 0).toNat) (rwD D 20 a2 m (D 35)) s' := by
  have f0 : D 900 0 = 1 := (Rp_cl hr).2.2.2.2.2.2.2.2.2.2.2.1
  have f1 : D 910 a2 = 1 := Rp_el0 hr g2
  have h950 := Rp_rg hr 950 0
  have h951 := Rp_rg hr 951 0
  unfold rg at h950 h951
  have h135 : 135 ≤ s.1.length := by obtain ⟨_, F, H⟩ := hr; exact Rp0_135 H
  have hrm : rg (m : Int) := rgb (by omega) (by omega)
  have hg := Rp_grow (cs := ([.inr (.inl (0, m, fun k => if k < m then wz (D 35 k) else 0))] : List am_Ce)) (k := m) hr ⟨by simp only [List.length_singleton]; omega, by simp only [List.length_singleton]; omega⟩ ⟨by omega, by omega⟩
  have h35 : s.1[35]? = some (.inr (.inl (0, 13, fun k => wz (D 35 k)))) := Rp_st (a := 35) (sh := .inr (0, 13)) hr rfl (Nat.ble_eq_true_of_le (show 1 ≤ n + 1 by omega))
  have f0' : (up (up D 950 0 (D 950 0 + (([.inr (.inl (0, m, fun k => if k < m then wz (D 35 k) else 0))] : List am_Ce).length : Nat))) 951 0 (D 951 0 + (m : Nat))) 900 0 = 1 := by
    rw [up_c (by decide), up_c (by decide)]; exact f0
  have f1' : (up (up D 950 0 (D 950 0 + (([.inr (.inl (0, m, fun k => if k < m then wz (D 35 k) else 0))] : List am_Ce).length : Nat))) 951 0 (D 951 0 + (m : Nat))) 910 a2 = 1 := by
    rw [up_c (by decide), up_c (by decide)]; exact f1
  have h32 : 32 ≤ A 10 a2 := by obtain ⟨_, F, H⟩ := hr; exact (H.2.2.1 10 a2 (by decide) ((mxx_v rfl).trans f1)).2.1
  rw [Rp_len hr]
  refine ⟨_, ?_, Rp_ws20 (src := D 35) hr f1 (by omega) (fun j => Rp_rg hr 35 j) hh⟩
  refine (m_aload_n (q := 89) rfl rfl rfl rfl).trans ?_
  refine (m_gfc (q := 92) rfl rfl rfl hr rfl rfl rfl).trans ?_
  refine (m_iload (q := 94) rfl rfl rfl rfl).trans ?_
  refine (x_cs (rk := 3) (as := [am_r (some 35), am_i (wz (m : Int))]) (rest := []) (q := 97) rfl rfl rfl rfl rfl rfl rfl rfl rfl).trans ?_
  rw [rw_cpi (d := d + 2) h35 (by decide) hm (by decide) (by omega)]
  refine (m_astore (q := 99) (lo' := [some (am_r (some 32)), none, some (am_i (wz a2)), none, none, some (am_i (wz 1)), none, some (am_i (wz (m : Int))), some (am_r (some s.1.length))]) rfl rfl rfl rfl rfl).trans ?_
  refine (m_iload (q := 101) rfl rfl rfl rfl).trans ?_
  refine ((m_ifeq (qt := 123) (qf := 104) rfl rfl ⟨by decide, by decide⟩ rfl rfl).trans (if_neg (by decide))).trans ?_
  refine (m_aload_n (q := 105) rfl rfl rfl rfl).trans ?_
  refine (m_gfy (t := 0) (i := 0) (q := 108) rfl rfl rfl hg rfl rfl rfl).trans ?_
  refine (m_iload_n (q := 109) rfl rfl rfl rfl).trans ?_
  refine (x_cv (rk := 3) (r := some (A 0 0)) (as := [am_i (wz a2)]) (rest := []) (q := 112) rfl rfl rfl rfl rfl rfl rfl rfl rfl rfl (is_ty hg rfl f0')).trans ?_
  rw [rw_get 0 a2 hg f0' (by rw [up_c (by decide), up_c (by decide)]; exact g2)]
  rw [show ebs 0 + a2 = a2 from Int.zero_add _]
  refine (m_cast (q := 115) rfl rfl rfl (isN_ty (t := 10) hg rfl f1')).trans ?_
  refine (m_aload (q := 117) rfl rfl rfl rfl).trans ?_
  refine (x_pfr (q := 120) rfl rfl rfl (put_of (Rp_ob (t := 10) hg rfl f1') h32 (show (4 : Nat) < 5 by decide))).trans ?_
  refine (m_goto (q := 139) rfl rfl rfl).trans ?_
  refine (mk rfl (lo' := [none, none, none, none, none, none, none, some (am_i (wz (m : Int))), none]) rfl).trans ?_
  refine (m_iload (q := 141) rfl rfl rfl rfl).trans ?_
  exact m_reti rfl rfl
theorem K_wia {a2 : Int} {m : Nat} (hm : m ≤ 13) (g2 : 0 ≤ a2 ∧ a2 < D 1002 0) (hh : D 950 0 ≤ 1000000000 ∧ D 951 0 ≤ 1000000000) : K_X11_wish_88 (n + 1) A D a2 1 m m (upA A 20 a2 (D 950 0).toNat) (rwD D 20 a2 m (D 35)) := by
  intro d hd s hr
  obtain ⟨e, rfl⟩ : ∃ e, d = e + 3 := ⟨d - 3, by omega⟩
  obtain ⟨s', e1, r1⟩ := wi_a (d := e) hr hm g2 hh
  exact ⟨_, s', e1, ⟨rfl, rgb (by omega) (by omega)⟩, r1⟩
theorem wi_b {a2 : Int} {m : Nat} (hr : Rp (n + 1) A D s) (hm : m ≤ 13) (g2 : 0 ≤ a2 ∧ a2 < D 1002 1) (hh : D 950 0 ≤ 1000000000 ∧ D 951 0 ≤ 1000000000) : ∃ s', mr (d + 3) P_X11_wish 88 [some (am_r (some 32)), none, some (am_i (wz a2)), none, none, some (am_i (wz 0)), none, some (am_i (wz (m : Int))), none] [] s = some (some (am_i (wz (m : Int))), s') ∧ Rp (n + 1) (upA A 21 a2 (D 950 0).toNat) (rwD D 21 a2 m (D 35)) s' := by
  have f0 : D 900 1 = 1 := (Rp_cl hr).2.2.2.2.2.2.2.2.2.2.2.2.1
  have f1 : D 911 a2 = 1 := Rp_el1 hr g2
  have h950 := Rp_rg hr 950 0
  have h951 := Rp_rg hr 951 0
  unfold rg at h950 h951
  have h135 : 135 ≤ s.1.length := by obtain ⟨_, F, H⟩ := hr; exact Rp0_135 H
  have hrm : rg (m : Int) := rgb (by omega) (by omega)
  have hg := Rp_grow (cs := ([.inr (.inl (0, m, fun k => if k < m then wz (D 35 k) else 0))] : List am_Ce)) (k := m) hr ⟨by simp only [List.length_singleton]; omega, by simp only [List.length_singleton]; omega⟩ ⟨by omega, by omega⟩
  have h35 : s.1[35]? = some (.inr (.inl (0, 13, fun k => wz (D 35 k)))) := Rp_st (a := 35) (sh := .inr (0, 13)) hr rfl (Nat.ble_eq_true_of_le (show 1 ≤ n + 1 by omega))
  have f0' : (up (up D 950 0 (D 950 0 + (([.inr (.inl (0, m, fun k => if k < m then wz (D 35 k) else 0))] : List am_Ce).length : Nat))) 951 0 (D 951 0 + (m : Nat))) 900 1 = 1 := by
    rw [up_c (by decide), up_c (by decide)]; exact f0
  have f1' : (up (up D 950 0 (D 950 0 + (([.inr (.inl (0, m, fun k => if k < m then wz (D 35 k) else 0))] : List am_Ce).length : Nat))) 951 0 (D 951 0 + (m : Nat))) 911 a2 = 1 := by
    rw [up_c (by decide), up_c (by decide)]; exact f1
  have h32 : 32 ≤ A 11 a2 := by obtain ⟨_, F, H⟩ := hr; exact (H.2.2.1 11 a2 (by decide) ((mxx_v rfl).trans f1)).2.1
  rw [Rp_len hr]
  refine ⟨_, ?_, Rp_ws21 (src := D 35) hr f1 (by omega) (fun j => Rp_rg hr 35 j) hh⟩
  refine (m_aload_n (q := 89) rfl rfl rfl rfl).trans ?_
  refine (m_gfc (q := 92) rfl rfl rfl hr rfl rfl rfl).trans ?_
  refine (m_iload (q := 94) rfl rfl rfl rfl).trans ?_
  refine (x_cs (rk := 3) (as := [am_r (some 35), am_i (wz (m : Int))]) (rest := []) (q := 97) rfl rfl rfl rfl rfl rfl rfl rfl rfl).trans ?_
  rw [rw_cpi (d := d + 2) h35 (by decide) hm (by decide) (by omega)]
  refine (m_astore (q := 99) (lo' := [some (am_r (some 32)), none, some (am_i (wz a2)), none, none, some (am_i (wz 0)), none, some (am_i (wz (m : Int))), some (am_r (some s.1.length))]) rfl rfl rfl rfl rfl).trans ?_
  refine (m_iload (q := 101) rfl rfl rfl rfl).trans ?_
  refine ((m_ifeq (qt := 123) (qf := 104) rfl rfl ⟨by decide, by decide⟩ rfl rfl).trans (if_pos rfl)).trans ?_
  refine (m_aload_n (q := 124) rfl rfl rfl rfl).trans ?_
  refine (m_gfy (t := 0) (i := 1) (q := 127) rfl rfl rfl hg rfl rfl rfl).trans ?_
  refine (m_iload_n (q := 128) rfl rfl rfl rfl).trans ?_
  refine (x_cv (rk := 3) (r := some (A 0 1)) (as := [am_i (wz a2)]) (rest := []) (q := 131) rfl rfl rfl rfl rfl rfl rfl rfl rfl rfl (is_ty hg rfl f0')).trans ?_
  rw [rw_get 1 a2 hg f0' (by rw [up_c (by decide), up_c (by decide)]; exact g2)]
  rw [show ebs 1 + a2 = a2 from Int.zero_add _]
  refine (m_cast (q := 134) rfl rfl rfl (isN_ty (t := 11) hg rfl f1')).trans ?_
  refine (m_aload (q := 136) rfl rfl rfl rfl).trans ?_
  refine (x_pfr (q := 139) rfl rfl rfl (put_of (Rp_ob (t := 11) hg rfl f1') h32 (show (8 : Nat) < 9 by decide))).trans ?_
  refine (mk rfl (lo' := [none, none, none, none, none, none, none, some (am_i (wz (m : Int))), none]) rfl).trans ?_
  refine (m_iload (q := 141) rfl rfl rfl rfl).trans ?_
  exact m_reti rfl rfl
theorem K_wib {a2 : Int} {m : Nat} (hm : m ≤ 13) (g2 : 0 ≤ a2 ∧ a2 < D 1002 1) (hh : D 950 0 ≤ 1000000000 ∧ D 951 0 ≤ 1000000000) : K_X11_wish_88 (n + 1) A D a2 0 m m (upA A 21 a2 (D 950 0).toNat) (rwD D 21 a2 m (D 35)) := by
  intro d hd s hr
  obtain ⟨e, rfl⟩ : ∃ e, d = e + 3 := ⟨d - 3, by omega⟩
  obtain ⟨s', e1, r1⟩ := wi_b (d := e) hr hm g2 hh
  exact ⟨_, s', e1, ⟨rfl, rgb (by omega) (by omega)⟩, r1⟩
end Wi
