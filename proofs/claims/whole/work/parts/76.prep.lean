/-! Who may be dealt to whom: the class. -/
section Pr
variable {n : Nat} {A A' : aA} {D D' E F : aD} {d : Nat} {s : am_S}
abbrev P_X11_rank : Nat → Option am_E := am_fy tb_X11_rank
def K_X11_rank_2 (n : Nat) (A : aA) (D : aD) (i0 : Int) (a1 : Int) (a2 : Int) (x : Int) (D' : aD) : Prop := Lp n 0 P_X11_rank 2 [some (am_r (some (A 21 i0))), some (am_i (wz a1)), some (am_i (wz a2))] [] A D (ri x) A D'
set_option maxRecDepth 100000 in
theorem rl_X11_rank {n : Nat} {A : aA} {D D' : aD} (i0 : Int) (a1 : Int) (f0 : D 921 i0 = 1) (h1 : rg a1) {x : Int} (hp : K_X11_rank_2 (n) A D i0 a1 0 x D') : Ev (n) (1) 119 [am_r (some (A 21 i0)), am_i (wz a1)] A D (ri x) A D' := by
  refine Ev_of (c := 0) (P := P_X11_rank) (lo := [some (am_r (some (A 21 i0))), some (am_i (wz a1)), none]) rfl rfl rfl (fun d hd s hr => ?_)
  refine ok (m_iconst (q := 1) rfl rfl rfl) ?_
  refine ok (m_istore_n (q := 2) (lo' := [some (am_r (some (A 21 i0))), some (am_i (wz a1)), some (am_i (wz 0))]) rfl rfl rfl rfl rfl) ?_
  exact hp d hd _ hr
set_option maxRecDepth 100000 in
theorem rl_X11_rank_2 {n : Nat} {A : aA} {D D' : aD} (i0 : Int) (a1 : Int) (a2 : Int) (f0 : D 921 i0 = 1) (h1 : rg a1) (h2 : rg a2) {x : Int} (hp : (if D 3100 i0 ≤ a2 then (x = (-1) ∧ D' = D) else (0 ≤ a2 ∧ a2 < D 3100 i0) ∧ (if D 3101 (1024 * i0 + a2) = a1 then (x = a2 ∧ D' = D) else K_X11_rank_2 (n) A D i0 a1 (wr (a2 + 1)) x D'))) : K_X11_rank_2 (n) A D i0 a1 a2 x D' := by
  unfold K_X11_rank_2
  refine fun d hd s hr => ?_
  refine ok (m_iload_n (q := 3) rfl rfl rfl rfl) ?_
  refine ok (m_aload_n (q := 4) rfl rfl rfl rfl) ?_
  refine ok (m_lent (t := 21) (q := 5) rfl rfl rfl hr rfl f0 rfl rfl rfl) ?_
  refine okc (m_cmpge (qt := 23) (qf := 8) rfl rfl h2 (show rg (D 3100 i0) from Rp_rg hr 3100 i0) rfl rfl) (fun c1 => ?_) (fun c1 => ?_)
  · replace hp := ip c1 hp
    refine ok (m_iconst (q := 24) rfl rfl rfl) ?_
    exact ok (m_reti rfl rfl) (ok_iq hr ⟨by decide, by decide⟩ hp)
  · replace hp := iq c1 hp
    refine ok (m_aload_n (q := 9) rfl rfl rfl rfl) ?_
    refine ok (m_iload_n (q := 10) rfl rfl rfl rfl) ?_
    obtain ⟨g2, hp⟩ := hp
    refine ok (m_ialt (t := 21) (q := 11) rfl rfl rfl hr rfl f0 rfl rfl rfl g2 rfl) ?_
    refine ok (m_iload_n (q := 12) rfl rfl rfl rfl) ?_
    refine okc (m_cmpne (qt := 17) (qf := 15) rfl rfl (show rg (D 3101 (1024 * i0 + a2)) from Rp_rg hr 3101 (1024 * i0 + a2)) h1 rfl rfl) (fun c3 => ?_) (fun c3 => ?_)
    · replace hp := ip c3 hp
      refine ok (m_iload_n (q := 16) rfl rfl rfl rfl) ?_
      exact ok (m_reti rfl rfl) (ok_iq hr h2 hp)
    · replace hp := iq c3 hp
      refine ok (m_iinc (q := 20) (lo' := [some (am_r (some (A 21 i0))), some (am_i (wz a1)), some (am_i (wz (wr (a2 + 1))))]) rfl rfl rfl rfl rfl rfl rfl) ?_
      refine ok (m_goto (q := 2) rfl rfl rfl) ?_
      exact hp d hd _ hr
def w_rank (D : aD) (q s : Int) : Int := fsi (fun k => decide (D 3101 (1024 * q + k) = s)) 0 (D 3100 q)
def p_rank (D : aD) (q _ : Int) : Prop := 0 ≤ D 3100 q ∧ D 3100 q ≤ 13
theorem ev_X11_rank (q s : Int) (hf : D 921 q = 1) (h1 : rg s) (hp : p_rank D q s) : Ev n 1 119 [am_r (some (A 21 q)), am_i (wz s)] A D (ri (w_rank D q s)) A D := by
  have hb := hp
  unfold p_rank at hb
  refine rl_X11_rank q s hf h1 ?_
  refine dn_ind (K := fun j => K_X11_rank_2 n A D q s j (fsi (fun k => decide (D 3101 (1024 * q + k) = s)) j (D 3100 q)) D) (lo := 0) (N := D 3100 q) ?_ ?_ 0 (by omega) (by omega)
  · refine rl_X11_rank_2 _ _ _ hf h1 (rgb (by omega) (by omega)) ?_
    rw [if_pos (Int.le_refl _), fsi_end (Int.le_refl _)]; exact ⟨rfl, rfl⟩
  · intro j j0 j1 ih
    refine rl_X11_rank_2 _ _ _ hf h1 (rgb (by omega) (by omega)) ?_
    rw [if_neg (by omega), wr_id (by omega) (by omega)]
    refine ⟨by omega, ?_⟩
    by_cases c : D 3101 (1024 * q + j) = s
    · rw [if_pos c, fsi_t j1 (decide_eq_true c)]; exact ⟨rfl, rfl⟩
    · rw [if_neg c, fsi_f j1 (decide_eq_false c)]; exact ih
theorem rank_e (hI : Iv D) {q s : Int} (hq : 0 ≤ q ∧ q < D 70 3) (hs : 0 ≤ s ∧ s < 24) : w_rank D q s = D 115 (24 * q + s) - 1 ∧ 0 ≤ D 115 (24 * q + s) ∧ D 115 (24 * q + s) ≤ 13 := by
  obtain ⟨a, b, c, e⟩ := hI.ws.2 q hq.1 hq.2
  unfold w_rank
  rcases fsi_spec (p := fun k => decide (D 3101 (1024 * q + k) = s)) (N := D 3100 q) 0 with ⟨z1, z2⟩ | ⟨z1, z2, z3, _⟩
  · rw [z1]
    rcases e s hs.1 hs.2 with y | ⟨y1, y2, y3⟩
    · omega
    · have := of_decide_eq_false (z2 (D 115 (24 * q + s) - 1) (by omega) (by omega))
      exact absurd y3 this
  · have z3 := of_decide_eq_true z3
    have y := (c _ z1 z2).2.2
    rw [z3] at y
    omega
/-- a pair that may be dealt -/
def alw (D : aD) (s p : Int) : Prop := (0 ≤ s ∧ s < D 70 1) ∧ (0 ≤ p ∧ p < D 70 3) ∧ w_inOf D s (D 70 0) (D 70 0) = -1 ∧ w_holderOf D p (D 70 0) (D 70 0) = -1 ∧ 0 < D 114 (30 * s + p) ∧ 0 < D 115 (24 * p + s) ∧ v_X12_fitOf D s p (D 70 0) = 0
/-- a servant's row of such pairs, by the first k wishes -/
def PS (D E : aD) (s k : Int) : Prop := (0 ≤ E 55 s ∧ E 55 s ≤ k ∧ E 55 s ≤ 13) ∧ (∀ p, 0 ≤ p → p < 30 → (E 56 (30 * s + p) = -1 ∧ E 57 (30 * s + p) = -1 ∧ ¬ (alw D s p ∧ D 114 (30 * s + p) ≤ k)) ∨ ((alw D s p ∧ D 114 (30 * s + p) ≤ k) ∧ 0 ≤ E 56 (30 * s + p) ∧ E 56 (30 * s + p) < E 55 s ∧ E 54 (13 * s + E 56 (30 * s + p)) = p ∧ E 57 (30 * s + p) = D 115 (24 * p + s) - 1)) ∧ (∀ i, 0 ≤ i → i < E 55 s → (0 ≤ E 54 (13 * s + i) ∧ E 54 (13 * s + i) < 30) ∧ E 56 (30 * s + E 54 (13 * s + i)) = i) ∧ ∀ p p', 0 ≤ p → p < 30 → 0 ≤ p' → p' < 30 → E 56 (30 * s + p) ≠ -1 → E 56 (30 * s + p') ≠ -1 → (E 56 (30 * s + p) < E 56 (30 * s + p') ↔ D 114 (30 * s + p) < D 114 (30 * s + p'))
theorem PS_cg {s k : Int} (h5 : F 55 s = E 55 s) (h6 : ∀ p, 0 ≤ p → p < 30 → F 56 (30 * s + p) = E 56 (30 * s + p) ∧ F 57 (30 * s + p) = E 57 (30 * s + p)) (h4 : ∀ i, 0 ≤ i → i < 13 → F 54 (13 * s + i) = E 54 (13 * s + i)) (h : PS D E s k) : PS D F s k := by
  obtain ⟨a, b, c, e⟩ := h
  refine ⟨by rw [h5]; exact a, fun p p0 p1 => ?_, fun i i0 i1 => ?_, fun p p' p0 p1 q0 q1 => ?_⟩
  · rw [(h6 p p0 p1).1, (h6 p p0 p1).2, h5]
    rcases b p p0 p1 with z | ⟨z1, z2, z3, z4, z5⟩
    · exact Or.inl z
    · exact Or.inr ⟨z1, z2, z3, by rw [h4 _ z2 (by omega)]; exact z4, z5⟩
  · rw [h5] at i1
    have z := c i i0 i1
    rw [h4 i i0 (by omega), (h6 _ z.1.1 z.1.2).1]; exact z
  · rw [(h6 p p0 p1).1, (h6 p' q0 q1).1]; exact e p p' p0 p1 q0 q1
theorem PS_0 {s k : Int} (hk : 0 ≤ k) (h5 : E 55 s = 0) (h6 : ∀ p, 0 ≤ p → p < 30 → E 56 (30 * s + p) = -1 ∧ E 57 (30 * s + p) = -1) (ha : ∀ p, alw D s p → ¬ D 114 (30 * s + p) ≤ k) : PS D E s k := by
  refine ⟨by omega, fun p p0 p1 => Or.inl ⟨(h6 p p0 p1).1, (h6 p p0 p1).2, fun z => ha p z.1 z.2⟩, fun i a b => by omega, fun p p' p0 p1 q0 q1 a b => absurd (h6 p p0 p1).1 a⟩
abbrev P_X2_allow : Nat → Option am_E := am_fy tb_X2_allow
noncomputable def u_X2_allow (D : aD) (i1 : Int) (i2 : Int) (i3 : Int) (a4 : Int) : aD := if w_rank D i2 (D 2000 i1) = (-1) then D else if D 58 (D 2100 i2) = 0 then if 13 ≤ D 55 (D 2000 i1) then D else if v_X7_unfitness D i3 i1 i2 a4 = 0 then (up (up (up (up D 54 (wr ((wr ((D 2000 i1) * 13)) + (D 55 (D 2000 i1)))) (D 2100 i2)) 55 (D 2000 i1) (wr ((D 55 (D 2000 i1)) + 1))) 56 (v_X2_pairOf (up (up D 54 (wr ((wr ((D 2000 i1) * 13)) + (D 55 (D 2000 i1)))) (D 2100 i2)) 55 (D 2000 i1) (wr ((D 55 (D 2000 i1)) + 1))) (D 2000 i1) (D 2100 i2)) (D 55 (D 2000 i1))) 57 (v_X2_pairOf (up (up (up D 54 (wr ((wr ((D 2000 i1) * 13)) + (D 55 (D 2000 i1)))) (D 2100 i2)) 55 (D 2000 i1) (wr ((D 55 (D 2000 i1)) + 1))) 56 (v_X2_pairOf (up (up D 54 (wr ((wr ((D 2000 i1) * 13)) + (D 55 (D 2000 i1)))) (D 2100 i2)) 55 (D 2000 i1) (wr ((D 55 (D 2000 i1)) + 1))) (D 2000 i1) (D 2100 i2)) (D 55 (D 2000 i1))) (D 2000 i1) (D 2100 i2)) (w_rank D i2 (D 2000 i1))) else D else D
def p_X2_allow (D : aD) (i1 : Int) (i2 : Int) (i3 : Int) (a4 : Int) : Prop := (p_rank D i2 (D 2000 i1)) ∧ (0 ≤ D 2000 i1 ∧ D 2000 i1 < 24) ∧ (if w_rank D i2 (D 2000 i1) = (-1) then True else (0 ≤ D 2100 i2 ∧ D 2100 i2 < 30) ∧ (if D 58 (D 2100 i2) = 0 then (if 13 ≤ D 55 (D 2000 i1) then True else (p_X7_unfitness D i3 i1 i2 a4) ∧ (if v_X7_unfitness D i3 i1 i2 a4 = 0 then (0 ≤ wr ((wr ((D 2000 i1) * 13)) + (D 55 (D 2000 i1))) ∧ wr ((wr ((D 2000 i1) * 13)) + (D 55 (D 2000 i1))) < 312) ∧ (0 ≤ v_X2_pairOf (up (up D 54 (wr ((wr ((D 2000 i1) * 13)) + (D 55 (D 2000 i1)))) (D 2100 i2)) 55 (D 2000 i1) (wr ((D 55 (D 2000 i1)) + 1))) (D 2000 i1) (D 2100 i2) ∧ v_X2_pairOf (up (up D 54 (wr ((wr ((D 2000 i1) * 13)) + (D 55 (D 2000 i1)))) (D 2100 i2)) 55 (D 2000 i1) (wr ((D 55 (D 2000 i1)) + 1))) (D 2000 i1) (D 2100 i2) < 720) ∧ (0 ≤ v_X2_pairOf (up (up (up D 54 (wr ((wr ((D 2000 i1) * 13)) + (D 55 (D 2000 i1)))) (D 2100 i2)) 55 (D 2000 i1) (wr ((D 55 (D 2000 i1)) + 1))) 56 (v_X2_pairOf (up (up D 54 (wr ((wr ((D 2000 i1) * 13)) + (D 55 (D 2000 i1)))) (D 2100 i2)) 55 (D 2000 i1) (wr ((D 55 (D 2000 i1)) + 1))) (D 2000 i1) (D 2100 i2)) (D 55 (D 2000 i1))) (D 2000 i1) (D 2100 i2) ∧ v_X2_pairOf (up (up (up D 54 (wr ((wr ((D 2000 i1) * 13)) + (D 55 (D 2000 i1)))) (D 2100 i2)) 55 (D 2000 i1) (wr ((D 55 (D 2000 i1)) + 1))) 56 (v_X2_pairOf (up (up D 54 (wr ((wr ((D 2000 i1) * 13)) + (D 55 (D 2000 i1)))) (D 2100 i2)) 55 (D 2000 i1) (wr ((D 55 (D 2000 i1)) + 1))) (D 2000 i1) (D 2100 i2)) (D 55 (D 2000 i1))) (D 2000 i1) (D 2100 i2) < 720) else True)) else True))
set_option maxRecDepth 100000 in
theorem ev_X2_allow {A : aA} {D : aD} (i1 : Int) (i2 : Int) (i3 : Int) (a4 : Int) (f1 : D 910 i1 = 1) (f2 : D 911 i2 = 1) (f3 : D 914 i3 = 1) (h4 : rg a4) (hp : p_X2_allow D i1 i2 i3 a4) : Ev (1) 7 13 [am_r (some 53), am_r (some (A 10 i1)), am_r (some (A 11 i2)), am_r (some (A 14 i3)), am_i (wz a4)] A D rv A (u_X2_allow D i1 i2 i3 a4) := by
  unfold p_X2_allow at hp
  unfold u_X2_allow
  refine Ev_of (c := 6) (P := P_X2_allow) (lo := [some (am_r (some 53)), some (am_r (some (A 10 i1))), some (am_r (some (A 11 i2))), some (am_r (some (A 14 i3))), some (am_i (wz a4)), none, none]) rfl rfl rfl (fun d hd s hr => ?_)
  refine ok (m_aload_n (q := 1) rfl rfl rfl rfl) ?_
  have f_1 := Rp_f11_21 (D := D) (i := i2) hr f2
  refine ok (m_gfx (t := 11) (q := 4) (r := some (A 21 i2)) rfl rfl rfl hr rfl f2 rfl rfl rfl) ?_
  refine ok (m_aload_n (q := 5) rfl rfl rfl rfl) ?_
  refine ok (m_gft (t := 10) (q := 8) rfl rfl rfl hr rfl f1 rfl rfl rfl) ?_
  obtain ⟨g4, hp⟩ := hp
  refine oke (e_ci (x_cs (q := 11) rfl rfl rfl rfl rfl rfl rfl rfl rfl) (ev_X11_rank (D := D) i2 (D 2000 i1) f_1 (show rg (D 2000 i1) from Rp_rg hr 2000 i1) g4) (Nat.le_trans (by decide) hd) hr) (fun s2 r3 => ?_)
  refine ok (m_istore (q := 13) (lo' := [some (am_r (some 53)), some (am_r (some (A 10 i1))), some (am_r (some (A 11 i2))), some (am_r (some (A 14 i3))), some (am_i (wz a4)), some (am_i (wz (w_rank D i2 (D 2000 i1)))), none]) rfl rfl rfl rfl rfl) ?_
  refine ok (m_aload_n (q := 14) rfl rfl rfl rfl) ?_
  refine ok (m_gfc (q := 17) rfl rfl rfl r3 rfl rfl rfl) ?_
  refine ok (m_aload_n (q := 18) rfl rfl rfl rfl) ?_
  refine ok (m_gft (t := 10) (q := 21) rfl rfl rfl r3 rfl f1 rfl rfl rfl) ?_
  obtain ⟨g5, hp⟩ := hp
  refine ok (m_ials (q := 22) rfl rfl rfl r3 rfl rfl g5 rfl) ?_
  refine ok (m_istore (q := 24) (lo' := [some (am_r (some 53)), some (am_r (some (A 10 i1))), some (am_r (some (A 11 i2))), some (am_r (some (A 14 i3))), some (am_i (wz a4)), some (am_i (wz (w_rank D i2 (D 2000 i1)))), some (am_i (wz (D 55 (D 2000 i1))))]) rfl rfl rfl rfl rfl) ?_
  refine ok (m_iload (q := 26) rfl rfl rfl rfl) ?_
  refine ok (m_iconst (q := 27) rfl rfl rfl) ?_
  refine okvf (m_cmpeq (qt := 60) (qf := 30) rfl rfl (Ev_rg (ev_X11_rank (D := D) i2 (D 2000 i1) f_1 (show rg (D 2000 i1) from Rp_rg hr 2000 i1) g4) hr) ⟨by decide, by decide⟩ rfl rfl) (fun c6 => ?_) (fun c6 => ?_)
  · exact ok (m_retv rfl rfl) (ok_v r3)
  · replace hp := iq c6 hp
    refine ok (m_aload_n (q := 31) rfl rfl rfl rfl) ?_
    refine ok (m_gfc (q := 34) rfl rfl rfl r3 rfl rfl rfl) ?_
    refine ok (m_aload_n (q := 35) rfl rfl rfl rfl) ?_
    refine ok (m_gft (t := 11) (q := 38) rfl rfl rfl r3 rfl f2 rfl rfl rfl) ?_
    obtain ⟨g7, hp⟩ := hp
    refine ok (m_ials (q := 39) rfl rfl rfl r3 rfl rfl g7 rfl) ?_
    refine okvf (m_ifne (qt := 60) (qf := 42) rfl rfl (Rp_rg r3 58 (D 2100 i2)) rfl rfl) (fun c8 => ?_) (fun c8 => ?_)
    · replace hp := ip c8 hp
      refine ok (m_iload (q := 44) rfl rfl rfl rfl) ?_
      refine ok (m_bipush (q := 46) rfl rfl rfl) ?_
      refine okvf (m_cmpge (qt := 60) (qf := 49) rfl rfl (Rp_rg r3 55 (D 2000 i1)) ⟨by decide, by decide⟩ rfl rfl) (fun c9 => ?_) (fun c9 => ?_)
      · exact ok (m_retv rfl rfl) (ok_v r3)
      · replace hp := iq c9 hp
        refine ok (m_aload_n (q := 50) rfl rfl rfl rfl) ?_
        refine ok (m_aload_n (q := 51) rfl rfl rfl rfl) ?_
        refine ok (m_aload_n (q := 52) rfl rfl rfl rfl) ?_
        refine ok (m_iload (q := 54) rfl rfl rfl rfl) ?_
        obtain ⟨g12, hp⟩ := hp
        refine oke (e_ci (x_cv (q := 57) rfl rfl rfl rfl rfl rfl rfl rfl rfl rfl (is_ty r3 rfl f3)) (ev_X7_unfitness (D := D) i3 i1 i2 a4 f3 f1 f2 h4 g12) (Nat.le_trans (by decide) hd) r3) (fun s10 r11 => ?_)
        refine okvf (m_ifeq (qt := 61) (qf := 60) rfl rfl (Ev_rg (ev_X7_unfitness (D := D) i3 i1 i2 a4 f3 f1 f2 h4 g12) r3) rfl rfl) (fun c13 => ?_) (fun c13 => ?_)
        · replace hp := ip c13 hp
          refine ok (m_aload_n (q := 62) rfl rfl rfl rfl) ?_
          refine ok (m_gfc (q := 65) rfl rfl rfl r11 rfl rfl rfl) ?_
          refine ok (m_aload_n (q := 66) rfl rfl rfl rfl) ?_
          refine ok (m_gft (t := 10) (q := 69) rfl rfl rfl r11 rfl f1 rfl rfl rfl) ?_
          refine ok (m_bipush (q := 71) rfl rfl rfl) ?_
          refine ok (m_imul (q := 72) rfl rfl rfl) ?_
          refine ok (m_iload (q := 74) rfl rfl rfl rfl) ?_
          refine ok (m_iadd (q := 75) rfl rfl rfl) ?_
          refine ok (m_aload_n (q := 76) rfl rfl rfl rfl) ?_
          refine ok (m_gft (t := 11) (q := 79) rfl rfl rfl r11 rfl f2 rfl rfl rfl) ?_
          obtain ⟨g16, hp⟩ := hp
          refine oke (e_ias (q := 80) rfl rfl rfl r11 rfl rfl g16 (show rg (D 2100 i2) from Rp_rg r11 2100 i2)) (fun s15 r14 => ?_)
          refine ok (m_aload_n (q := 81) rfl rfl rfl rfl) ?_
          refine ok (m_gfc (q := 84) rfl rfl rfl r14 rfl rfl rfl) ?_
          refine ok (m_aload_n (q := 85) rfl rfl rfl rfl) ?_
          refine ok (m_gft (t := 10) (q := 88) (w := D 2000 i1) rfl rfl rfl r14 rfl f1 rfl rfl rfl) ?_
          refine ok (m_iload (q := 90) rfl rfl rfl rfl) ?_
          refine ok (m_iconst (q := 91) rfl rfl rfl) ?_
          refine ok (m_iadd (q := 92) rfl rfl rfl) ?_
          refine oke (e_ias (q := 93) rfl rfl rfl r14 rfl rfl g5 (rg_wr _)) (fun s18 r17 => ?_)
          refine ok (m_aload_n (q := 94) rfl rfl rfl rfl) ?_
          refine ok (m_gfc (q := 97) rfl rfl rfl r17 rfl rfl rfl) ?_
          refine ok (m_aload_n (q := 98) rfl rfl rfl rfl) ?_
          refine ok (m_gft (t := 10) (q := 101) (w := D 2000 i1) rfl rfl rfl r17 rfl f1 rfl rfl rfl) ?_
          refine ok (m_aload_n (q := 102) rfl rfl rfl rfl) ?_
          refine ok (m_gft (t := 11) (q := 105) (w := D 2100 i2) rfl rfl rfl r17 rfl f2 rfl rfl rfl) ?_
          refine oke (e_ci (x_cs (q := 108) rfl rfl rfl rfl rfl rfl rfl rfl rfl) (ev_X2_pairOf (D := (up (up D 54 (wr ((wr ((D 2000 i1) * 13)) + (D 55 (D 2000 i1)))) (D 2100 i2)) 55 (D 2000 i1) (wr ((D 55 (D 2000 i1)) + 1)))) (D 2000 i1) (D 2100 i2) (show rg (D 2000 i1) from Rp_rg r17 2000 i1) (show rg (D 2100 i2) from Rp_rg r17 2100 i2)) (Nat.le_trans (by decide) hd) r17) (fun s19 r20 => ?_)
          refine ok (m_iload (q := 110) rfl rfl rfl rfl) ?_
          obtain ⟨g23, hp⟩ := hp
          refine oke (e_ias (q := 111) rfl rfl rfl r20 rfl rfl g23 (Rp_rg r3 55 (D 2000 i1))) (fun s22 r21 => ?_)
          refine ok (m_aload_n (q := 112) rfl rfl rfl rfl) ?_
          refine ok (m_gfc (q := 115) rfl rfl rfl r21 rfl rfl rfl) ?_
          refine ok (m_aload_n (q := 116) rfl rfl rfl rfl) ?_
          refine ok (m_gft (t := 10) (q := 119) (w := D 2000 i1) rfl rfl rfl r21 rfl f1 rfl rfl rfl) ?_
          refine ok (m_aload_n (q := 120) rfl rfl rfl rfl) ?_
          refine ok (m_gft (t := 11) (q := 123) (w := D 2100 i2) rfl rfl rfl r21 rfl f2 rfl rfl rfl) ?_
          refine oke (e_ci (x_cs (q := 126) rfl rfl rfl rfl rfl rfl rfl rfl rfl) (ev_X2_pairOf (D := (up (up (up D 54 (wr ((wr ((D 2000 i1) * 13)) + (D 55 (D 2000 i1)))) (D 2100 i2)) 55 (D 2000 i1) (wr ((D 55 (D 2000 i1)) + 1))) 56 (v_X2_pairOf (up (up D 54 (wr ((wr ((D 2000 i1) * 13)) + (D 55 (D 2000 i1)))) (D 2100 i2)) 55 (D 2000 i1) (wr ((D 55 (D 2000 i1)) + 1))) (D 2000 i1) (D 2100 i2)) (D 55 (D 2000 i1)))) (D 2000 i1) (D 2100 i2) (show rg (D 2000 i1) from Rp_rg r21 2000 i1) (show rg (D 2100 i2) from Rp_rg r21 2100 i2)) (Nat.le_trans (by decide) hd) r21) (fun s24 r25 => ?_)
          refine ok (m_iload (q := 128) rfl rfl rfl rfl) ?_
          have g28 := hp
          refine oke (e_ias (q := 129) rfl rfl rfl r25 rfl rfl g28 (Ev_rg (ev_X11_rank (D := D) i2 (D 2000 i1) f_1 (show rg (D 2000 i1) from Rp_rg hr 2000 i1) g4) hr)) (fun s27 r26 => ?_)
          exact ok (m_retv rfl rfl) (ok_v r26)
        · exact ok (m_retv rfl rfl) (ok_v r11)
    · exact ok (m_retv rfl rfl) (ok_v r3)
theorem fl_X2_allow (D : aD) (i1 : Int) (i2 : Int) (i3 : Int) (a4 : Int) (t : Nat) (i : Int) (ht : Nat.ble t 49 = true) : u_X2_allow D i1 i2 i3 a4 (900 + t) i = D (900 + t) i := fl_if (rfl) (fl_if (fl_if (rfl) (fl_if ((up_c (fl_ne rfl ht)).trans ((up_c (fl_ne rfl ht)).trans ((up_c (fl_ne rfl ht)).trans ((up_c (fl_ne rfl ht)).trans (rfl))))) (rfl))) (rfl))
abbrev P_X11_preparePairs : Nat → Option am_E := am_fy tb_X11_preparePairs
def K_X11_preparePairs_18 (n : Nat) (A : aA) (D : aD) (i1 : Int) (a2 : Int) (D' : aD) : Prop := Lp n 7 P_X11_preparePairs 18 [some (am_r (some 32)), some (am_r (some (A 14 i1))), some (am_i (wz a2)), none, none] [] A D rv A D'
def K_X11_preparePairs_69 (n : Nat) (A : aA) (D : aD) (i1 : Int) (a2 : Int) (D' : aD) : Prop := Lp n 7 P_X11_preparePairs 69 [some (am_r (some 32)), some (am_r (some (A 14 i1))), some (am_i (wz a2)), none, none] [] A D rv A D'
def K_X11_preparePairs_114 (n : Nat) (A : aA) (D : aD) (i1 : Int) (a2 : Int) (i3 : Int) (a4 : Int) (D' : aD) : Prop := Lp n 7 P_X11_preparePairs 114 [some (am_r (some 32)), some (am_r (some (A 14 i1))), some (am_i (wz a2)), some (am_r (some (A 10 i3))), some (am_i (wz a4))] [] A D rv A D'
set_option maxRecDepth 100000 in
theorem rl_X11_preparePairs {A : aA} {D D' : aD} (hp : (p_inv1 D (D 32 14)) ∧ K_X11_preparePairs_18 (1) A (u_X2_forgetPairs D) (w_bookOf D (D 32 14)) 0 D') : Ev (1) (8) 118 [am_r (some 32)] A D rv A D' := by
  refine Ev_of (c := 7) (P := P_X11_preparePairs) (lo := [some (am_r (some 32)), none, none, none, none]) rfl rfl rfl (fun d hd s hr => ?_)
  refine ok (m_aload_n (q := 1) rfl rfl rfl rfl) ?_
  refine ok (m_aload_n (q := 2) rfl rfl rfl rfl) ?_
  refine ok (m_gfs (z := 14) (q := 5) rfl rfl rfl hr rfl rfl rfl rfl rfl) ?_
  obtain ⟨g3, hp⟩ := hp
  refine oke (e_cr (x_cv (q := 8) rfl rfl rfl rfl rfl rfl rfl rfl rfl rfl (is_st hr rfl rfl)) (ev_X11_bookOf (D := D) (D 32 14) (Rp_rg hr 32 14) g3) (Nat.le_trans (by decide) hd) hr) (fun s1 r2 => ?_)
  refine ok (m_astore_n (q := 9) (lo' := [some (am_r (some 32)), some (am_r (some (A 14 (w_bookOf D (D 32 14))))), none, none, none]) rfl rfl rfl rfl rfl) ?_
  refine ok (m_aload_n (q := 10) rfl rfl rfl rfl) ?_
  refine ok (m_gfc (q := 13) rfl rfl rfl r2 rfl rfl rfl) ?_
  refine oke (e_cvd (x_cv (q := 16) rfl rfl rfl rfl rfl rfl rfl rfl rfl rfl (is_st r2 rfl rfl)) (ev_X2_forgetPairs (D := D)) (Nat.le_trans (by decide) hd) r2) (fun s4 r5 => ?_)
  refine ok (m_iconst (q := 17) rfl rfl rfl) ?_
  refine ok (m_istore_n (q := 18) (lo' := [some (am_r (some 32)), some (am_r (some (A 14 (w_bookOf D (D 32 14))))), some (am_i (wz 0)), none, none]) rfl rfl rfl rfl rfl) ?_
  exact hp d hd _ r5
set_option maxRecDepth 100000 in
theorem rl_X11_preparePairs_18 {A : aA} {D D' : aD} (i1 : Int) (a2 : Int) (f1 : D 914 i1 = 1) (h2 : rg a2) (hp : (if D 1002 0 ≤ a2 then K_X11_preparePairs_69 (1) A D i1 0 D' else (p_inOf D a2 (D 32 14) (D 32 14)) ∧ (if w_inOf D a2 (D 32 14) (D 32 14) < 0 then K_X11_preparePairs_18 (1) A D i1 (wr (a2 + 1)) D' else (p_X2_fillPlace D (D 2502 (w_inOf D a2 (D 32 14) (D 32 14)))) ∧ K_X11_preparePairs_18 (1) A (u_X2_fillPlace D (D 2502 (w_inOf D a2 (D 32 14) (D 32 14)))) i1 (wr (a2 + 1)) D'))) : K_X11_preparePairs_18 (1) A D i1 a2 D' := by
  unfold K_X11_preparePairs_18
  refine fun d hd s hr => ?_
  refine ok (m_iload_n (q := 19) rfl rfl rfl rfl) ?_
  refine ok (m_aload_n (q := 20) rfl rfl rfl rfl) ?_
  have f_6 := Rp_fx0_0 hr
  refine ok (m_gfy (q := 23) rfl rfl rfl hr rfl rfl rfl) ?_
  refine oke (e_ci (x_cv (q := 26) rfl rfl rfl rfl rfl rfl rfl rfl rfl rfl (is_ty hr rfl f_6)) (ev_size 0 f_6) (Nat.le_trans (by decide) hd) hr) (fun s7 r8 => ?_)
  refine okc (m_cmpge (qt := 67) (qf := 29) rfl rfl h2 (show rg (D 1002 0) from Rp_rg hr 1002 0) rfl rfl) (fun c9 => ?_) (fun c9 => ?_)
  · replace hp := ip c9 hp
    refine ok (m_iconst (q := 68) rfl rfl rfl) ?_
    refine ok (m_istore_n (q := 69) (lo' := [some (am_r (some 32)), some (am_r (some (A 14 i1))), some (am_i (wz 0)), none, none]) rfl rfl rfl rfl rfl) ?_
    exact hp d hd _ r8
  · replace hp := iq c9 hp
    refine ok (m_aload_n (q := 30) rfl rfl rfl rfl) ?_
    refine ok (m_gfc (q := 33) rfl rfl rfl r8 rfl rfl rfl) ?_
    refine ok (m_iload_n (q := 34) rfl rfl rfl rfl) ?_
    refine ok (m_aload_n (q := 35) rfl rfl rfl rfl) ?_
    refine ok (m_gfs (z := 14) (q := 38) rfl rfl rfl r8 rfl rfl rfl rfl rfl) ?_
    refine ok (m_aload_n (q := 39) rfl rfl rfl rfl) ?_
    refine ok (m_gfs (z := 14) (q := 42) rfl rfl rfl r8 rfl rfl rfl rfl rfl) ?_
    obtain ⟨g12, hp⟩ := hp
    refine oke (e_cr (x_cv (q := 45) rfl rfl rfl rfl rfl rfl rfl rfl rfl rfl (is_st r8 rfl rfl)) (ev_X3_whereIn (D := D) a2 (D 32 14) (D 32 14) h2 (Rp_rg r8 32 14) (Rp_rg r8 32 14) g12) (Nat.le_trans (by decide) hd) r8) (fun s10 r11 => ?_)
    refine ok (m_astore_n (q := 46) (lo' := [some (am_r (some 32)), some (am_r (some (A 14 i1))), some (am_i (wz a2)), some (am_r (nr A 15 (w_inOf D a2 (D 32 14) (D 32 14)))), none]) rfl rfl rfl rfl rfl) ?_
    refine ok (m_aload_n (q := 47) rfl rfl rfl rfl) ?_
    refine okc ((m_ifnull (qt := 61) (qf := 50) rfl rfl rfl rfl).trans (ifn_n r11 rfl (fg_whereIn (D := D) a2 (D 32 14) (D 32 14) h2 (Rp_rg r8 32 14) (Rp_rg r8 32 14) g12 r8))) (fun c13 => ?_) (fun c13 => ?_)
    · replace hp := ip c13 hp
      refine ok (m_iinc (q := 64) (lo' := [some (am_r (some 32)), some (am_r (some (A 14 i1))), some (am_i (wz (wr (a2 + 1)))), some (am_r (nr A 15 (w_inOf D a2 (D 32 14) (D 32 14)))), none]) rfl rfl rfl rfl rfl rfl rfl) ?_
      refine ok (m_goto (q := 18) rfl rfl rfl) ?_
      refine ok (mk rfl (lo' := [some (am_r (some 32)), some (am_r (some (A 14 i1))), some (am_i (wz (wr (a2 + 1)))), none, none]) rfl) ?_
      exact hp d hd _ r11
    · replace hp := iq c13 hp
      refine ok (o' := mr d P_X11_preparePairs 50 [some (am_r (some 32)), some (am_r (some (A 14 i1))), some (am_i (wz a2)), some (am_r (some (A 15 (w_inOf D a2 (D 32 14) (D 32 14))))), none] [] s10) (by rw [nr_s (Int.not_lt.mp c13)]; try rfl) ?_
      refine ok (m_aload_n (q := 51) rfl rfl rfl rfl) ?_
      refine ok (m_gfc (q := 54) rfl rfl rfl r11 rfl rfl rfl) ?_
      refine ok (m_aload_n (q := 55) rfl rfl rfl rfl) ?_
      have f_14 : D 911 (D 2502 (w_inOf D a2 (D 32 14) (D 32 14))) = 1 := Rp_f15_11 (D := D) (i := w_inOf D a2 (D 32 14) (D 32 14)) r11 ((fg_whereIn (D := D) a2 (D 32 14) (D 32 14) h2 (Rp_rg r8 32 14) (Rp_rg r8 32 14) g12 r8) (Int.not_lt.mp c13))
      refine ok (m_gfx (t := 15) (q := 58) (r := some (A 11 (D 2502 (w_inOf D a2 (D 32 14) (D 32 14))))) rfl rfl rfl r11 rfl ((fg_whereIn (D := D) a2 (D 32 14) (D 32 14) h2 (Rp_rg r8 32 14) (Rp_rg r8 32 14) g12 r8) (Int.not_lt.mp c13)) rfl rfl rfl) ?_
      obtain ⟨g17, hp⟩ := hp
      refine oke (e_cvd (x_cv (q := 61) rfl rfl rfl rfl rfl rfl rfl rfl rfl rfl (is_st r11 rfl rfl)) (ev_X2_fillPlace (D := D) (D 2502 (w_inOf D a2 (D 32 14) (D 32 14))) f_14 g17) (Nat.le_trans (by decide) hd) r11) (fun s15 r16 => ?_)
      refine ok (m_iinc (q := 64) (lo' := [some (am_r (some 32)), some (am_r (some (A 14 i1))), some (am_i (wz (wr (a2 + 1)))), some (am_r (some (A 15 (w_inOf D a2 (D 32 14) (D 32 14))))), none]) rfl rfl rfl rfl rfl rfl rfl) ?_
      refine ok (m_goto (q := 18) rfl rfl rfl) ?_
      refine ok (mk rfl (lo' := [some (am_r (some 32)), some (am_r (some (A 14 i1))), some (am_i (wz (wr (a2 + 1)))), none, none]) rfl) ?_
      exact hp d hd _ r16
set_option maxRecDepth 100000 in
theorem rl_X11_preparePairs_69 {A : aA} {D D' : aD} (i1 : Int) (a2 : Int) (f1 : D 914 i1 = 1) (h2 : rg a2) (hp : (if D 1002 0 ≤ a2 then (D' = D) else (p_inOf D a2 (D 32 14) (D 32 14)) ∧ (if w_inOf D a2 (D 32 14) (D 32 14) < 0 then (0 ≤ a2 ∧ a2 < D 1002 0) ∧ K_X11_preparePairs_114 (1) A D i1 a2 a2 0 D' else K_X11_preparePairs_69 (1) A D i1 (wr (a2 + 1)) D'))) : K_X11_preparePairs_69 (1) A D i1 a2 D' := by
  unfold K_X11_preparePairs_69
  refine fun d hd s hr => ?_
  refine ok (m_iload_n (q := 70) rfl rfl rfl rfl) ?_
  refine ok (m_aload_n (q := 71) rfl rfl rfl rfl) ?_
  have f_18 := Rp_fx0_0 hr
  refine ok (m_gfy (q := 74) rfl rfl rfl hr rfl rfl rfl) ?_
  refine oke (e_ci (x_cv (q := 77) rfl rfl rfl rfl rfl rfl rfl rfl rfl rfl (is_ty hr rfl f_18)) (ev_size 0 f_18) (Nat.le_trans (by decide) hd) hr) (fun s19 r20 => ?_)
  refine okc (m_cmpge (qt := 166) (qf := 80) rfl rfl h2 (show rg (D 1002 0) from Rp_rg hr 1002 0) rfl rfl) (fun c21 => ?_) (fun c21 => ?_)
  · replace hp := ip c21 hp
    exact ok (m_retv rfl rfl) (ok_vq r20 hp)
  · replace hp := iq c21 hp
    refine ok (m_aload_n (q := 81) rfl rfl rfl rfl) ?_
    refine ok (m_gfc (q := 84) rfl rfl rfl r20 rfl rfl rfl) ?_
    refine ok (m_iload_n (q := 85) rfl rfl rfl rfl) ?_
    refine ok (m_aload_n (q := 86) rfl rfl rfl rfl) ?_
    refine ok (m_gfs (z := 14) (q := 89) rfl rfl rfl r20 rfl rfl rfl rfl rfl) ?_
    refine ok (m_aload_n (q := 90) rfl rfl rfl rfl) ?_
    refine ok (m_gfs (z := 14) (q := 93) rfl rfl rfl r20 rfl rfl rfl rfl rfl) ?_
    obtain ⟨g24, hp⟩ := hp
    refine oke (e_cr (x_cv (q := 96) rfl rfl rfl rfl rfl rfl rfl rfl rfl rfl (is_st r20 rfl rfl)) (ev_X3_whereIn (D := D) a2 (D 32 14) (D 32 14) h2 (Rp_rg r20 32 14) (Rp_rg r20 32 14) g24) (Nat.le_trans (by decide) hd) r20) (fun s22 r23 => ?_)
    refine okc ((m_ifnonnull (qt := 160) (qf := 99) rfl rfl rfl rfl).trans (ifn_n r23 rfl (fg_whereIn (D := D) a2 (D 32 14) (D 32 14) h2 (Rp_rg r20 32 14) (Rp_rg r20 32 14) g24 r20))) (fun c25 => ?_) (fun c25 => ?_)
    · replace hp := ip c25 hp
      refine ok (m_aload_n (q := 100) rfl rfl rfl rfl) ?_
      have f_26 := Rp_fx0_0 r23
      refine ok (m_gfy (q := 103) rfl rfl rfl r23 rfl rfl rfl) ?_
      refine ok (m_iload_n (q := 104) rfl rfl rfl rfl) ?_
      obtain ⟨g29, hp⟩ := hp
      have f_30 := Rp_el0 (D := D) r23 g29
      refine oke (e_cr (x_cv (q := 107) rfl rfl rfl rfl rfl rfl rfl rfl rfl rfl (is_ty r23 rfl f_26)) (ev_get0 a2 g29) (Nat.le_trans (by decide) hd) r23) (fun s27 r28 => ?_)
      refine ok (m_cast (q := 110) rfl rfl rfl (isN_ty r28 rfl f_30)) ?_
      refine ok (m_astore_n (q := 111) (lo' := [some (am_r (some 32)), some (am_r (some (A 14 i1))), some (am_i (wz a2)), some (am_r (some (A 10 a2))), none]) rfl rfl rfl rfl rfl) ?_
      refine ok (m_iconst (q := 112) rfl rfl rfl) ?_
      refine ok (m_istore (q := 114) (lo' := [some (am_r (some 32)), some (am_r (some (A 14 i1))), some (am_i (wz a2)), some (am_r (some (A 10 a2))), some (am_i (wz 0))]) rfl rfl rfl rfl rfl) ?_
      exact hp d hd _ r28
    · replace hp := iq c25 hp
      refine ok (m_iinc (q := 163) (lo' := [some (am_r (some 32)), some (am_r (some (A 14 i1))), some (am_i (wz (wr (a2 + 1)))), none, none]) rfl rfl rfl rfl rfl rfl rfl) ?_
      refine ok (m_goto (q := 69) rfl rfl rfl) ?_
      exact hp d hd _ r23
set_option maxRecDepth 100000 in
theorem rl_X11_preparePairs_114 {A : aA} {D D' : aD} (i1 : Int) (a2 : Int) (i3 : Int) (a4 : Int) (f1 : D 914 i1 = 1) (h2 : rg a2) (f3 : D 910 i3 = 1) (h4 : rg a4) (hp : (if D 3000 i3 ≤ a4 then K_X11_preparePairs_69 (1) A D i1 (wr (a2 + 1)) D' else (0 ≤ a4 ∧ a4 < D 3000 i3) ∧ (0 ≤ D 3001 (1024 * i3 + a4) ∧ D 3001 (1024 * i3 + a4) < D 1002 1) ∧ (p_X2_allow D i3 (D 3001 (1024 * i3 + a4)) i1 (D 32 14)) ∧ K_X11_preparePairs_114 (1) A (u_X2_allow D i3 (D 3001 (1024 * i3 + a4)) i1 (D 32 14)) i1 a2 i3 (wr (a4 + 1)) D')) : K_X11_preparePairs_114 (1) A D i1 a2 i3 a4 D' := by
  unfold K_X11_preparePairs_114
  refine fun d hd s hr => ?_
  refine ok (m_iload (q := 116) rfl rfl rfl rfl) ?_
  refine ok (m_aload_n (q := 117) rfl rfl rfl rfl) ?_
  have f_31 := Rp_f10_20 (D := D) (i := i3) hr f3
  refine ok (m_gfx (t := 10) (q := 120) (r := some (A 20 i3)) rfl rfl rfl hr rfl f3 rfl rfl rfl) ?_
  refine ok (m_lent (t := 20) (q := 121) rfl rfl rfl hr rfl f_31 rfl rfl rfl) ?_
  refine okc (m_cmpge (qt := 160) (qf := 124) rfl rfl h4 (show rg (D 3000 i3) from Rp_rg hr 3000 i3) rfl rfl) (fun c32 => ?_) (fun c32 => ?_)
  · replace hp := ip c32 hp
    refine ok (m_iinc (q := 163) (lo' := [some (am_r (some 32)), some (am_r (some (A 14 i1))), some (am_i (wz (wr (a2 + 1)))), some (am_r (some (A 10 i3))), some (am_i (wz a4))]) rfl rfl rfl rfl rfl rfl rfl) ?_
    refine ok (m_goto (q := 69) rfl rfl rfl) ?_
    refine ok (mk rfl (lo' := [some (am_r (some 32)), some (am_r (some (A 14 i1))), some (am_i (wz (wr (a2 + 1)))), none, none]) rfl) ?_
    exact hp d hd _ hr
  · replace hp := iq c32 hp
    refine ok (m_aload_n (q := 125) rfl rfl rfl rfl) ?_
    refine ok (m_gfc (q := 128) rfl rfl rfl hr rfl rfl rfl) ?_
    refine ok (m_aload_n (q := 129) rfl rfl rfl rfl) ?_
    refine ok (m_aload_n (q := 130) rfl rfl rfl rfl) ?_
    have f_33 := Rp_fx0_1 hr
    refine ok (m_gfy (q := 133) rfl rfl rfl hr rfl rfl rfl) ?_
    refine ok (m_aload_n (q := 134) rfl rfl rfl rfl) ?_
    have f_34 := Rp_f10_20 (D := D) (i := i3) hr f3
    refine ok (m_gfx (t := 10) (q := 137) (r := some (A 20 i3)) rfl rfl rfl hr rfl f3 rfl rfl rfl) ?_
    refine ok (m_iload (q := 139) rfl rfl rfl rfl) ?_
    obtain ⟨g35, hp⟩ := hp
    refine ok (m_ialt (t := 20) (q := 140) rfl rfl rfl hr rfl f_34 rfl rfl rfl g35 rfl) ?_
    obtain ⟨g38, hp⟩ := hp
    have f_39 := Rp_el1 (D := D) hr g38
    refine oke (e_cr (x_cv (q := 143) rfl rfl rfl rfl rfl rfl rfl rfl rfl rfl (is_ty hr rfl f_33)) (ev_get1 (D 3001 (1024 * i3 + a4)) g38) (Nat.le_trans (by decide) hd) hr) (fun s36 r37 => ?_)
    refine ok (m_cast (q := 146) rfl rfl rfl (isN_ty r37 rfl f_39)) ?_
    refine ok (m_aload_n (q := 147) rfl rfl rfl rfl) ?_
    refine ok (m_aload_n (q := 148) rfl rfl rfl rfl) ?_
    refine ok (m_gfs (z := 14) (q := 151) rfl rfl rfl r37 rfl rfl rfl rfl rfl) ?_
    obtain ⟨g42, hp⟩ := hp
    refine oke (e_cvd (x_cv (q := 154) rfl rfl rfl rfl rfl rfl rfl rfl rfl rfl (is_st r37 rfl rfl)) (ev_X2_allow (D := D) i3 (D 3001 (1024 * i3 + a4)) i1 (D 32 14) f3 f_39 f1 (Rp_rg r37 32 14) g42) (Nat.le_trans (by decide) hd) r37) (fun s40 r41 => ?_)
    refine ok (m_iinc (q := 157) (lo' := [some (am_r (some 32)), some (am_r (some (A 14 i1))), some (am_i (wz a2)), some (am_r (some (A 10 i3))), some (am_i (wz (wr (a4 + 1))))]) rfl rfl rfl rfl rfl rfl rfl) ?_
    refine ok (m_goto (q := 114) rfl rfl rfl) ?_
    exact hp d hd _ r41
theorem allow_e (hI : Inv D) (hm : Sm E D) {s k b : Int} (hs : 0 ≤ s ∧ s < D 70 1) (hin : w_inOf D s (D 70 0) (D 70 0) = -1) (hb : b = w_bookOf D (D 70 0)) (hk : 0 ≤ k ∧ k < D 3000 s) (h58 : ∀ p, 0 ≤ p → p < 30 → (E 58 p = 0 ↔ w_holderOf D p (D 70 0) (D 70 0) = -1)) (hP : PS D E s k) : p_X2_allow E s (D 3001 (1024 * s + k)) b (D 70 0) ∧ Sm (u_X2_allow E s (D 3001 (1024 * s + k)) b (D 70 0)) D ∧ (∀ p, u_X2_allow E s (D 3001 (1024 * s + k)) b (D 70 0) 58 p = E 58 p) ∧ PS D (u_X2_allow E s (D 3001 (1024 * s + k)) b (D 70 0)) s (k + 1) ∧ ∀ s', 0 ≤ s' → s' < 24 → s' ≠ s → ∀ k', PS D E s' k' → PS D (u_X2_allow E s (D 3001 (1024 * s + k)) b (D 70 0)) s' k' := by
  have hc := hI.iv.ct; unfold I_ct at hc
  have hIE := Inv_cg hm hI
  obtain ⟨w1, w2, w3, w4⟩ := hI.iv.ws.1 s hs.1 hs.2
  obtain ⟨v1, v2, v3⟩ := w3 k hk.1 hk.2
  generalize D 3001 (1024 * s + k) = p at *
  have e20 : E 2000 s = s := by rw [hm 2000 rfl]; exact (hI.iv.sv s hs.1 hs.2).1
  have e21 : E 2100 p = p := by rw [hm 2100 rfl]; exact (hI.iv.pl p v1 v2).1
  have er : w_rank E p s = D 115 (24 * p + s) - 1 := by
    rw [(rank_e hIE.iv (by rw [hm 70 rfl]; exact ⟨v1, v2⟩) ⟨hs.1, by omega⟩).1, hm 115 rfl]
  have rb := rank_e hI.iv (q := p) (s := s) ⟨v1, v2⟩ ⟨hs.1, by omega⟩
  have eb : w_bookOf E (D 70 0) = b := by rw [hb]; unfold w_bookOf; rw [if_cg hm]
  have ef : v_X7_unfitness E b s p (D 70 0) = v_X12_fitOf D s p (D 70 0) := by
    rw [← eb, fit_eq hIE (by rw [hm 70 rfl]; exact hs) (by rw [hm 70 rfl]; exact ⟨v1, v2⟩) (by omega), fit_cg hm]
  have pf : p_X7_unfitness E b s p (D 70 0) := by
    rw [← eb]; exact pfitX hIE (by rw [hm 70 rfl]; exact hs) (by rw [hm 70 rfl]; exact ⟨v1, v2⟩) (by omega)
  have prk : p_rank E p s := by
    obtain ⟨a, b', _⟩ := hI.iv.ws.2 p v1 v2
    unfold p_rank; rw [hm 3100 rfl]; exact ⟨a, b'⟩
  obtain ⟨P1, P2, P3, P4⟩ := hP
  have uniq : ∀ p', 0 ≤ p' → p' < 30 → D 114 (30 * s + p') = k + 1 → p' = p := fun p' a b' e => by
    rcases w4 p' a b' with y | ⟨y1, y2, y3⟩
    · omega
    · rcases w4 p v1 (by omega) with x | ⟨x1, x2, x3⟩
      · omega
      · rw [e] at y3; rw [v3] at x3; omega
  have pO : ∀ G : aD, v_X2_pairOf G s p = 30 * s + p := fun G => by
    unfold v_X2_pairOf; rw [wr_id (z := s * 30) (by omega) (by omega), wr_id (by omega) (by omega)]; omega
  by_cases ha : alw D s p
  · have hh := ha
    obtain ⟨_, _, _, q4, q5, q6, q7⟩ := ha
    have c58 : E 58 p = 0 := (h58 p v1 (by omega)).mpr q4
    have eu : u_X2_allow E s p b (D 70 0) = up (up (up (up E 54 (13 * s + E 55 s) p) 55 s (E 55 s + 1)) 56 (30 * s + p) (E 55 s)) 57 (30 * s + p) (D 115 (24 * p + s) - 1) := by
      unfold u_X2_allow
      rw [e20, e21, er, if_neg (by omega), if_pos c58, if_neg (by omega), ef, if_pos q7, pO, pO, wr_id (z := s * 13) (by omega) (by omega), wr_id (z := s * 13 + E 55 s) (by omega) (by omega), wr_id (z := E 55 s + 1) (by omega) (by omega), show s * 13 + E 55 s = 13 * s + E 55 s by omega]
    refine ⟨?_, ?_, ?_, ?_, ?_⟩
    · unfold p_X2_allow
      rw [e20, e21, er, if_neg (by omega), if_pos c58, if_neg (by omega), ef, if_pos q7, pO, pO, wr_id (z := s * 13) (by omega) (by omega), wr_id (z := s * 13 + E 55 s) (by omega) (by omega)]
      exact ⟨prk, by omega, by omega, pf, by omega, by omega, by omega⟩
    · rw [eu]; exact (((hm.up rfl).up rfl).up rfl).up rfl
    · intro p'; rw [eu, up_c (by decide), up_c (by decide), up_c (by decide), up_c (by decide)]
    · rw [eu]
      have g5 : ∀ G : Int, up (up (up (up E 54 (13 * s + E 55 s) p) 55 s (E 55 s + 1)) 56 (30 * s + p) (E 55 s)) 57 (30 * s + p) (D 115 (24 * p + s) - 1) 55 s = E 55 s + 1 := fun _ => by rw [up_c (by decide), up_c (by decide), up_eq]
      have g6 : ∀ p', up (up (up (up E 54 (13 * s + E 55 s) p) 55 s (E 55 s + 1)) 56 (30 * s + p) (E 55 s)) 57 (30 * s + p) (D 115 (24 * p + s) - 1) 56 (30 * s + p') = if p' = p then E 55 s else E 56 (30 * s + p') := fun p' => by
        rw [up_c (by decide)]
        by_cases z : p' = p
        · rw [z, up_eq, if_pos rfl]
        · rw [up_i (by omega), if_neg z, up_c (by decide), up_c (by decide)]
      have g7 : ∀ p', up (up (up (up E 54 (13 * s + E 55 s) p) 55 s (E 55 s + 1)) 56 (30 * s + p) (E 55 s)) 57 (30 * s + p) (D 115 (24 * p + s) - 1) 57 (30 * s + p') = if p' = p then D 115 (24 * p + s) - 1 else E 57 (30 * s + p') := fun p' => by
        by_cases z : p' = p
        · rw [z, up_eq, if_pos rfl]
        · rw [up_i (by omega), if_neg z, up_c (by decide), up_c (by decide), up_c (by decide)]
      have g4 : ∀ i, up (up (up (up E 54 (13 * s + E 55 s) p) 55 s (E 55 s + 1)) 56 (30 * s + p) (E 55 s)) 57 (30 * s + p) (D 115 (24 * p + s) - 1) 54 (13 * s + i) = if i = E 55 s then p else E 54 (13 * s + i) := fun i => by
        rw [up_c (by decide), up_c (by decide), up_c (by decide)]
        by_cases z : i = E 55 s
        · rw [z, up_eq, if_pos rfl]
        · rw [up_i (by omega), if_neg z]
      have hp6 : E 56 (30 * s + p) = -1 := by
        rcases P2 p v1 (by omega) with z | z
        · exact z.1
        · omega
      refine ⟨by rw [g5 0]; omega, fun p' p0 p1 => ?_, fun i i0 i1 => ?_, fun p' p'' p0 p1 q0 q1 => ?_⟩
      · rw [g6, g7, g5 0]
        by_cases z : p' = p
        · rw [if_pos z, if_pos z, g4, if_pos rfl, z]
          exact Or.inr ⟨⟨hh, by omega⟩, by omega, by omega, rfl, rfl⟩
        · rw [if_neg z, if_neg z]
          rcases P2 p' p0 p1 with y | ⟨y1, y2, y3, y4, y5⟩
          · refine Or.inl ⟨y.1, y.2.1, fun x => y.2.2 ⟨x.1, ?_⟩⟩
            have : D 114 (30 * s + p') ≠ k + 1 := fun x => z (uniq p' p0 p1 x)
            omega
          · refine Or.inr ⟨⟨y1.1, by omega⟩, y2, by omega, ?_, y5⟩
            rw [g4, if_neg (by omega)]; exact y4
      · rw [g5 0] at i1
        rw [g4]
        by_cases z : i = E 55 s
        · rw [if_pos z, g6, if_pos rfl]; exact ⟨⟨v1, by omega⟩, z.symm⟩
        · rw [if_neg z]
          have y := P3 i i0 (by omega)
          rw [g6, if_neg (fun x => by rw [x] at y; omega)]; exact y
      · rw [g6, g6]
        by_cases z1 : p' = p
        · by_cases z2 : p'' = p
          · rw [if_pos z1, if_pos z2, z1, z2]; intro _ _; omega
          · rw [if_pos z1, if_neg z2, z1]
            intro _ a2
            rcases P2 p'' q0 q1 with y | y
            · exact absurd y.1 a2
            · omega
        · by_cases z2 : p'' = p
          · rw [if_neg z1, if_pos z2, z2]
            intro a1 _
            rcases P2 p' p0 p1 with y | y
            · exact absurd y.1 a1
            · omega
          · rw [if_neg z1, if_neg z2]
            exact P4 p' p'' p0 p1 q0 q1
    · intro s' s0 s1 sn k' h
      rw [eu]
      refine PS_cg ?_ (fun p' p0 p1 => ⟨?_, ?_⟩) (fun i i0 i1 => ?_) h
      · rw [up_c (by decide), up_c (by decide), up_i sn, up_c (by decide)]
      · rw [up_c (by decide), up_i (by omega), up_c (by decide), up_c (by decide)]
      · rw [up_i (by omega), up_c (by decide), up_c (by decide), up_c (by decide)]
      · rw [up_c (by decide), up_c (by decide), up_c (by decide), up_i (by omega)]
  · have eu : u_X2_allow E s p b (D 70 0) = E := by
      unfold u_X2_allow
      rw [e20, e21, er]
      by_cases c1 : D 115 (24 * p + s) - 1 = -1
      · rw [if_pos c1]
      rw [if_neg c1]
      by_cases c2 : E 58 p = 0
      · rw [if_pos c2, if_neg (by omega), ef]
        by_cases c3 : v_X12_fitOf D s p (D 70 0) = 0
        · exact absurd ⟨hs, ⟨v1, v2⟩, hin, (h58 p v1 (by omega)).mp c2, by omega, by omega, c3⟩ ha
        · rw [if_neg c3]
      · rw [if_neg c2]
    rw [eu]
    refine ⟨?_, hm, fun _ => rfl, ⟨by omega, fun p' p0 p1 => ?_, P3, P4⟩, fun s' _ _ _ k' h => h⟩
    · unfold p_X2_allow
      rw [e20, e21, er]
      refine ⟨prk, by omega, ?_⟩
      by_cases c1 : D 115 (24 * p + s) - 1 = -1
      · rw [if_pos c1]; trivial
      rw [if_neg c1]
      refine ⟨by omega, ?_⟩
      by_cases c2 : E 58 p = 0
      · rw [if_pos c2, if_neg (by omega), ef]
        refine ⟨pf, ?_⟩
        by_cases c3 : v_X12_fitOf D s p (D 70 0) = 0
        · exact absurd ⟨hs, ⟨v1, v2⟩, hin, (h58 p v1 (by omega)).mp c2, by omega, by omega, c3⟩ ha
        · rw [if_neg c3]; trivial
      · rw [if_neg c2]; trivial
    · rcases P2 p' p0 p1 with y | ⟨y1, y2, y3, y4, y5⟩
      · refine Or.inl ⟨y.1, y.2.1, fun x => y.2.2 ⟨x.1, ?_⟩⟩
        have : D 114 (30 * s + p') ≠ k + 1 := fun z => ha (by rw [← uniq p' p0 p1 z]; exact x.1)
        omega
      · exact Or.inr ⟨⟨y1.1, by omega⟩, y2, y3, y4, y5⟩
/-- all rows of pairs -/
def PP (D E : aD) : Prop := Sm E D ∧ ∀ s, 0 ≤ s → s < 24 → PS D E s 13
theorem hold_e {p t : Int} : w_holderOf D p t t = -1 ↔ ∀ s, 0 ≤ s → s < D 70 1 → ¬ (0 ≤ w_inOf D s t t ∧ D 84 (w_inOf D s t t) = p) := by
  unfold w_holderOf
  rcases fsi_spec (p := hdP D p t t) (N := D 70 1) 0 with ⟨z1, z2⟩ | ⟨z1, z2, z3, _⟩
  · exact ⟨fun _ s a b q => by have := z2 s a b; unfold hdP at this; exact of_decide_eq_false this q, fun _ => z1⟩
  · refine ⟨fun q => by omega, fun q => ?_⟩
    unfold hdP at z3
    exact absurd (of_decide_eq_true z3) (q _ z1 z2)
def p_pp (D : aD) : Prop := Inv D ∧ D 914 (w_bookOf D (D 70 0)) = 1 ∧ ∀ i, 0 ≤ i → i < D 1002 0 → D 910 i = 1
def Ppc (D E : aD) : Prop := ∀ c, c ≠ 54 → c ≠ 55 → c ≠ 56 → c ≠ 57 → c ≠ 58 → E c = D c
theorem Ppc.sm (h : Ppc D E) : Sm E D := fun c q => h c (by rintro rfl; cases q) (by rintro rfl; cases q) (by rintro rfl; cases q) (by rintro rfl; cases q) (by rintro rfl; cases q)
theorem allow_c {i1 i2 i3 t : Int} (h : Ppc D E) : Ppc D (u_X2_allow E i1 i2 i3 t) := by
  intro c a1 a2 a3 a4 a5
  unfold u_X2_allow
  repeat' split
  all_goals first
    | exact h c a1 a2 a3 a4 a5
    | (rw [up_cf a4, up_cf a3, up_cf a2, up_cf a1]; exact h c a1 a2 a3 a4 a5)
theorem C69 (hp : p_pp D) : ∀ (r : Nat) (s : Int) (E : aD), s + r = D 70 1 → 0 ≤ s → Ppc D E → (∀ p, 0 ≤ p → p < 30 → (E 58 p = 0 ↔ w_holderOf D p (D 70 0) (D 70 0) = -1)) → (∀ s', 0 ≤ s' → s' < s → PS D E s' 13) → (∀ s', s ≤ s' → s' < 24 → PS D E s' 0) → ∃ E', Ppc D E' ∧ PP D E' ∧ ∀ A, K_X11_preparePairs_69 1 A E (w_bookOf D (D 70 0)) s E' := by
  obtain ⟨hI, hf, hfl⟩ := hp
  have hc := hI.iv.ct; unfold I_ct at hc
  obtain ⟨b, hb⟩ : ∃ b, b = w_bookOf D (D 70 0) := ⟨_, rfl⟩
  rw [← hb] at hf ⊢
  have hfE : ∀ F : aD, Sm F D → F 914 b = 1 := fun F z => by rw [z 914 rfl]; exact hf
  intro r
  induction r with
  | zero =>
    intro s E hr s0 hD g58 g1 g2
    have hm := hD.sm
    refine ⟨E, hD, ⟨hm, fun s' a b' => ?_⟩, fun A => rl_X11_preparePairs_69 _ _ (hfE E hm) (rgb (by omega) (by omega)) ?_⟩
    · by_cases c : s' < s
      · exact g1 s' a c
      · obtain ⟨q1, q2, q3, q4⟩ := g2 s' (by omega) b'
        refine ⟨by omega, fun p p0 p1 => ?_, q3, q4⟩
        rcases q2 p p0 p1 with z | z
        · exact Or.inl ⟨z.1, z.2.1, fun y => by have := y.1.1; omega⟩
        · have := z.1.1.1; omega
    · rw [if_pos (by rw [hm 1002 rfl]; omega)]
  | succ r ih =>
    intro s E hr s0 hD g58 g1 g2
    have hm := hD.sm
    have hIE := Inv_cg hm hI
    have e32 : E 32 14 = D 70 0 := by rw [hm 32 rfl]; exact hc.1.1
    have ein : w_inOf E s (D 70 0) (D 70 0) = w_inOf D s (D 70 0) (D 70 0) := in_cg hm _ _ _
    have hib := inOf_b (D := D) (s := s) (d := D 70 0) (k := D 70 0) (by omega)
    have pin : p_inOf E s (D 70 0) (D 70 0) := ⟨hIE.iv, by omega, by omega⟩
    by_cases c : w_inOf D s (D 70 0) (D 70 0) < 0
    · have hin : w_inOf D s (D 70 0) (D 70 0) = -1 := by omega
      obtain ⟨ws1, ws2, ws3, ws4⟩ := hI.iv.ws.1 s s0 (by omega)
      have inner : ∀ (q : Nat) (k : Int) (F : aD), k + q = D 3000 s → 0 ≤ k → Ppc D F → (∀ p, 0 ≤ p → p < 30 → (F 58 p = 0 ↔ w_holderOf D p (D 70 0) (D 70 0) = -1)) → (∀ s', 0 ≤ s' → s' < s → PS D F s' 13) → PS D F s k → (∀ s', s < s' → s' < 24 → PS D F s' 0) → ∃ E', Ppc D E' ∧ PP D E' ∧ ∀ A, K_X11_preparePairs_114 1 A F b s s k E' := by
        intro q
        induction q with
        | zero =>
          intro k F hq k0 fD f58 f1 f2 f3
          have fm := fD.sm
          obtain ⟨E', a, b', K⟩ := ih (s + 1) F (by omega) (by omega) fD f58 (fun s' a b' => by
            by_cases e : s' = s
            · rw [e]
              obtain ⟨q1, q2, q3, q4⟩ := f2
              refine ⟨by omega, fun p p0 p1 => ?_, q3, q4⟩
              rcases q2 p p0 p1 with z | ⟨z1, z2⟩
              · refine Or.inl ⟨z.1, z.2.1, fun y => z.2.2 ⟨y.1, ?_⟩⟩
                rcases ws4 p p0 p1 with x | x <;> omega
              · exact Or.inr ⟨⟨z1.1, by omega⟩, z2⟩
            · exact f1 s' a (by omega)) (fun s' a b' => f3 s' (by omega) b')
          refine ⟨E', a, b', fun A => rl_X11_preparePairs_114 _ _ _ _ (hfE F fm) (rgb (by omega) (by omega)) (by rw [fm 910 rfl]; exact hfl s s0 (by omega)) (rgb (by omega) (by omega)) ?_⟩
          rw [if_pos (by rw [fm 3000 rfl]; omega), wr_id (by omega) (by omega)]; exact K A
        | succ q ihq =>
          intro k F hq k0 fD f58 f1 f2 f3
          have fm := fD.sm
          have v := ws3 k k0 (by omega)
          obtain ⟨a1, a2, a3, a4, a5⟩ := allow_e hI fm ⟨s0, by omega⟩ hin hb ⟨k0, by omega⟩ f58 f2
          obtain ⟨E', a, b', K⟩ := ihq (k + 1) _ (by omega) (by omega) (allow_c (i1 := s) (i2 := D 3001 (1024 * s + k)) (i3 := b) (t := D 70 0) fD) (fun p p0 p1 => by rw [a3]; exact f58 p p0 p1) (fun s' x y => a5 s' x (by omega) (by omega) 13 (f1 s' x y)) a4 (fun s' x y => a5 s' (by omega) y (by omega) 0 (f3 s' x y))
          refine ⟨E', a, b', fun A => rl_X11_preparePairs_114 _ _ _ _ (hfE F fm) (rgb (by omega) (by omega)) (by rw [fm 910 rfl]; exact hfl s s0 (by omega)) (rgb (by omega) (by omega)) ?_⟩
          rw [if_neg (by rw [fm 3000 rfl]; omega), fm 3000 rfl, fm 3001 rfl, fm 1002 rfl, fm 32 rfl, hc.1.1, wr_id (by omega) (by omega)]
          exact ⟨by omega, by omega, a1, K A⟩
      obtain ⟨E', a, b', K⟩ := inner (D 3000 s).toNat 0 E (by omega) (by omega) hD g58 g1 (g2 s (Int.le_refl _) (by omega)) (fun s' x y => g2 s' (by omega) y)
      refine ⟨E', a, b', fun A => rl_X11_preparePairs_69 _ _ (hfE E hm) (rgb (by omega) (by omega)) ?_⟩
      rw [if_neg (by rw [hm 1002 rfl]; omega), e32, ein, if_pos c, hm 1002 rfl]
      exact ⟨pin, by omega, K A⟩
    · obtain ⟨E', a, b', K⟩ := ih (s + 1) E (by omega) (by omega) hD g58 (fun s' x y => by
        by_cases e : s' = s
        · rw [e]
          obtain ⟨q1, q2, q3, q4⟩ := g2 s (Int.le_refl _) (by omega)
          refine ⟨by omega, fun p p0 p1 => ?_, q3, q4⟩
          rcases q2 p p0 p1 with z | z
          · exact Or.inl ⟨z.1, z.2.1, fun y => by have := y.1.2.2.1; omega⟩
          · have := z.1.1.2.2.1; omega
        · exact g1 s' x (by omega)) (fun s' x y => g2 s' (by omega) y)
      refine ⟨E', a, b', fun A => rl_X11_preparePairs_69 _ _ (hfE E hm) (rgb (by omega) (by omega)) ?_⟩
      rw [if_neg (by rw [hm 1002 rfl]; omega), e32, ein, if_neg c, wr_id (by omega) (by omega)]
      exact ⟨pin, K A⟩
theorem C18 (hp : p_pp D) {E0 : aD} (hE0 : Ppc D E0) (h5 : ∀ s, 0 ≤ s → s < 24 → PS D E0 s 0) : ∀ (r : Nat) (s : Int) (E : aD), s + r = D 70 1 → 0 ≤ s → (∀ c, c ≠ 58 → E c = E0 c) → (∀ p, 0 ≤ p → p < 30 → (E 58 p = 0 ↔ ∀ s', 0 ≤ s' → s' < s → ¬ (0 ≤ w_inOf D s' (D 70 0) (D 70 0) ∧ D 84 (w_inOf D s' (D 70 0) (D 70 0)) = p))) → ∃ E', Ppc D E' ∧ PP D E' ∧ ∀ A, K_X11_preparePairs_18 1 A E (w_bookOf D (D 70 0)) s E' := by
  have hpp := hp
  obtain ⟨hI, hf, hfl⟩ := hp
  have hc := hI.iv.ct; unfold I_ct at hc
  intro r
  induction r with
  | zero =>
    intro s E hr s0 h1 h2
    have hD : Ppc D E := fun c a1 a2 a3 a4 a5 => (h1 c a5).trans (hE0 c a1 a2 a3 a4 a5)
    have hm := hD.sm
    have hPS : ∀ s', 0 ≤ s' → s' < 24 → PS D E s' 0 := fun s' a b => PS_cg (by rw [h1 55 (by decide)]) (fun p _ _ => by rw [h1 56 (by decide), h1 57 (by decide)]; exact ⟨rfl, rfl⟩) (fun i _ _ => by rw [h1 54 (by decide)]) (h5 s' a b)
    obtain ⟨E', a, b, K⟩ := C69 hpp (D 70 1).toNat 0 E (by omega) (by omega) hD (fun p p0 p1 => by rw [h2 p p0 p1, hold_e, show s = D 70 1 by omega]) (fun s' x y => by omega) (fun s' x y => hPS s' x y)
    refine ⟨E', a, b, fun A => rl_X11_preparePairs_18 _ _ (by rw [hm 914 rfl]; exact hf) (rgb (by omega) (by omega)) ?_⟩
    rw [if_pos (by rw [hm 1002 rfl]; omega)]; exact K A
  | succ r ih =>
    intro s E hr s0 h1 h2
    have hD : Ppc D E := fun c a1 a2 a3 a4 a5 => (h1 c a5).trans (hE0 c a1 a2 a3 a4 a5)
    have hm := hD.sm
    have hIE := Inv_cg hm hI
    have e32 : E 32 14 = D 70 0 := by rw [hm 32 rfl]; exact hc.1.1
    have ein : w_inOf E s (D 70 0) (D 70 0) = w_inOf D s (D 70 0) (D 70 0) := in_cg hm _ _ _
    have hib := inOf_b (D := D) (s := s) (d := D 70 0) (k := D 70 0) (by omega)
    have pin : p_inOf E s (D 70 0) (D 70 0) := ⟨hIE.iv, by omega, by omega⟩
    by_cases c : w_inOf D s (D 70 0) (D 70 0) < 0
    · obtain ⟨E', a, b, K⟩ := ih (s + 1) E (by omega) (by omega) h1 (fun p p0 p1 => by
        rw [h2 p p0 p1]
        exact ⟨fun z s' x y => by
          by_cases e : s' = s
          · rw [e]; omega
          · exact z s' x (by omega), fun z s' x y => z s' x (by omega)⟩)
      refine ⟨E', a, b, fun A => rl_X11_preparePairs_18 _ _ (by rw [hm 914 rfl]; exact hf) (rgb (by omega) (by omega)) ?_⟩
      rw [if_neg (by rw [hm 1002 rfl]; omega), e32, ein, if_pos c, wr_id (by omega) (by omega)]
      exact ⟨pin, K A⟩
    · have pg := hI.iv.pg (w_inOf D s (D 70 0) (D 70 0)) (by omega) (by omega)
      have pe := plc_eq hI.iv (p := w_inOf D s (D 70 0) (D 70 0)) (by omega) (by omega)
      have e21 : E 2100 (E 2502 (w_inOf D s (D 70 0) (D 70 0))) = D 84 (w_inOf D s (D 70 0) (D 70 0)) := by rw [hm 2100 rfl, hm 2502 rfl]; exact pe.1
      obtain ⟨E', a, b, K⟩ := ih (s + 1) (up E 58 (D 84 (w_inOf D s (D 70 0) (D 70 0))) 1) (by omega) (by omega) (fun c hc => by rw [up_cf hc]; exact h1 c hc) (fun p p0 p1 => by
        by_cases e : p = D 84 (w_inOf D s (D 70 0) (D 70 0))
        · rw [e, up_eq]
          exact ⟨fun z => by omega, fun z => absurd ⟨by omega, rfl⟩ (z s s0 (by omega))⟩
        · rw [up_i e, h2 p p0 p1]
          exact ⟨fun z s' x y => by
            by_cases e' : s' = s
            · rw [e']; exact fun k => e k.2.symm
            · exact z s' x (by omega), fun z s' x y => z s' x (by omega)⟩)
      refine ⟨E', a, b, fun A => rl_X11_preparePairs_18 _ _ (by rw [hm 914 rfl]; exact hf) (rgb (by omega) (by omega)) ?_⟩
      rw [if_neg (by rw [hm 1002 rfl]; omega), e32, ein, if_neg c, wr_id (by omega) (by omega)]
      unfold u_X2_fillPlace p_X2_fillPlace
      rw [e21]
      exact ⟨pin, by omega, K A⟩
theorem pp_ex (D : aD) : ∃ E, Ppc D E ∧ (p_pp D → PP D E ∧ ∀ A, Ev 1 8 118 [am_r (some 32)] A D rv A E) := by
  by_cases hp : p_pp D
  · have hpp := hp
    obtain ⟨hI, hf, hfl⟩ := hp
    have hc := hI.iv.ct; unfold I_ct at hc
    have e0 : Ppc D (u_X2_forgetPairs D) := fun c a1 a2 a3 a4 a5 => by unfold u_X2_forgetPairs; rw [fil_c a5, fil_c a4, fil_c a3, fil_c a2]
    obtain ⟨E', a, b, K⟩ := C18 hpp e0 (fun s s0 s1 => PS_0 (by omega) (by unfold u_X2_forgetPairs; rw [fil_c (by decide), fil_c (by decide), fil_c (by decide), fil_in (by omega) (by omega)]) (fun p p0 p1 => by unfold u_X2_forgetPairs; exact ⟨by rw [fil_c (by decide), fil_c (by decide), fil_in (by omega) (by omega)], by rw [fil_c (by decide), fil_in (by omega) (by omega)]⟩) (fun p z => by have := z.2.2.2.2.1; omega)) (D 70 1).toNat 0 (u_X2_forgetPairs D) (by omega) (by omega) (fun _ _ => rfl) (fun p p0 p1 => by
      unfold u_X2_forgetPairs
      rw [fil_in (by omega) (by omega)]
      exact ⟨fun _ s' x y => by omega, fun _ => rfl⟩)
    refine ⟨E', a, fun _ => ⟨b, fun A => rl_X11_preparePairs ?_⟩⟩
    rw [hc.1.1]
    exact ⟨hI.rb, K A⟩
  · exact ⟨D, fun _ _ _ _ _ _ => rfl, fun q => absurd q hp⟩
noncomputable def u_pp (D : aD) : aD := Classical.choose (pp_ex D)
theorem u_pp_c (D : aD) : Ppc D (u_pp D) := (Classical.choose_spec (pp_ex D)).1
theorem PP_pp (hp : p_pp D) : PP D (u_pp D) := ((Classical.choose_spec (pp_ex D)).2 hp).1
theorem ev_X11_preparePairs (hp : p_pp D) : Ev 1 8 118 [am_r (some 32)] A D rv A (u_pp D) := ((Classical.choose_spec (pp_ex D)).2 hp).2 A
theorem fl_pp (D : aD) (w : Nat) (i : Int) (hw : Nat.ble w 49 = true) : u_pp D (900 + w) i = D (900 + w) i := by rw [show u_pp D (900 + w) = D (900 + w) from u_pp_c D _ (by omega) (by omega) (by omega) (by omega) (by omega)]
end Pr
