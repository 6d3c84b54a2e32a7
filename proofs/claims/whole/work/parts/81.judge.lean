/-! A told row is judged: the class. -/
section Jd
variable {n : Nat} {A A' : aA} {D D' E F : aD} {d : Nat} {s : am_S}
theorem fsi_un {p : Int → Bool} {j N x : Int} (hj : 0 ≤ j) (h : (x = -1 ∧ ∀ i, j ≤ i → i < N → p i = false) ∨ (j ≤ x ∧ x < N ∧ p x = true ∧ ∀ i, j ≤ i → i < x → p i = false)) : fsi p j N = x := by
  rcases fsi_spec (p := p) (N := N) j with ⟨a1, a2⟩ | ⟨a1, a2, a3, a4⟩
  · rcases h with ⟨b1, _⟩ | ⟨b1, b2, b3, _⟩
    · rw [a1, b1]
    · rw [a2 x b1 b2] at b3; cases b3
  · rcases h with ⟨_, b2⟩ | ⟨b1, b2, b3, b4⟩
    · rw [b2 _ a1 a2] at a3; cases a3
    · rcases Int.lt_trichotomy (fsi p j N) x with q | q | q
      · rw [b4 _ a1 q] at a3; cases a3
      · exact q
      · rw [a4 x b1 q] at b3; cases b3
theorem fsi_ex {p : Int → Bool} {j N M : Int} (hj : 0 ≤ j) (h : N ≤ M) (hf : ∀ i, N ≤ i → i < M → p i = false) : fsi p j N = fsi p j M := by
  refine fsi_un hj ?_
  rcases fsi_spec (p := p) (N := M) j with ⟨a1, a2⟩ | ⟨a1, a2, a3, a4⟩
  · exact Or.inl ⟨a1, fun i x y => a2 i x (by omega)⟩
  · refine Or.inr ⟨a1, ?_, a3, a4⟩
    rcases Int.lt_or_le (fsi p j M) N with q | q
    · exact q
    · rw [hf _ q a2] at a3; cases a3
def Wrg (D : aD) (s : Int) : Prop := 0 < D 116 s ∧ (¬ alw D s (D 116 s - 1) ∨ ∃ s', 0 ≤ s' ∧ s' < s ∧ D 116 s' = D 116 s)
noncomputable def wrB (D : aD) (s : Int) : Bool := @decide (Wrg D s) (Classical.propDecidable _)
theorem wrB_t {s : Int} : wrB D s = true ↔ Wrg D s := by unfold wrB; exact @decide_eq_true_iff _ (Classical.propDecidable _)
theorem wrB_f {s : Int} : wrB D s = false ↔ ¬ Wrg D s := by unfold wrB; exact @decide_eq_false_iff_not _ (Classical.propDecidable _)
noncomputable def fwD (D : aD) : Int := fsi (wrB D) 0 24
def Lv (D : aD) (s p : Int) : Prop := alw D s p ∧ (D 116 s = 0 ∨ D 114 (30 * s + p) < D 114 (30 * s + (D 116 s - 1))) ∧ ∀ s', 0 ≤ s' → s' < 24 → D 116 s' = p + 1 → D 115 (24 * p + s) < D 115 (24 * p + s')
noncomputable def lvB (D : aD) (s p : Int) : Bool := @decide (Lv D s p) (Classical.propDecidable _)
theorem lvB_t {s p : Int} : lvB D s p = true ↔ Lv D s p := by unfold lvB; exact @decide_eq_true_iff _ (Classical.propDecidable _)
theorem lvB_f {s p : Int} : lvB D s p = false ↔ ¬ Lv D s p := by unfold lvB; exact @decide_eq_false_iff_not _ (Classical.propDecidable _)
noncomputable def fpD (D : aD) (s : Int) : Int := fsi (lvB D s) 0 30
noncomputable def fsD (D : aD) (s0 : Int) : Int := fsi (fun s => decide (fpD D s ≠ -1)) s0 24
noncomputable def flA (D : aD) (s0 : Int) : Int := if fsD D s0 = -1 then -1 else 100 * fsD D s0 + fpD D (fsD D s0)
/-- a told row as a pairing -/
def Hs (D H : aD) (m : Int) : Prop := (∀ s, 0 ≤ s → s < 24 → H 61 s = if s < m then D 116 s - 1 else -1) ∧ ∀ p, 0 ≤ p → p < 30 → (H 59 p = -1 ∧ ∀ s, 0 ≤ s → s < m → D 116 s ≠ p + 1) ∨ ((0 ≤ H 59 p ∧ H 59 p < m) ∧ D 116 (H 59 p) = p + 1)
abbrev P_X2_firstWronglyTold : Nat → Option am_E := am_fy tb_X2_firstWronglyTold
def K_X2_firstWronglyTold_6 (n : Nat) (A : aA) (D : aD) (a2 : Int) (x : Int) (D' : aD) : Prop := Lp n 2 P_X2_firstWronglyTold 6 [some (am_r (some 53)), some (am_r (some 36)), some (am_i (wz a2)), none] [] A D (ri x) A D'
set_option maxRecDepth 100000 in
theorem rl_X2_firstWronglyTold {n : Nat} {A : aA} {D D' : aD} {x : Int} (hp : K_X2_firstWronglyTold_6 (n + 1) A (u_X2_forgetPairing D) 0 x D') : Ev (n + 1) (3) 20 [am_r (some 53), am_r (some 36)] A D (ri x) A D' := by
  refine Ev_of (c := 2) (P := P_X2_firstWronglyTold) (lo := [some (am_r (some 53)), some (am_r (some 36)), none, none]) rfl rfl rfl (fun d hd s hr => ?_)
  refine ok (m_aload_n (q := 1) rfl rfl rfl rfl) ?_
  refine oke (e_cvd (x_cv (q := 4) rfl rfl rfl rfl rfl rfl rfl rfl rfl rfl (is_st hr rfl rfl)) (ev_X2_forgetPairing (D := D)) (Nat.le_trans (by decide) hd) hr) (fun s1 r2 => ?_)
  refine ok (m_iconst (q := 5) rfl rfl rfl) ?_
  refine ok (m_istore_n (q := 6) (lo' := [some (am_r (some 53)), some (am_r (some 36)), some (am_i (wz 0)), none]) rfl rfl rfl rfl rfl) ?_
  exact hp d hd _ r2
set_option maxRecDepth 100000 in
theorem rl_X2_firstWronglyTold_6 {n : Nat} {A : aA} {D D' : aD} (a2 : Int) (h2 : rg a2) {x : Int} (hp : (if 24 ≤ a2 then (x = (-1) ∧ D' = D) else (0 ≤ a2 ∧ a2 < 24) ∧ (if D 36 a2 = (-1) then K_X2_firstWronglyTold_6 (n + 1) A D (wr (a2 + 1)) x D' else (0 ≤ v_X2_pairOf D a2 (D 36 a2) ∧ v_X2_pairOf D a2 (D 36 a2) < 720) ∧ (if D 56 (v_X2_pairOf D a2 (D 36 a2)) = (-1) then (x = a2 ∧ D' = D) else (0 ≤ D 36 a2 ∧ D 36 a2 < 30) ∧ (if D 59 (D 36 a2) = (-1) then K_X2_firstWronglyTold_6 (n + 1) A (up (up D 61 a2 (D 36 a2)) 59 (D 36 a2) a2) (wr (a2 + 1)) x D' else (x = a2 ∧ D' = D)))))) : K_X2_firstWronglyTold_6 (n + 1) A D a2 x D' := by
  unfold K_X2_firstWronglyTold_6
  refine fun d hd s hr => ?_
  refine ok (m_iload_n (q := 7) rfl rfl rfl rfl) ?_
  refine ok (m_bipush (q := 9) rfl rfl rfl) ?_
  refine okc (m_cmpge (qt := 67) (qf := 12) rfl rfl h2 ⟨by decide, by decide⟩ rfl rfl) (fun c3 => ?_) (fun c3 => ?_)
  · replace hp := ip c3 hp
    refine ok (m_iconst (q := 68) rfl rfl rfl) ?_
    exact ok (m_reti rfl rfl) (ok_iq hr ⟨by decide, by decide⟩ hp)
  · replace hp := iq c3 hp
    refine ok (m_aload_n (q := 13) rfl rfl rfl rfl) ?_
    refine ok (m_iload_n (q := 14) rfl rfl rfl rfl) ?_
    obtain ⟨g4, hp⟩ := hp
    refine ok (m_ials (q := 15) rfl rfl rfl hr rfl rfl g4 rfl) ?_
    refine ok (m_istore_n (q := 16) (lo' := [some (am_r (some 53)), some (am_r (some 36)), some (am_i (wz a2)), some (am_i (wz (D 36 a2)))]) rfl rfl rfl rfl rfl) ?_
    refine ok (m_iload_n (q := 17) rfl rfl rfl rfl) ?_
    refine ok (m_iconst (q := 18) rfl rfl rfl) ?_
    refine okc (m_cmpeq (qt := 61) (qf := 21) rfl rfl (Rp_rg hr 36 a2) ⟨by decide, by decide⟩ rfl rfl) (fun c5 => ?_) (fun c5 => ?_)
    · replace hp := ip c5 hp
      refine ok (m_iinc (q := 64) (lo' := [some (am_r (some 53)), some (am_r (some 36)), some (am_i (wz (wr (a2 + 1)))), some (am_i (wz (D 36 a2)))]) rfl rfl rfl rfl rfl rfl rfl) ?_
      refine ok (m_goto (q := 6) rfl rfl rfl) ?_
      refine ok (mk rfl (lo' := [some (am_r (some 53)), some (am_r (some 36)), some (am_i (wz (wr (a2 + 1)))), none]) rfl) ?_
      exact hp d hd _ hr
    · replace hp := iq c5 hp
      refine ok (m_aload_n (q := 22) rfl rfl rfl rfl) ?_
      refine ok (m_gfc (q := 25) rfl rfl rfl hr rfl rfl rfl) ?_
      refine ok (m_iload_n (q := 26) rfl rfl rfl rfl) ?_
      refine ok (m_iload_n (q := 27) rfl rfl rfl rfl) ?_
      refine oke (e_ci (x_cs (q := 30) rfl rfl rfl rfl rfl rfl rfl rfl rfl) (ev_X2_pairOf (D := D) a2 (D 36 a2) h2 (Rp_rg hr 36 a2)) (Nat.le_trans (by decide) hd) hr) (fun s6 r7 => ?_)
      obtain ⟨g8, hp⟩ := hp
      refine ok (m_ials (q := 31) rfl rfl rfl r7 rfl rfl g8 rfl) ?_
      refine ok (m_iconst (q := 32) rfl rfl rfl) ?_
      refine okc (m_cmpeq (qt := 45) (qf := 35) rfl rfl (Rp_rg r7 56 (v_X2_pairOf D a2 (D 36 a2))) ⟨by decide, by decide⟩ rfl rfl) (fun c9 => ?_) (fun c9 => ?_)
      · replace hp := ip c9 hp
        refine ok (m_iload_n (q := 46) rfl rfl rfl rfl) ?_
        exact ok (m_reti rfl rfl) (ok_iq r7 h2 hp)
      · replace hp := iq c9 hp
        refine ok (m_aload_n (q := 36) rfl rfl rfl rfl) ?_
        refine ok (m_gfc (q := 39) rfl rfl rfl r7 rfl rfl rfl) ?_
        refine ok (m_iload_n (q := 40) rfl rfl rfl rfl) ?_
        obtain ⟨g10, hp⟩ := hp
        refine ok (m_ials (q := 41) rfl rfl rfl r7 rfl rfl g10 rfl) ?_
        refine ok (m_iconst (q := 42) rfl rfl rfl) ?_
        refine okc (m_cmpeq (qt := 47) (qf := 45) rfl rfl (Rp_rg r7 59 (D 36 a2)) ⟨by decide, by decide⟩ rfl rfl) (fun c11 => ?_) (fun c11 => ?_)
        · replace hp := ip c11 hp
          refine ok (m_aload_n (q := 48) rfl rfl rfl rfl) ?_
          refine ok (m_gfc (q := 51) rfl rfl rfl r7 rfl rfl rfl) ?_
          refine ok (m_iload_n (q := 52) rfl rfl rfl rfl) ?_
          refine ok (m_iload_n (q := 53) rfl rfl rfl rfl) ?_
          refine oke (e_ias (q := 54) rfl rfl rfl r7 rfl rfl g4 (Rp_rg hr 36 a2)) (fun s13 r12 => ?_)
          refine ok (m_aload_n (q := 55) rfl rfl rfl rfl) ?_
          refine ok (m_gfc (q := 58) rfl rfl rfl r12 rfl rfl rfl) ?_
          refine ok (m_iload_n (q := 59) rfl rfl rfl rfl) ?_
          refine ok (m_iload_n (q := 60) rfl rfl rfl rfl) ?_
          refine oke (e_ias (q := 61) rfl rfl rfl r12 rfl rfl g10 h2) (fun s15 r14 => ?_)
          refine ok (m_iinc (q := 64) (lo' := [some (am_r (some 53)), some (am_r (some 36)), some (am_i (wz (wr (a2 + 1)))), some (am_i (wz (D 36 a2)))]) rfl rfl rfl rfl rfl rfl rfl) ?_
          refine ok (m_goto (q := 6) rfl rfl rfl) ?_
          refine ok (mk rfl (lo' := [some (am_r (some 53)), some (am_r (some 36)), some (am_i (wz (wr (a2 + 1)))), none]) rfl) ?_
          exact hp d hd _ r14
        · replace hp := iq c11 hp
          refine ok (m_iload_n (q := 46) rfl rfl rfl rfl) ?_
          exact ok (m_reti rfl rfl) (ok_iq r7 h2 hp)
abbrev P_X2_firstLeaving : Nat → Option am_E := am_fy tb_X2_firstLeaving
def K_X2_firstLeaving_2 (n : Nat) (A : aA) (D : aD) (a1 : Int) (x : Int) (D' : aD) : Prop := Lp n 2 P_X2_firstLeaving 2 [some (am_r (some 53)), some (am_i (wz a1)), none] [] A D (ri x) A D'
def K_X2_firstLeaving_10 (n : Nat) (A : aA) (D : aD) (a1 : Int) (a2 : Int) (x : Int) (D' : aD) : Prop := Lp n 2 P_X2_firstLeaving 10 [some (am_r (some 53)), some (am_i (wz a1)), some (am_i (wz a2))] [] A D (ri x) A D'
set_option maxRecDepth 100000 in
theorem rl_X2_firstLeaving {n : Nat} {A : aA} {D D' : aD} {x : Int} (hp : K_X2_firstLeaving_2 (n + 1) A D 0 x D') : Ev (n + 1) (3) 21 [am_r (some 53)] A D (ri x) A D' := by
  refine Ev_of (c := 2) (P := P_X2_firstLeaving) (lo := [some (am_r (some 53)), none, none]) rfl rfl rfl (fun d hd s hr => ?_)
  refine ok (m_iconst (q := 1) rfl rfl rfl) ?_
  refine ok (m_istore_n (q := 2) (lo' := [some (am_r (some 53)), some (am_i (wz 0)), none]) rfl rfl rfl rfl rfl) ?_
  exact hp d hd _ hr
set_option maxRecDepth 100000 in
theorem rl_X2_firstLeaving_2 {n : Nat} {A : aA} {D D' : aD} (a1 : Int) (h1 : rg a1) {x : Int} (hp : (if 24 ≤ a1 then (x = (-1) ∧ D' = D) else K_X2_firstLeaving_10 (n + 1) A D a1 0 x D')) : K_X2_firstLeaving_2 (n + 1) A D a1 x D' := by
  unfold K_X2_firstLeaving_2
  refine fun d hd s hr => ?_
  refine ok (m_iload_n (q := 3) rfl rfl rfl rfl) ?_
  refine ok (m_bipush (q := 5) rfl rfl rfl) ?_
  refine okc (m_cmpge (qt := 67) (qf := 8) rfl rfl h1 ⟨by decide, by decide⟩ rfl rfl) (fun c1 => ?_) (fun c1 => ?_)
  · replace hp := ip c1 hp
    refine ok (m_iconst (q := 68) rfl rfl rfl) ?_
    exact ok (m_reti rfl rfl) (ok_iq hr ⟨by decide, by decide⟩ hp)
  · replace hp := iq c1 hp
    refine ok (m_iconst (q := 9) rfl rfl rfl) ?_
    refine ok (m_istore_n (q := 10) (lo' := [some (am_r (some 53)), some (am_i (wz a1)), some (am_i (wz 0))]) rfl rfl rfl rfl rfl) ?_
    exact hp d hd _ hr
set_option maxRecDepth 100000 in
theorem rl_X2_firstLeaving_10 {n : Nat} {A : aA} {D D' : aD} (a1 : Int) (a2 : Int) (h1 : rg a1) (h2 : rg a2) {x : Int} (hp : (if 30 ≤ a2 then K_X2_firstLeaving_2 (n + 1) A D (wr (a1 + 1)) x D' else (0 ≤ v_X2_pairOf D a1 a2 ∧ v_X2_pairOf D a1 a2 < 720) ∧ (if D 56 (v_X2_pairOf D a1 a2) = (-1) then K_X2_firstLeaving_10 (n + 1) A D a1 (wr (a2 + 1)) x D' else (p_X2_servantLikesBetter D a1 a2) ∧ (if v_X2_servantLikesBetter D a1 a2 = 0 then K_X2_firstLeaving_10 (n + 1) A D a1 (wr (a2 + 1)) x D' else (p_X2_placeLikesBetter D a2 a1) ∧ (if v_X2_placeLikesBetter D a2 a1 = 0 then K_X2_firstLeaving_10 (n + 1) A D a1 (wr (a2 + 1)) x D' else (x = wr ((wr (100 * a1)) + a2) ∧ D' = D)))))) : K_X2_firstLeaving_10 (n + 1) A D a1 a2 x D' := by
  unfold K_X2_firstLeaving_10
  refine fun d hd s hr => ?_
  refine ok (m_iload_n (q := 11) rfl rfl rfl rfl) ?_
  refine ok (m_bipush (q := 13) rfl rfl rfl) ?_
  refine okc (m_cmpge (qt := 61) (qf := 16) rfl rfl h2 ⟨by decide, by decide⟩ rfl rfl) (fun c2 => ?_) (fun c2 => ?_)
  · replace hp := ip c2 hp
    refine ok (m_iinc (q := 64) (lo' := [some (am_r (some 53)), some (am_i (wz (wr (a1 + 1)))), some (am_i (wz a2))]) rfl rfl rfl rfl rfl rfl rfl) ?_
    refine ok (m_goto (q := 2) rfl rfl rfl) ?_
    refine ok (mk rfl (lo' := [some (am_r (some 53)), some (am_i (wz (wr (a1 + 1)))), none]) rfl) ?_
    exact hp d hd _ hr
  · replace hp := iq c2 hp
    refine ok (m_aload_n (q := 17) rfl rfl rfl rfl) ?_
    refine ok (m_gfc (q := 20) rfl rfl rfl hr rfl rfl rfl) ?_
    refine ok (m_iload_n (q := 21) rfl rfl rfl rfl) ?_
    refine ok (m_iload_n (q := 22) rfl rfl rfl rfl) ?_
    refine oke (e_ci (x_cs (q := 25) rfl rfl rfl rfl rfl rfl rfl rfl rfl) (ev_X2_pairOf (D := D) a1 a2 h1 h2) (Nat.le_trans (by decide) hd) hr) (fun s3 r4 => ?_)
    obtain ⟨g5, hp⟩ := hp
    refine ok (m_ials (q := 26) rfl rfl rfl r4 rfl rfl g5 rfl) ?_
    refine ok (m_iconst (q := 27) rfl rfl rfl) ?_
    refine okc (m_cmpeq (qt := 55) (qf := 30) rfl rfl (Rp_rg r4 56 (v_X2_pairOf D a1 a2)) ⟨by decide, by decide⟩ rfl rfl) (fun c6 => ?_) (fun c6 => ?_)
    · replace hp := ip c6 hp
      refine ok (m_iinc (q := 58) (lo' := [some (am_r (some 53)), some (am_i (wz a1)), some (am_i (wz (wr (a2 + 1))))]) rfl rfl rfl rfl rfl rfl rfl) ?_
      refine ok (m_goto (q := 10) rfl rfl rfl) ?_
      exact hp d hd _ r4
    · replace hp := iq c6 hp
      refine ok (m_aload_n (q := 31) rfl rfl rfl rfl) ?_
      refine ok (m_iload_n (q := 32) rfl rfl rfl rfl) ?_
      refine ok (m_iload_n (q := 33) rfl rfl rfl rfl) ?_
      obtain ⟨g9, hp⟩ := hp
      refine oke (e_ci (x_cv (q := 36) rfl rfl rfl rfl rfl rfl rfl rfl rfl rfl (is_st r4 rfl rfl)) (ev_X2_servantLikesBetter (D := D) a1 a2 h1 h2 g9) (Nat.le_trans (by decide) hd) r4) (fun s7 r8 => ?_)
      refine okc (m_ifeq (qt := 55) (qf := 39) rfl rfl (Ev_rg (ev_X2_servantLikesBetter (D := D) a1 a2 h1 h2 g9) r4) rfl rfl) (fun c10 => ?_) (fun c10 => ?_)
      · replace hp := ip c10 hp
        refine ok (m_iinc (q := 58) (lo' := [some (am_r (some 53)), some (am_i (wz a1)), some (am_i (wz (wr (a2 + 1))))]) rfl rfl rfl rfl rfl rfl rfl) ?_
        refine ok (m_goto (q := 10) rfl rfl rfl) ?_
        exact hp d hd _ r8
      · replace hp := iq c10 hp
        refine ok (m_aload_n (q := 40) rfl rfl rfl rfl) ?_
        refine ok (m_iload_n (q := 41) rfl rfl rfl rfl) ?_
        refine ok (m_iload_n (q := 42) rfl rfl rfl rfl) ?_
        obtain ⟨g13, hp⟩ := hp
        refine oke (e_ci (x_cv (q := 45) rfl rfl rfl rfl rfl rfl rfl rfl rfl rfl (is_st r8 rfl rfl)) (ev_X2_placeLikesBetter (D := D) a2 a1 h2 h1 g13) (Nat.le_trans (by decide) hd) r8) (fun s11 r12 => ?_)
        refine okc (m_ifeq (qt := 55) (qf := 48) rfl rfl (Ev_rg (ev_X2_placeLikesBetter (D := D) a2 a1 h2 h1 g13) r8) rfl rfl) (fun c14 => ?_) (fun c14 => ?_)
        · replace hp := ip c14 hp
          refine ok (m_iinc (q := 58) (lo' := [some (am_r (some 53)), some (am_i (wz a1)), some (am_i (wz (wr (a2 + 1))))]) rfl rfl rfl rfl rfl rfl rfl) ?_
          refine ok (m_goto (q := 10) rfl rfl rfl) ?_
          exact hp d hd _ r12
        · replace hp := iq c14 hp
          refine ok (m_bipush (q := 50) rfl rfl rfl) ?_
          refine ok (m_iload_n (q := 51) rfl rfl rfl rfl) ?_
          refine ok (m_imul (q := 52) rfl rfl rfl) ?_
          refine ok (m_iload_n (q := 53) rfl rfl rfl rfl) ?_
          refine ok (m_iadd (q := 54) rfl rfl rfl) ?_
          exact ok (m_reti rfl rfl) (ok_iq r12 (rg_wr _) hp)
theorem C_fw (hI : Inv D) (hP : PP D E) : ∀ (r : Nat) (s : Int) (G : aD), s + r = 24 → 0 ≤ s → (∀ c, c ≠ 59 → c ≠ 61 → G c = E c) → Hs D G s → (∀ s', 0 ≤ s' → s' < s → ¬ Wrg D s') → ∃ D', (∀ c, c ≠ 59 → c ≠ 61 → D' c = E c) ∧ (fsi (wrB D) s 24 = -1 → Hs D D' 24) ∧ ∀ n A, K_X2_firstWronglyTold_6 (n + 1) A G s (fsi (wrB D) s 24) D' := by
  have hc := hI.iv.ct; unfold I_ct at hc
  intro r
  induction r with
  | zero =>
    intro s G hr s0 h1 h2 h3
    have e : s = 24 := by omega
    refine ⟨G, h1, fun _ => by rw [← e]; exact h2, fun n A => rl_X2_firstWronglyTold_6 _ (rgb (by omega) (by omega)) ?_⟩
    rw [if_pos (by omega), fsi_end (by omega)]; exact ⟨rfl, rfl⟩
  | succ r ih =>
    intro s G hr s0 h1 h2 h3
    have td := hI.iv.td s s0 (by omega)
    have e36 : G 36 s = D 116 s - 1 := by rw [h1 36 (by decide) (by decide), hP.1 36 rfl]; exact td.1
    have e56 : G 56 = E 56 := h1 56 (by decide) (by decide)
    have hpO : ∀ q, 0 ≤ q → q < 30 → v_X2_pairOf G s q = 30 * s + q := fun q c d => by
      unfold v_X2_pairOf; rw [wr_id (z := s * 30) (by omega) (by omega), wr_id (by omega) (by omega)]; omega
    by_cases c1 : D 116 s = 0
    · have nw : ¬ Wrg D s := fun q => by have := q.1; omega
      obtain ⟨D', a, b, K⟩ := ih (s + 1) G (by omega) (by omega) h1 ⟨fun s' x y => by
        rw [h2.1 s' x y]
        by_cases z : s' < s
        · rw [if_pos z, if_pos (by omega)]
        · rw [if_neg z]
          by_cases z2 : s' < s + 1
          · rw [if_pos z2, show s' = s by omega, c1]; rfl
          · rw [if_neg z2], fun p x y => by
        rcases h2.2 p x y with ⟨z1, z2⟩ | ⟨z1, z2⟩
        · refine Or.inl ⟨z1, fun s' u v => ?_⟩
          by_cases w : s' = s
          · rw [w, c1]; omega
          · exact z2 s' u (by omega)
        · exact Or.inr ⟨by omega, z2⟩⟩ (fun s' x y => by
        by_cases z : s' = s
        · rw [z]; exact nw
        · exact h3 s' x (by omega))
      rw [fsi_f (by omega) (wrB_f.mpr nw)]
      refine ⟨D', a, b, fun n A => rl_X2_firstWronglyTold_6 _ (rgb (by omega) (by omega)) ?_⟩
      rw [if_neg (by omega), e36, if_pos (by omega), wr_id (by omega) (by omega)]
      exact ⟨by omega, K n A⟩
    · have pr : 0 ≤ D 116 s - 1 ∧ D 116 s - 1 < 30 := by omega
      have n56 := PS_n hI hP (s := s) (p := D 116 s - 1) ⟨s0, by omega⟩ pr
      by_cases c2 : alw D s (D 116 s - 1)
      · have n1 : ¬ E 56 (30 * s + (D 116 s - 1)) = -1 := fun q => n56.mp q c2
        rcases h2.2 (D 116 s - 1) pr.1 pr.2 with ⟨z1, z2⟩ | ⟨z1, z2⟩
        · have nw : ¬ Wrg D s := fun q => by
            rcases q.2 with y | ⟨s', y0, y1, y2⟩
            · exact y c2
            · exact z2 s' y0 y1 (by omega)
          obtain ⟨D', a, b, K⟩ := ih (s + 1) (up (up G 61 s (D 116 s - 1)) 59 (D 116 s - 1) s) (by omega) (by omega) (fun c x y => by rw [up_cf x, up_cf y]; exact h1 c x y) ⟨fun s' x y => by
            rw [up_c (by decide)]
            by_cases z : s' = s
            · rw [z, up_eq, if_pos (by omega)]
            · rw [up_i z, h2.1 s' x y]
              by_cases z' : s' < s
              · rw [if_pos z', if_pos (by omega)]
              · rw [if_neg z', if_neg (by omega)], fun p x y => by
            by_cases z : p = D 116 s - 1
            · rw [z, up_eq]; exact Or.inr ⟨by omega, by omega⟩
            · rw [up_i z, up_c (by decide)]
              rcases h2.2 p x y with ⟨w1, w2⟩ | ⟨w1, w2⟩
              · refine Or.inl ⟨w1, fun s' u v => ?_⟩
                by_cases w : s' = s
                · rw [w]; omega
                · exact w2 s' u (by omega)
              · exact Or.inr ⟨by omega, w2⟩⟩ (fun s' x y => by
            by_cases z : s' = s
            · rw [z]; exact nw
            · exact h3 s' x (by omega))
          rw [fsi_f (by omega) (wrB_f.mpr nw)]
          refine ⟨D', a, b, fun n A => rl_X2_firstWronglyTold_6 _ (rgb (by omega) (by omega)) ?_⟩
          rw [if_neg (by omega), e36, if_neg (by omega), hpO _ pr.1 pr.2, e56, if_neg n1, if_pos z1, wr_id (by omega) (by omega)]
          exact ⟨by omega, by omega, pr, K n A⟩
        · have w : Wrg D s := ⟨by omega, Or.inr ⟨_, z1.1, z1.2, by omega⟩⟩
          rw [fsi_t (by omega) (wrB_t.mpr w)]
          refine ⟨G, h1, fun q => by omega, fun n A => rl_X2_firstWronglyTold_6 _ (rgb (by omega) (by omega)) ?_⟩
          rw [if_neg (by omega), e36, if_neg (by omega), hpO _ pr.1 pr.2, e56, if_neg n1, if_neg (by omega)]
          exact ⟨by omega, by omega, pr, rfl, rfl⟩
      · have w : Wrg D s := ⟨by omega, Or.inl c2⟩
        rw [fsi_t (by omega) (wrB_t.mpr w)]
        refine ⟨G, h1, fun q => by omega, fun n A => rl_X2_firstWronglyTold_6 _ (rgb (by omega) (by omega)) ?_⟩
        rw [if_neg (by omega), e36, if_neg (by omega), hpO _ pr.1 pr.2, e56, if_pos (n56.mpr c2)]
        exact ⟨by omega, by omega, rfl, rfl⟩
theorem alw_told (hw : fwD D = -1) {s : Int} (hs : 0 ≤ s ∧ s < 24) (h : 0 < D 116 s) : alw D s (D 116 s - 1) := by
  unfold fwD at hw
  rcases fsi_spec (p := wrB D) (N := 24) 0 with ⟨_, z⟩ | ⟨z, _⟩
  · have := wrB_f.mp (z s hs.1 hs.2)
    exact Classical.not_not.mp (fun q => this ⟨h, Or.inl q⟩)
  · omega
theorem told_uni (hw : fwD D = -1) {s s' : Int} (hs : 0 ≤ s ∧ s < 24) (hs' : 0 ≤ s' ∧ s' < 24) (h : 0 < D 116 s) (e : D 116 s = D 116 s') : s = s' := by
  unfold fwD at hw
  rcases fsi_spec (p := wrB D) (N := 24) 0 with ⟨_, z⟩ | ⟨z, _⟩
  · rcases Int.lt_trichotomy s s' with q | q | q
    · exact absurd ⟨by omega, Or.inr ⟨s, hs.1, q, e⟩⟩ (wrB_f.mp (z s' hs'.1 hs'.2))
    · exact q
    · exact absurd ⟨h, Or.inr ⟨s', hs'.1, q, e.symm⟩⟩ (wrB_f.mp (z s hs.1 hs.2))
  · omega
/-- would a pair leave: the class's question -/
theorem lv_X (hI : Inv D) (hP : PP D E) (hH : Hs D E 24) (hw : fwD D = -1) {s p : Int} (hs : 0 ≤ s ∧ s < 24) (ha : alw D s p) : p_X2_servantLikesBetter E s p ∧ p_X2_placeLikesBetter E p s ∧ (Lv D s p ↔ (¬ v_X2_servantLikesBetter E s p = 0 ∧ ¬ v_X2_placeLikesBetter E p s = 0)) := by
  have hb := alw_b hI ha
  have hp : 0 ≤ p ∧ p < 30 := hb.2.1
  have hpO : ∀ o q, 0 ≤ o → o < 24 → 0 ≤ q → q < 30 → v_X2_pairOf E o q = 30 * o + q := fun o q a b c d => by
    unfold v_X2_pairOf; rw [wr_id (z := o * 30) (by omega) (by omega), wr_id (by omega) (by omega)]; omega
  have e61 : E 61 s = D 116 s - 1 := by rw [hH.1 s hs.1 hs.2, if_pos hs.2]
  have td := hI.iv.td s hs.1 hs.2
  have hc := hI.iv.ct; unfold I_ct at hc
  have s1 : p_X2_servantLikesBetter E s p ∧ (¬ v_X2_servantLikesBetter E s p = 0 ↔ (D 116 s = 0 ∨ D 114 (30 * s + p) < D 114 (30 * s + (D 116 s - 1)))) := by
    unfold p_X2_servantLikesBetter v_X2_servantLikesBetter
    rw [e61]
    by_cases c : D 116 s = 0
    · rw [if_pos (by omega), if_pos (by omega)]
      exact ⟨⟨hs, trivial⟩, fun _ => Or.inl c, fun _ => by decide⟩
    · have at_ := alw_told hw hs (by omega)
      rw [if_neg (by omega), if_neg (by omega), hpO _ _ hs.1 hs.2 hp.1 hp.2, hpO _ _ hs.1 hs.2 (by omega) (by omega)]
      have o := PS_o hI hP ha at_
      refine ⟨⟨hs, by omega, by omega⟩, ?_⟩
      replace o : E 56 (30 * s + p) < E 56 (30 * s + (D 116 s - 1)) ↔ D 114 (30 * s + p) < D 114 (30 * s + (D 116 s - 1)) := o
      by_cases k : E 56 (30 * s + (D 116 s - 1)) ≤ E 56 (30 * s + p)
      · rw [if_pos k]; exact ⟨fun q => absurd rfl q, fun q => by rcases q with q | q; exact absurd q c; have := o.mpr q; omega⟩
      · rw [if_neg k]; exact ⟨fun _ => Or.inr (o.mp (by omega)), fun _ => by decide⟩
  have s2 : p_X2_placeLikesBetter E p s ∧ (¬ v_X2_placeLikesBetter E p s = 0 ↔ ∀ s', 0 ≤ s' → s' < 24 → D 116 s' = p + 1 → D 115 (24 * p + s) < D 115 (24 * p + s')) := by
    unfold p_X2_placeLikesBetter v_X2_placeLikesBetter
    rcases hH.2 p hp.1 hp.2 with ⟨z1, z2⟩ | ⟨z1, z2⟩
    · rw [if_pos z1, if_pos z1]
      exact ⟨⟨hp, trivial⟩, fun _ s' a b e => absurd e (z2 s' a b), fun _ => by decide⟩
    · have at_ := alw_told hw (s := E 59 p) z1 (by omega)
      rw [show D 116 (E 59 p) - 1 = p by omega] at at_
      rw [if_neg (by omega), if_neg (by omega), hpO _ _ hs.1 hs.2 hp.1 hp.2, hpO _ _ z1.1 z1.2 hp.1 hp.2, (PS_a hI hP ha).2.2, (PS_a hI hP at_).2.2]
      refine ⟨⟨hp, by omega, by omega⟩, ?_⟩
      by_cases k : D 115 (24 * p + E 59 p) - 1 ≤ D 115 (24 * p + s) - 1
      · rw [if_pos k]; exact ⟨fun q => absurd rfl q, fun q => by have := q _ z1.1 z1.2 z2; omega⟩
      · rw [if_neg k]
        refine ⟨fun _ s' a b e => ?_, fun _ => by decide⟩
        have := told_uni hw ⟨a, b⟩ z1 (by omega) (by omega)
        rw [this]; omega
  refine ⟨s1.1, s2.1, ?_⟩
  rw [s1.2, s2.2]
  exact ⟨fun q => ⟨q.2.1, q.2.2⟩, fun q => ⟨ha, q.1, q.2⟩⟩
theorem C_fl (hI : Inv D) (hP : PP D E) (hH : Hs D E 24) (hw : fwD D = -1) : Ev (n + 1) 3 21 [am_r (some 53)] A E (ri (flA D 0)) A E := by
  have key : ∀ (r : Nat) (s : Int), s + r = 24 → 0 ≤ s → K_X2_firstLeaving_2 (n + 1) A E s (flA D s) E := by
    intro r
    induction r with
    | zero =>
      intro s hr s0
      refine rl_X2_firstLeaving_2 _ (rgb (by omega) (by omega)) ?_
      rw [if_pos (by omega)]
      unfold flA fsD; rw [fsi_end (by omega), if_pos rfl]; exact ⟨rfl, rfl⟩
    | succ r ih =>
      intro s hr s0
      have inner : ∀ (q : Nat) (p : Int), p + q = 30 → 0 ≤ p → (∀ p', 0 ≤ p' → p' < p → ¬ Lv D s p') → K_X2_firstLeaving_10 (n + 1) A E s p (flA D s) E := by
        intro q
        induction q with
        | zero =>
          intro p hq p0 h
          refine rl_X2_firstLeaving_10 _ _ (rgb (by omega) (by omega)) (rgb (by omega) (by omega)) ?_
          have fp : fpD D s = -1 := fsi_un (by omega) (Or.inl ⟨rfl, fun i a b => lvB_f.mpr (h i a (by omega))⟩)
          have e : flA D s = flA D (s + 1) := by unfold flA fsD; rw [fsi_f (by omega) (decide_eq_false (fun z => z fp))]
          rw [if_pos (by omega), wr_id (by omega) (by omega), e]
          exact ih (s + 1) (by omega) (by omega)
        | succ q ihq =>
          intro p hq p0 h
          have hp : 0 ≤ p ∧ p < 30 := by omega
          have hpO : v_X2_pairOf E s p = 30 * s + p := by
            unfold v_X2_pairOf; rw [wr_id (z := s * 30) (by omega) (by omega), wr_id (by omega) (by omega)]; omega
          have next : ¬ Lv D s p → K_X2_firstLeaving_10 (n + 1) A E s (wr (p + 1)) (flA D s) E := fun z => by
            rw [wr_id (by omega) (by omega)]
            exact ihq (p + 1) (by omega) (by omega) (fun p' a b => by
              by_cases e : p' = p
              · rw [e]; exact z
              · exact h p' a (by omega))
          refine rl_X2_firstLeaving_10 _ _ (rgb (by omega) (by omega)) (rgb (by omega) (by omega)) ?_
          rw [if_neg (by omega), hpO]
          refine ⟨by omega, ?_⟩
          by_cases c : E 56 (30 * s + p) = -1
          · rw [if_pos c]; exact next (fun z => (PS_n hI hP ⟨s0, by omega⟩ hp).mp c z.1)
          · rw [if_neg c]
            have ha : alw D s p := Classical.not_not.mp (fun z => c ((PS_n hI hP ⟨s0, by omega⟩ hp).mpr z))
            obtain ⟨l1, l2, l3⟩ := lv_X hI hP hH hw ⟨s0, by omega⟩ ha
            refine ⟨l1, ?_⟩
            by_cases c1 : v_X2_servantLikesBetter E s p = 0
            · rw [if_pos c1]; exact next (fun z => (l3.mp z).1 c1)
            · rw [if_neg c1]
              refine ⟨l2, ?_⟩
              by_cases c2 : v_X2_placeLikesBetter E p s = 0
              · rw [if_pos c2]; exact next (fun z => (l3.mp z).2 c2)
              · rw [if_neg c2]
                have lv := l3.mpr ⟨c1, c2⟩
                have fp : fpD D s = p := fsi_un (by omega) (Or.inr ⟨p0, by omega, lvB_t.mpr lv, fun i a b => lvB_f.mpr (h i a b)⟩)
                have fs : fsD D s = s := by unfold fsD; exact fsi_t (by omega) (decide_eq_true (by rw [fp]; omega))
                unfold flA
                rw [fs, if_neg (by omega), fp, wr_id (z := 100 * s) (by omega) (by omega), wr_id (by omega) (by omega)]
                exact ⟨rfl, rfl⟩
      refine rl_X2_firstLeaving_2 _ (rgb (by omega) (by omega)) ?_
      rw [if_neg (by omega)]
      exact inner 30 0 (by omega) (by omega) (fun p' a b => by omega)
  exact rl_X2_firstLeaving (key 24 0 (by omega) (by omega))
end Jd
