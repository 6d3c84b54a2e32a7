/-! Blanks, words and numbers as the reference reads them. -/
section Mlx
variable {n : Nat} {A : aA} {D : aD}
theorem up_self {D : aD} {c : Nat} {i : Int} : up D c i (D c i) = D := by
  funext c' i'
  unfold up
  split
  · rename_i q; rw [q.1, q.2]
  · rfl
theorem up_up {D : aD} {c : Nat} {i v w : Int} : up (up D c i v) c i w = up D c i w := by
  funext c' i'
  unfold up
  split <;> rfl
def u_blk (D : aD) : aD := up D 70 30 (tS (D 107) (D 70 29) (D 70 30))
def p_blk (D : aD) : Prop := 0 ≤ D 70 30 ∧ D 70 30 ≤ D 70 29 ∧ D 70 29 ≤ 700
abbrev P_X12_blanks : Nat → Option am_E := am_fy tb_X12_blanks
def K_X12_blanks_0 (n : Nat) (A : aA) (D : aD) (D' : aD) : Prop := Lp n 0 P_X12_blanks 0 [some (am_r (some 70))] [] A D rv A D'
set_option maxRecDepth 100000 in
theorem rl_X12_blanks {n : Nat} {A : aA} {D D' : aD} (hp : (if D 70 29 ≤ D 70 30 then (D' = D) else (0 ≤ D 70 30 ∧ D 70 30 < 700) ∧ (if D 107 (D 70 30) = 32 then K_X12_blanks_0 (n + 1) A (up D 70 30 (wr ((D 70 30) + 1))) D' else (if D 107 (D 70 30) = 10 then K_X12_blanks_0 (n + 1) A (up D 70 30 (wr ((D 70 30) + 1))) D' else (D' = D))))) : Ev (n + 1) (1) 153 [am_r (some 70)] A D rv A D' := by
  refine Ev_of (c := 0) (P := P_X12_blanks) (lo := [some (am_r (some 70))]) rfl rfl rfl (fun d hd s hr => ?_)
  refine ok (m_aload_n (q := 1) rfl rfl rfl rfl) ?_
  refine ok (m_gfs (z := 30) (q := 4) rfl rfl rfl hr rfl rfl rfl rfl rfl) ?_
  refine ok (m_aload_n (q := 5) rfl rfl rfl rfl) ?_
  refine ok (m_gfs (z := 29) (q := 8) rfl rfl rfl hr rfl rfl rfl rfl rfl) ?_
  refine okc (m_cmpge (qt := 52) (qf := 11) rfl rfl (Rp_rg hr 70 30) (Rp_rg hr 70 29) rfl rfl) (fun c1 => ?_) (fun c1 => ?_)
  · replace hp := ip c1 hp
    exact ok (m_retv rfl rfl) (ok_vq hr hp)
  · replace hp := iq c1 hp
    refine ok (m_aload_n (q := 12) rfl rfl rfl rfl) ?_
    refine ok (m_gfc (q := 15) rfl rfl rfl hr rfl rfl rfl) ?_
    refine ok (m_aload_n (q := 16) rfl rfl rfl rfl) ?_
    refine ok (m_gfs (z := 30) (q := 19) rfl rfl rfl hr rfl rfl rfl rfl rfl) ?_
    obtain ⟨g2, hp⟩ := hp
    refine ok (m_bals (q := 20) rfl rfl rfl hr rfl rfl g2 rfl) ?_
    refine ok (m_bipush (q := 22) rfl rfl rfl) ?_
    refine okc (m_cmpeq (qt := 39) (qf := 25) rfl rfl (Rp_rg hr 107 (D 70 30)) ⟨by decide, by decide⟩ rfl rfl) (fun c3 => ?_) (fun c3 => ?_)
    · replace hp := ip c3 hp
      refine ok (m_aload_n (q := 40) rfl rfl rfl rfl) ?_
      refine ok (m_dup (q := 41) rfl rfl rfl rfl) ?_
      refine ok (m_gfs (z := 30) (q := 44) rfl rfl rfl hr rfl rfl rfl rfl rfl) ?_
      refine ok (m_iconst (q := 45) rfl rfl rfl) ?_
      refine ok (m_iadd (q := 46) rfl rfl rfl) ?_
      refine oke (e_pfs (q := 49) rfl rfl rfl hr rfl rfl rfl rfl (rg_wr _)) (fun s5 r4 => ?_)
      refine ok (m_goto (q := 0) rfl rfl rfl) ?_
      exact hp d hd _ r4
    · replace hp := iq c3 hp
      refine ok (m_aload_n (q := 26) rfl rfl rfl rfl) ?_
      refine ok (m_gfc (q := 29) rfl rfl rfl hr rfl rfl rfl) ?_
      refine ok (m_aload_n (q := 30) rfl rfl rfl rfl) ?_
      refine ok (m_gfs (z := 30) (q := 33) rfl rfl rfl hr rfl rfl rfl rfl rfl) ?_
      refine ok (m_bals (q := 34) rfl rfl rfl hr rfl rfl g2 rfl) ?_
      refine ok (m_bipush (q := 36) rfl rfl rfl) ?_
      refine okc (m_cmpne (qt := 52) (qf := 39) rfl rfl (Rp_rg hr 107 (D 70 30)) ⟨by decide, by decide⟩ rfl rfl) (fun c6 => ?_) (fun c6 => ?_)
      · replace hp := ip c6 hp
        refine ok (m_aload_n (q := 40) rfl rfl rfl rfl) ?_
        refine ok (m_dup (q := 41) rfl rfl rfl rfl) ?_
        refine ok (m_gfs (z := 30) (q := 44) rfl rfl rfl hr rfl rfl rfl rfl rfl) ?_
        refine ok (m_iconst (q := 45) rfl rfl rfl) ?_
        refine ok (m_iadd (q := 46) rfl rfl rfl) ?_
        refine oke (e_pfs (q := 49) rfl rfl rfl hr rfl rfl rfl rfl (rg_wr _)) (fun s8 r7 => ?_)
        refine ok (m_goto (q := 0) rfl rfl rfl) ?_
        exact hp d hd _ r7
      · replace hp := iq c6 hp
        exact ok (m_retv rfl rfl) (ok_vq hr hp)
set_option maxRecDepth 100000 in
theorem rl_X12_blanks_0 {n : Nat} {A : aA} {D D' : aD} (hp : (if D 70 29 ≤ D 70 30 then (D' = D) else (0 ≤ D 70 30 ∧ D 70 30 < 700) ∧ (if D 107 (D 70 30) = 32 then K_X12_blanks_0 (n + 1) A (up D 70 30 (wr ((D 70 30) + 1))) D' else (if D 107 (D 70 30) = 10 then K_X12_blanks_0 (n + 1) A (up D 70 30 (wr ((D 70 30) + 1))) D' else (D' = D))))) : K_X12_blanks_0 (n + 1) A D D' := by
  unfold K_X12_blanks_0
  refine fun d hd s hr => ?_
  refine ok (m_aload_n (q := 1) rfl rfl rfl rfl) ?_
  refine ok (m_gfs (z := 30) (q := 4) rfl rfl rfl hr rfl rfl rfl rfl rfl) ?_
  refine ok (m_aload_n (q := 5) rfl rfl rfl rfl) ?_
  refine ok (m_gfs (z := 29) (q := 8) rfl rfl rfl hr rfl rfl rfl rfl rfl) ?_
  refine okc (m_cmpge (qt := 52) (qf := 11) rfl rfl (Rp_rg hr 70 30) (Rp_rg hr 70 29) rfl rfl) (fun c9 => ?_) (fun c9 => ?_)
  · replace hp := ip c9 hp
    exact ok (m_retv rfl rfl) (ok_vq hr hp)
  · replace hp := iq c9 hp
    refine ok (m_aload_n (q := 12) rfl rfl rfl rfl) ?_
    refine ok (m_gfc (q := 15) rfl rfl rfl hr rfl rfl rfl) ?_
    refine ok (m_aload_n (q := 16) rfl rfl rfl rfl) ?_
    refine ok (m_gfs (z := 30) (q := 19) rfl rfl rfl hr rfl rfl rfl rfl rfl) ?_
    obtain ⟨g10, hp⟩ := hp
    refine ok (m_bals (q := 20) rfl rfl rfl hr rfl rfl g10 rfl) ?_
    refine ok (m_bipush (q := 22) rfl rfl rfl) ?_
    refine okc (m_cmpeq (qt := 39) (qf := 25) rfl rfl (Rp_rg hr 107 (D 70 30)) ⟨by decide, by decide⟩ rfl rfl) (fun c11 => ?_) (fun c11 => ?_)
    · replace hp := ip c11 hp
      refine ok (m_aload_n (q := 40) rfl rfl rfl rfl) ?_
      refine ok (m_dup (q := 41) rfl rfl rfl rfl) ?_
      refine ok (m_gfs (z := 30) (q := 44) rfl rfl rfl hr rfl rfl rfl rfl rfl) ?_
      refine ok (m_iconst (q := 45) rfl rfl rfl) ?_
      refine ok (m_iadd (q := 46) rfl rfl rfl) ?_
      refine oke (e_pfs (q := 49) rfl rfl rfl hr rfl rfl rfl rfl (rg_wr _)) (fun s13 r12 => ?_)
      refine ok (m_goto (q := 0) rfl rfl rfl) ?_
      exact hp d hd _ r12
    · replace hp := iq c11 hp
      refine ok (m_aload_n (q := 26) rfl rfl rfl rfl) ?_
      refine ok (m_gfc (q := 29) rfl rfl rfl hr rfl rfl rfl) ?_
      refine ok (m_aload_n (q := 30) rfl rfl rfl rfl) ?_
      refine ok (m_gfs (z := 30) (q := 33) rfl rfl rfl hr rfl rfl rfl rfl rfl) ?_
      refine ok (m_bals (q := 34) rfl rfl rfl hr rfl rfl g10 rfl) ?_
      refine ok (m_bipush (q := 36) rfl rfl rfl) ?_
      refine okc (m_cmpne (qt := 52) (qf := 39) rfl rfl (Rp_rg hr 107 (D 70 30)) ⟨by decide, by decide⟩ rfl rfl) (fun c14 => ?_) (fun c14 => ?_)
      · replace hp := ip c14 hp
        refine ok (m_aload_n (q := 40) rfl rfl rfl rfl) ?_
        refine ok (m_dup (q := 41) rfl rfl rfl rfl) ?_
        refine ok (m_gfs (z := 30) (q := 44) rfl rfl rfl hr rfl rfl rfl rfl rfl) ?_
        refine ok (m_iconst (q := 45) rfl rfl rfl) ?_
        refine ok (m_iadd (q := 46) rfl rfl rfl) ?_
        refine oke (e_pfs (q := 49) rfl rfl rfl hr rfl rfl rfl rfl (rg_wr _)) (fun s16 r15 => ?_)
        refine ok (m_goto (q := 0) rfl rfl rfl) ?_
        exact hp d hd _ r15
      · replace hp := iq c14 hp
        exact ok (m_retv rfl rfl) (ok_vq hr hp)
theorem blk_if {E : aD} {P : Prop} (h0 : p_blk E) (hn : bkP (E 107) (E 70 30) = true → E 70 30 < E 70 29 → P) (hd : (bkP (E 107) (E 70 30) = false ∨ E 70 29 ≤ E 70 30) → u_blk E = E) {Q : Prop} (hQ : u_blk E = E → Q) : (if E 70 29 ≤ E 70 30 then Q else (0 ≤ E 70 30 ∧ E 70 30 < 700) ∧ (if E 107 (E 70 30) = 32 then P else (if E 107 (E 70 30) = 10 then P else Q))) := by
  obtain ⟨a, b, c⟩ := h0
  by_cases q : E 70 29 ≤ E 70 30
  · rw [if_pos q]; exact hQ (hd (Or.inr q))
  · rw [if_neg q]
    refine ⟨⟨a, by omega⟩, ?_⟩
    by_cases q1 : E 107 (E 70 30) = 32
    · rw [if_pos q1]; exact hn (by unfold bkP; exact decide_eq_true (Or.inl q1)) (by omega)
    · rw [if_neg q1]
      by_cases q2 : E 107 (E 70 30) = 10
      · rw [if_pos q2]; exact hn (by unfold bkP; exact decide_eq_true (Or.inr q2)) (by omega)
      · rw [if_neg q2]; exact hQ (hd (Or.inl (by unfold bkP; exact decide_eq_false (by omega))))
theorem blk_d {E : aD} (h : bkP (E 107) (E 70 30) = false ∨ E 70 29 ≤ E 70 30) : u_blk E = E := by
  unfold u_blk
  rcases h with h | h
  · rw [show tS (E 107) (E 70 29) (E 70 30) = E 70 30 from rn_no h]; exact up_self
  · rw [show tS (E 107) (E 70 29) (E 70 30) = E 70 30 from rn_end h]; exact up_self
theorem blk_s {E : aD} (h : bkP (E 107) (E 70 30) = true) (h1 : E 70 30 < E 70 29) : u_blk (up E 70 30 (E 70 30 + 1)) = u_blk E := by
  unfold u_blk
  rw [up_up, up_cf (by decide), up_i (by decide), up_eq, show tS (E 107) (E 70 29) (E 70 30) = tS (E 107) (E 70 29) (E 70 30 + 1) from rn_yes h h1]
theorem K_blk : ∀ (r : Nat) (E : aD), E 70 30 + r = E 70 29 → p_blk E → K_X12_blanks_0 (n + 1) A E (u_blk E) := by
  intro r
  induction r with
  | zero =>
    intro E e hp
    exact rl_X12_blanks_0 (blk_if hp (fun _ q => absurd q (by omega)) blk_d (fun q => q))
  | succ r ih =>
    intro E e hp
    refine rl_X12_blanks_0 (blk_if hp (fun q1 q2 => ?_) blk_d (fun q => q))
    obtain ⟨a, b, c⟩ := hp
    rw [wr_id (by omega) (by omega), ← blk_s q1 q2]
    exact ih _ (by rw [up_eq, up_i (by decide)]; omega) ⟨by rw [up_eq]; omega, by rw [up_eq, up_i (by decide)]; omega, by rw [up_i (by decide)]; omega⟩
theorem ev_X12_blanks (hp : p_blk D) : Ev (n + 1) 1 153 [am_r (some 70)] A D rv A (u_blk D) := by
  refine rl_X12_blanks (blk_if hp (fun q1 q2 => ?_) blk_d (fun q => q))
  have hp' := hp
  obtain ⟨a, b, c⟩ := hp'
  rw [wr_id (by omega) (by omega), ← blk_s q1 q2]
  exact K_blk (D 70 29 - D 70 30 - 1).toNat _ (by rw [up_eq, up_i (by decide)]; omega) ⟨by rw [up_eq]; omega, by rw [up_eq, up_i (by decide)]; omega, by rw [up_i (by decide)]; omega⟩
theorem fl_X12_blanks (D : aD) (t : Nat) (i : Int) (_ : Nat.ble t 49 = true) : u_blk D (900 + t) i = D (900 + t) i := by
  unfold u_blk
  rw [up_c (by omega)]
abbrev P_X12_takesSign : Nat → Option am_E := am_fy tb_X12_takesSign
def v_X12_takesSign (D : aD) (a1 : Int) : Int := if (u_blk D) 70 30 = (u_blk D) 70 29 then 0 else if (u_blk D) 107 ((u_blk D) 70 30) = a1 then 1 else 0
def u_X12_takesSign (D : aD) (a1 : Int) : aD := if (u_blk D) 70 30 = (u_blk D) 70 29 then (u_blk D) else if (u_blk D) 107 ((u_blk D) 70 30) = a1 then (up (u_blk D) 70 30 (wr (((u_blk D) 70 30) + 1))) else (u_blk D)
def p_X12_takesSign (D : aD) (a1 : Int) : Prop := (p_blk D) ∧ (if (u_blk D) 70 30 = (u_blk D) 70 29 then True else (0 ≤ (u_blk D) 70 30 ∧ (u_blk D) 70 30 < 700))
theorem b_X12_takesSign (D : aD) (a1 : Int) : 0 ≤ v_X12_takesSign D a1 ∧ v_X12_takesSign D a1 ≤ 1 := b01 (fun c4 => ⟨by decide, by decide⟩) (fun c4 => b01 (fun c6 => ⟨by decide, by decide⟩) (fun c6 => ⟨by decide, by decide⟩))
set_option maxRecDepth 100000 in
theorem ev_X12_takesSign {n : Nat} {A : aA} {D : aD} (a1 : Int) (h1 : rg a1) (hp : p_X12_takesSign D a1) : Ev (n + 1) 2 156 [am_r (some 70), am_i (wz a1)] A D (ri (v_X12_takesSign D a1)) A (u_X12_takesSign D a1) := by
  unfold p_X12_takesSign at hp
  unfold v_X12_takesSign u_X12_takesSign
  refine Ev_of (c := 1) (P := P_X12_takesSign) (lo := [some (am_r (some 70)), some (am_i (wz a1))]) rfl rfl rfl (fun d hd s hr => ?_)
  refine ok (m_aload_n (q := 1) rfl rfl rfl rfl) ?_
  obtain ⟨g3, hp⟩ := hp
  refine oke (e_cvd (x_cv (q := 4) rfl rfl rfl rfl rfl rfl rfl rfl rfl rfl (is_st hr rfl rfl)) (ev_X12_blanks (D := D) g3) (Nat.le_trans (by decide) hd) hr) (fun s1 r2 => ?_)
  refine ok (m_aload_n (q := 5) rfl rfl rfl rfl) ?_
  refine ok (m_gfs (z := 30) (q := 8) rfl rfl rfl r2 rfl rfl rfl rfl rfl) ?_
  refine ok (m_aload_n (q := 9) rfl rfl rfl rfl) ?_
  refine ok (m_gfs (z := 29) (q := 12) rfl rfl rfl r2 rfl rfl rfl rfl rfl) ?_
  refine okf (m_cmpeq (qt := 28) (qf := 15) rfl rfl (Rp_rg r2 70 30) (Rp_rg r2 70 29) rfl rfl) (fun c4 => ?_) (fun c4 => ?_)
  · refine ok (m_iconst (q := 29) rfl rfl rfl) ?_
    exact ok (m_retb rfl rfl ⟨by decide, by decide⟩) (ok_i r2 ⟨by decide, by decide⟩)
  · replace hp := iq c4 hp
    refine ok (m_aload_n (q := 16) rfl rfl rfl rfl) ?_
    refine ok (m_gfc (q := 19) rfl rfl rfl r2 rfl rfl rfl) ?_
    refine ok (m_aload_n (q := 20) rfl rfl rfl rfl) ?_
    refine ok (m_gfs (z := 30) (q := 23) rfl rfl rfl r2 rfl rfl rfl rfl rfl) ?_
    have g5 := hp
    refine ok (m_bals (q := 24) rfl rfl rfl r2 rfl rfl g5 rfl) ?_
    refine ok (m_iload_n (q := 25) rfl rfl rfl rfl) ?_
    refine okf (m_cmpeq (qt := 30) (qf := 28) rfl rfl (Rp_rg r2 107 ((u_blk D) 70 30)) h1 rfl rfl) (fun c6 => ?_) (fun c6 => ?_)
    · refine ok (m_aload_n (q := 31) rfl rfl rfl rfl) ?_
      refine ok (m_dup (q := 32) rfl rfl rfl rfl) ?_
      refine ok (m_gfs (z := 30) (q := 35) rfl rfl rfl r2 rfl rfl rfl rfl rfl) ?_
      refine ok (m_iconst (q := 36) rfl rfl rfl) ?_
      refine ok (m_iadd (q := 37) rfl rfl rfl) ?_
      refine oke (e_pfs (q := 40) rfl rfl rfl r2 rfl rfl rfl rfl (rg_wr _)) (fun s8 r7 => ?_)
      refine ok (m_iconst (q := 41) rfl rfl rfl) ?_
      exact ok (m_retb rfl rfl ⟨by decide, by decide⟩) (ok_i r7 ⟨by decide, by decide⟩)
    · refine ok (m_iconst (q := 29) rfl rfl rfl) ?_
      exact ok (m_retb rfl rfl ⟨by decide, by decide⟩) (ok_i r2 ⟨by decide, by decide⟩)
theorem fl_X12_takesSign (D : aD) (a1 : Int) (t : Nat) (i : Int) (ht : Nat.ble t 49 = true) : u_X12_takesSign D a1 (900 + t) i = D (900 + t) i := fl_if ((fl_X12_blanks D t i ht).trans (rfl)) (fl_if ((up_c (fl_ne rfl ht)).trans ((fl_X12_blanks D t i ht).trans (rfl))) ((fl_X12_blanks D t i ht).trans (rfl)))
/-- letters as one number -/
def pN (T : Int → Int) (a : Int) : Nat → Nat
  | 0 => 0
  | k + 1 => 256 * pN T a k + (T (a + k)).toNat
def pB : Nat → Nat
  | 0 => 1
  | k + 1 => 256 * pB k
theorem pN_b {T : Int → Int} {a : Int} : ∀ k : Nat, (∀ i, a ≤ i → i < a + k → 1 ≤ T i ∧ T i ≤ 255) → pN T a k < pB k
  | 0, _ => by show 0 < 1; decide
  | k + 1, h => by
    have ih := pN_b k (fun i h1 h2 => h i h1 (by omega))
    have hk := h (a + k) (by omega) (by omega)
    show 256 * pN T a k + (T (a + k)).toNat < 256 * pB k
    omega
theorem pN_inj {T U : Int → Int} {a b : Int} : ∀ (k j : Nat), (∀ i, a ≤ i → i < a + k → 1 ≤ T i ∧ T i ≤ 255) → (∀ i, b ≤ i → i < b + j → 1 ≤ U i ∧ U i ≤ 255) → pN T a k = pN U b j → k = j ∧ ∀ i : Nat, i < k → T (a + i) = U (b + i)
  | 0, 0, _, _, _ => ⟨rfl, fun i h => absurd h (by omega)⟩
  | 0, j + 1, _, h2, e => by
    have := h2 (b + j) (by omega) (by omega)
    have e' : 0 = 256 * pN U b j + (U (b + j)).toNat := e
    omega
  | k + 1, 0, h1, _, e => by
    have := h1 (a + k) (by omega) (by omega)
    have e' : 256 * pN T a k + (T (a + k)).toNat = 0 := e
    omega
  | k + 1, j + 1, h1, h2, e => by
    have q1 := h1 (a + k) (by omega) (by omega)
    have q2 := h2 (b + j) (by omega) (by omega)
    have e' : 256 * pN T a k + (T (a + k)).toNat = 256 * pN U b j + (U (b + j)).toNat := e
    obtain ⟨i1, i2⟩ := pN_inj k j (fun i z1 z2 => h1 i z1 (by omega)) (fun i z1 z2 => h2 i z1 (by omega)) (by omega)
    refine ⟨by omega, fun i hi => ?_⟩
    by_cases z : i = k
    · have : U (b + j) = U (b + i) := by rw [z, i1]
      rw [z] at this ⊢
      rw [← this]; omega
    · exact i2 i (by omega)
theorem pN_cg {T U : Int → Int} {a b : Int} : ∀ k : Nat, (∀ i : Nat, i < k → T (a + i) = U (b + i)) → pN T a k = pN U b k
  | 0, _ => rfl
  | k + 1, h => by
    show 256 * pN T a k + (T (a + k)).toNat = 256 * pN U b k + (U (b + k)).toNat
    rw [pN_cg k (fun i hi => h i (by omega)), h k (by omega)]
def pW (T : Int → Int) (a e : Int) : Int64 := if e - a ≤ 7 then Int64.ofNat (pN T a (e - a).toNat) else 0
set_option maxRecDepth 100000 in
theorem i2l_c : ∀ c : Fin 128, ((wz (c.val : Int)).toInt64).toBitVec = BitVec.ofNat 64 c.val := by decide
theorem i2l_b {c : Int} (h : 0 ≤ c ∧ c ≤ 127) : ((wz c).toInt64).toBitVec = BitVec.ofNat 64 c.toNat := by
  have := i2l_c ⟨c.toNat, by omega⟩
  simp only [Int.toNat_of_nonneg h.1] at this
  exact this
theorem shl8 {p : Nat} {c : Int} (hp : p < 2 ^ 48) (hc : 0 ≤ c ∧ c ≤ 127) : (Int64.ofNat p <<< ((wz 8).toInt64 &&& 63)) ||| (wz c).toInt64 = Int64.ofNat (256 * p + c.toNat) := by
  apply Int64.toBitVec_inj.mp
  rw [Int64.toBitVec_or, sh64s ⟨by decide, by decide⟩, sb_shl (by decide), i2l_b hc]
  show BitVec.ofNat 64 p <<< (8 : Int).toNat ||| BitVec.ofNat 64 c.toNat = BitVec.ofNat 64 (256 * p + c.toNat)
  rw [show (8 : Int).toNat = 8 from rfl]
  apply BitVec.eq_of_toNat_eq
  rw [BitVec.toNat_or, BitVec.toNat_shiftLeft, BitVec.toNat_ofNat, BitVec.toNat_ofNat, BitVec.toNat_ofNat, Nat.mod_eq_of_lt (a := p) (by omega), Nat.mod_eq_of_lt (a := c.toNat) (by omega), Nat.mod_eq_of_lt (a := 256 * p + c.toNat) (by omega), Nat.shiftLeft_eq, Nat.mod_eq_of_lt (by omega), ← Nat.shiftLeft_eq, ← Nat.shiftLeft_add_eq_or_of_lt (by omega), Nat.shiftLeft_eq]
  omega
theorem pB_le : ∀ k, k ≤ 6 → pB k ≤ 2 ^ 48 := by
  intro k hk
  rcases (by omega : k = 0 ∨ k = 1 ∨ k = 2 ∨ k = 3 ∨ k = 4 ∨ k = 5 ∨ k = 6) with rfl | rfl | rfl | rfl | rfl | rfl | rfl <;> decide
theorem pW_s {T : Int → Int} {a z : Int} (h0 : a ≤ z) (h : ∀ i, a ≤ i → i ≤ z → 97 ≤ T i ∧ T i ≤ 122) : pW T a (z + 1) = if 7 ≤ z - a then 0 else (pW T a z <<< ((wz 8).toInt64 &&& 63)) ||| (wz (T z)).toInt64 := by
  unfold pW
  by_cases q : 7 ≤ z - a
  · rw [if_pos q, if_neg (by omega)]
  · have hz := h z h0 (Int.le_refl _)
    have hb := pN_b (T := T) (a := a) (z - a).toNat (fun i z1 z2 => by have := h i z1 (by omega); omega)
    have hb2 := pB_le (z - a).toNat (by omega)
    rw [if_neg q, if_pos (by omega), if_pos (by omega), shl8 (by omega) ⟨by omega, by omega⟩, show (z + 1 - a).toNat = (z - a).toNat + 1 by omega]
    show Int64.ofNat (256 * pN T a (z - a).toNat + (T (a + ((z - a).toNat : Int))).toNat) = _
    rw [show a + (((z - a).toNat : Nat) : Int) = z by omega]
def wEnd (D : aD) : Int := rn (ofP (D 107) 1) (D 70 29) (tS (D 107) (D 70 29) (D 70 30))
def w_word (D : aD) : Int64 := pW (D 107) (tS (D 107) (D 70 29) (D 70 30)) (wEnd D)
def u_word (D : aD) : aD := up (u_blk D) 70 49 (wEnd D)
abbrev P_X12_word : Nat → Option am_E := am_fy tb_X12_word
def K_X12_word_14 (n : Nat) (A : aA) (D : aD) (l1 : Int64) (x : Int64) (D' : aD) : Prop := Lp n 1 P_X12_word 14 [some (am_r (some 70)), some (am_l l1), none] [] A D (rl x) A D'
set_option maxRecDepth 100000 in
theorem rl_X12_word {n : Nat} {A : aA} {D D' : aD} {x : Int64} (hp : (p_blk D) ∧ K_X12_word_14 (n + 1) A (up (u_blk D) 70 49 ((u_blk D) 70 30)) (0 : Int64) x D') : Ev (n + 1) (2) 154 [am_r (some 70)] A D (rl x) A D' := by
  refine Ev_of (c := 1) (P := P_X12_word) (lo := [some (am_r (some 70)), none, none]) rfl rfl rfl (fun d hd s hr => ?_)
  refine ok (m_aload_n (q := 1) rfl rfl rfl rfl) ?_
  obtain ⟨g3, hp⟩ := hp
  refine oke (e_cvd (x_cv (q := 4) rfl rfl rfl rfl rfl rfl rfl rfl rfl rfl (is_st hr rfl rfl)) (ev_X12_blanks (D := D) g3) (Nat.le_trans (by decide) hd) hr) (fun s1 r2 => ?_)
  refine ok (m_aload_n (q := 5) rfl rfl rfl rfl) ?_
  refine ok (m_aload_n (q := 6) rfl rfl rfl rfl) ?_
  refine ok (m_gfs (z := 30) (q := 9) rfl rfl rfl r2 rfl rfl rfl rfl rfl) ?_
  refine oke (e_pfs (q := 12) rfl rfl rfl r2 rfl rfl rfl rfl (Rp_rg r2 70 30)) (fun s5 r4 => ?_)
  refine ok (m_lconst (q := 13) rfl rfl rfl) ?_
  refine ok (m_lstore_n (q := 14) (lo' := [some (am_r (some 70)), some (am_l (0 : Int64)), none]) rfl rfl rfl rfl rfl) ?_
  exact hp d hd _ r4
set_option maxRecDepth 100000 in
theorem rl_X12_word_14 {n : Nat} {A : aA} {D D' : aD} (l1 : Int64) {x : Int64} (hp : (if D 70 29 ≤ D 70 49 then (if wr ((D 70 49) - (D 70 30)) ≤ 7 then (x = l1 ∧ D' = D) else (x = (0 : Int64) ∧ D' = D)) else (0 ≤ D 70 49 ∧ D 70 49 < 700) ∧ (if D 107 (D 70 49) < 97 then (if wr ((D 70 49) - (D 70 30)) ≤ 7 then (x = l1 ∧ D' = D) else (x = (0 : Int64) ∧ D' = D)) else (if 122 < D 107 (D 70 49) then (if wr ((D 70 49) - (D 70 30)) ≤ 7 then (x = l1 ∧ D' = D) else (x = (0 : Int64) ∧ D' = D)) else (if 7 ≤ wr ((D 70 49) - (D 70 30)) then K_X12_word_14 (n + 1) A (up D 70 49 (wr ((D 70 49) + 1))) (0 : Int64) x D' else K_X12_word_14 (n + 1) A (up D 70 49 (wr ((D 70 49) + 1))) ((l1 <<< ((wz 8).toInt64 &&& 63)) ||| ((wz (D 107 (D 70 49))).toInt64)) x D'))))) : K_X12_word_14 (n + 1) A D l1 x D' := by
  unfold K_X12_word_14
  refine fun d hd s hr => ?_
  refine ok (m_aload_n (q := 15) rfl rfl rfl rfl) ?_
  refine ok (m_gfs (z := 49) (q := 18) rfl rfl rfl hr rfl rfl rfl rfl rfl) ?_
  refine ok (m_aload_n (q := 19) rfl rfl rfl rfl) ?_
  refine ok (m_gfs (z := 29) (q := 22) rfl rfl rfl hr rfl rfl rfl rfl rfl) ?_
  refine okc (m_cmpge (qt := 100) (qf := 25) rfl rfl (Rp_rg hr 70 49) (Rp_rg hr 70 29) rfl rfl) (fun c6 => ?_) (fun c6 => ?_)
  · replace hp := ip c6 hp
    refine ok (m_aload_n (q := 101) rfl rfl rfl rfl) ?_
    refine ok (m_gfs (z := 49) (q := 104) rfl rfl rfl hr rfl rfl rfl rfl rfl) ?_
    refine ok (m_aload_n (q := 105) rfl rfl rfl rfl) ?_
    refine ok (m_gfs (z := 30) (q := 108) rfl rfl rfl hr rfl rfl rfl rfl rfl) ?_
    refine ok (m_isub (q := 109) rfl rfl rfl) ?_
    refine ok (m_bipush (q := 111) rfl rfl rfl) ?_
    refine okc (m_cmple (qt := 118) (qf := 114) rfl rfl (rg_wr _) ⟨by decide, by decide⟩ rfl rfl) (fun c7 => ?_) (fun c7 => ?_)
    · replace hp := ip c7 hp
      refine ok (m_lload_n (q := 119) rfl rfl rfl rfl) ?_
      exact ok (m_retl rfl rfl) (ok_lq hr hp)
    · replace hp := iq c7 hp
      refine ok (m_lconst (q := 115) rfl rfl rfl) ?_
      refine ok (m_goto (q := 119) rfl rfl rfl) ?_
      exact ok (m_retl rfl rfl) (ok_lq hr hp)
  · replace hp := iq c6 hp
    refine ok (m_aload_n (q := 26) rfl rfl rfl rfl) ?_
    refine ok (m_gfc (q := 29) rfl rfl rfl hr rfl rfl rfl) ?_
    refine ok (m_aload_n (q := 30) rfl rfl rfl rfl) ?_
    refine ok (m_gfs (z := 49) (q := 33) rfl rfl rfl hr rfl rfl rfl rfl rfl) ?_
    obtain ⟨g8, hp⟩ := hp
    refine ok (m_bals (q := 34) rfl rfl rfl hr rfl rfl g8 rfl) ?_
    refine ok (m_bipush (q := 36) rfl rfl rfl) ?_
    refine okc (m_cmplt (qt := 100) (qf := 39) rfl rfl (Rp_rg hr 107 (D 70 49)) ⟨by decide, by decide⟩ rfl rfl) (fun c9 => ?_) (fun c9 => ?_)
    · replace hp := ip c9 hp
      refine ok (m_aload_n (q := 101) rfl rfl rfl rfl) ?_
      refine ok (m_gfs (z := 49) (q := 104) rfl rfl rfl hr rfl rfl rfl rfl rfl) ?_
      refine ok (m_aload_n (q := 105) rfl rfl rfl rfl) ?_
      refine ok (m_gfs (z := 30) (q := 108) rfl rfl rfl hr rfl rfl rfl rfl rfl) ?_
      refine ok (m_isub (q := 109) rfl rfl rfl) ?_
      refine ok (m_bipush (q := 111) rfl rfl rfl) ?_
      refine okc (m_cmple (qt := 118) (qf := 114) rfl rfl (rg_wr _) ⟨by decide, by decide⟩ rfl rfl) (fun c10 => ?_) (fun c10 => ?_)
      · replace hp := ip c10 hp
        refine ok (m_lload_n (q := 119) rfl rfl rfl rfl) ?_
        exact ok (m_retl rfl rfl) (ok_lq hr hp)
      · replace hp := iq c10 hp
        refine ok (m_lconst (q := 115) rfl rfl rfl) ?_
        refine ok (m_goto (q := 119) rfl rfl rfl) ?_
        exact ok (m_retl rfl rfl) (ok_lq hr hp)
    · replace hp := iq c9 hp
      refine ok (m_aload_n (q := 40) rfl rfl rfl rfl) ?_
      refine ok (m_gfc (q := 43) rfl rfl rfl hr rfl rfl rfl) ?_
      refine ok (m_aload_n (q := 44) rfl rfl rfl rfl) ?_
      refine ok (m_gfs (z := 49) (q := 47) rfl rfl rfl hr rfl rfl rfl rfl rfl) ?_
      refine ok (m_bals (q := 48) rfl rfl rfl hr rfl rfl g8 rfl) ?_
      refine ok (m_bipush (q := 50) rfl rfl rfl) ?_
      refine okc (m_cmpgt (qt := 100) (qf := 53) rfl rfl (Rp_rg hr 107 (D 70 49)) ⟨by decide, by decide⟩ rfl rfl) (fun c11 => ?_) (fun c11 => ?_)
      · replace hp := ip c11 hp
        refine ok (m_aload_n (q := 101) rfl rfl rfl rfl) ?_
        refine ok (m_gfs (z := 49) (q := 104) rfl rfl rfl hr rfl rfl rfl rfl rfl) ?_
        refine ok (m_aload_n (q := 105) rfl rfl rfl rfl) ?_
        refine ok (m_gfs (z := 30) (q := 108) rfl rfl rfl hr rfl rfl rfl rfl rfl) ?_
        refine ok (m_isub (q := 109) rfl rfl rfl) ?_
        refine ok (m_bipush (q := 111) rfl rfl rfl) ?_
        refine okc (m_cmple (qt := 118) (qf := 114) rfl rfl (rg_wr _) ⟨by decide, by decide⟩ rfl rfl) (fun c12 => ?_) (fun c12 => ?_)
        · replace hp := ip c12 hp
          refine ok (m_lload_n (q := 119) rfl rfl rfl rfl) ?_
          exact ok (m_retl rfl rfl) (ok_lq hr hp)
        · replace hp := iq c12 hp
          refine ok (m_lconst (q := 115) rfl rfl rfl) ?_
          refine ok (m_goto (q := 119) rfl rfl rfl) ?_
          exact ok (m_retl rfl rfl) (ok_lq hr hp)
      · replace hp := iq c11 hp
        refine ok (m_aload_n (q := 54) rfl rfl rfl rfl) ?_
        refine ok (m_gfs (z := 49) (q := 57) rfl rfl rfl hr rfl rfl rfl rfl rfl) ?_
        refine ok (m_aload_n (q := 58) rfl rfl rfl rfl) ?_
        refine ok (m_gfs (z := 30) (q := 61) rfl rfl rfl hr rfl rfl rfl rfl rfl) ?_
        refine ok (m_isub (q := 62) rfl rfl rfl) ?_
        refine ok (m_bipush (q := 64) rfl rfl rfl) ?_
        refine okc (m_cmpge (qt := 85) (qf := 67) rfl rfl (rg_wr _) ⟨by decide, by decide⟩ rfl rfl) (fun c13 => ?_) (fun c13 => ?_)
        · replace hp := ip c13 hp
          refine ok (m_lconst (q := 86) rfl rfl rfl) ?_
          refine ok (m_lstore_n (q := 87) (lo' := [some (am_r (some 70)), some (am_l (0 : Int64)), none]) rfl rfl rfl rfl rfl) ?_
          refine ok (m_aload_n (q := 88) rfl rfl rfl rfl) ?_
          refine ok (m_dup (q := 89) rfl rfl rfl rfl) ?_
          refine ok (m_gfs (z := 49) (q := 92) rfl rfl rfl hr rfl rfl rfl rfl rfl) ?_
          refine ok (m_iconst (q := 93) rfl rfl rfl) ?_
          refine ok (m_iadd (q := 94) rfl rfl rfl) ?_
          refine oke (e_pfs (q := 97) rfl rfl rfl hr rfl rfl rfl rfl (rg_wr _)) (fun s15 r14 => ?_)
          refine ok (m_goto (q := 14) rfl rfl rfl) ?_
          exact hp d hd _ r14
        · replace hp := iq c13 hp
          refine ok (m_lload_n (q := 68) rfl rfl rfl rfl) ?_
          refine ok (m_bipush (q := 70) rfl rfl rfl) ?_
          refine ok (m_lshl (q := 71) rfl rfl rfl) ?_
          refine ok (m_aload_n (q := 72) rfl rfl rfl rfl) ?_
          refine ok (m_gfc (q := 75) rfl rfl rfl hr rfl rfl rfl) ?_
          refine ok (m_aload_n (q := 76) rfl rfl rfl rfl) ?_
          refine ok (m_gfs (z := 49) (q := 79) rfl rfl rfl hr rfl rfl rfl rfl rfl) ?_
          refine ok (m_bals (q := 80) rfl rfl rfl hr rfl rfl g8 rfl) ?_
          refine ok (m_i2l (q := 81) rfl rfl rfl) ?_
          refine ok (m_lor (q := 82) rfl rfl rfl) ?_
          refine ok (m_goto (q := 86) rfl rfl rfl) ?_
          refine ok (m_lstore_n (q := 87) (lo' := [some (am_r (some 70)), some (am_l ((l1 <<< ((wz 8).toInt64 &&& 63)) ||| ((wz (D 107 (D 70 49))).toInt64))), none]) rfl rfl rfl rfl rfl) ?_
          refine ok (m_aload_n (q := 88) rfl rfl rfl rfl) ?_
          refine ok (m_dup (q := 89) rfl rfl rfl rfl) ?_
          refine ok (m_gfs (z := 49) (q := 92) rfl rfl rfl hr rfl rfl rfl rfl rfl) ?_
          refine ok (m_iconst (q := 93) rfl rfl rfl) ?_
          refine ok (m_iadd (q := 94) rfl rfl rfl) ?_
          refine oke (e_pfs (q := 97) rfl rfl rfl hr rfl rfl rfl rfl (rg_wr _)) (fun s17 r16 => ?_)
          refine ok (m_goto (q := 14) rfl rfl rfl) ?_
          exact hp d hd _ r16
theorem K_word {E : aD} {T : Int → Int} {N a : Int} (h107 : E 107 = T) (h29 : E 70 29 = N) (h30 : E 70 30 = a) (h0 : 0 ≤ a) (hN : N ≤ 700) : ∀ (r : Nat) (z : Int), z + r = N → a ≤ z → (∀ i, a ≤ i → i < z → kc (T i) = 1) → K_X12_word_14 (n + 1) A (up E 70 49 z) (pW T a z) (pW T a (rn (ofP T 1) N z)) (up E 70 49 (rn (ofP T 1) N z)) := by
  have stop : ∀ z, a ≤ z → z ≤ N → (if wr (z - a) ≤ 7 then (pW T a z = pW T a z ∧ up E 70 49 z = up E 70 49 z) else (pW T a z = (0 : Int64) ∧ up E 70 49 z = up E 70 49 z)) := by
    intro z z1 z2
    rw [wr_id (by omega) (by omega)]
    by_cases q : z - a ≤ 7
    · rw [if_pos q]; exact ⟨rfl, rfl⟩
    · rw [if_neg q]; exact ⟨if_neg q, rfl⟩
  intro r
  induction r with
  | zero =>
    intro z e z0 hz
    refine rl_X12_word_14 _ ?_
    simp only [up_eq, up_i (show (29 : Int) ≠ 49 by decide), up_i (show (30 : Int) ≠ 49 by decide), h29, h30]
    rw [if_pos (by omega), rn_end (by omega)]
    exact stop z z0 (by omega)
  | succ r ih =>
    intro z e z0 hz
    refine rl_X12_word_14 _ ?_
    simp only [up_eq, up_i (show (29 : Int) ≠ 49 by decide), up_i (show (30 : Int) ≠ 49 by decide), up_cf (show (107 : Nat) ≠ 70 by decide), up_up, h29, h30, h107]
    rw [if_neg (by omega)]
    refine ⟨⟨by omega, by omega⟩, ?_⟩
    by_cases q : kc (T z) = 1
    · have q' := kc1.mp q
      have hz' : ∀ i, a ≤ i → i ≤ z → kc (T i) = 1 := fun i i1 i2 => by
        by_cases g : i = z
        · rw [g]; exact q
        · exact hz i i1 (by omega)
      have hi := ih (z + 1) (by omega) (by omega) (fun i i1 i2 => hz' i i1 (by omega))
      rw [pW_s z0 (fun i i1 i2 => kc1.mp (hz' i i1 i2)), ← rn_yes (by unfold ofP; exact decide_eq_true q) (by omega)] at hi
      rw [if_neg (by omega), if_neg (by omega), wr_id (z := z - a) (by omega) (by omega), wr_id (z := z + 1) (by omega) (by omega)]
      by_cases q7 : 7 ≤ z - a
      · rw [if_pos q7] at hi ⊢; exact hi
      · rw [if_neg q7] at hi ⊢; exact hi
    · have q' : ¬ (97 ≤ T z ∧ T z ≤ 122) := fun g => q (kc1.mpr g)
      rw [rn_no (by unfold ofP; exact decide_eq_false q)]
      by_cases g : T z < 97
      · rw [if_pos g]; exact stop z z0 (by omega)
      · rw [if_neg g, if_pos (by omega)]; exact stop z z0 (by omega)
theorem tS_b {T : Int → Int} {N a : Int} (h : a ≤ N) : a ≤ tS T N a ∧ tS T N a ≤ N := ⟨(rn_b h).1, (rn_b h).2.1⟩
theorem ev_X12_word (hp : p_blk D) : Ev (n + 1) 2 154 [am_r (some 70)] A D (rl (w_word D)) A (u_word D) := by
  refine rl_X12_word ⟨hp, ?_⟩
  obtain ⟨a, b, c⟩ := hp
  have hs := tS_b (T := D 107) b
  have e1 : u_blk D 70 30 = tS (D 107) (D 70 29) (D 70 30) := up_eq
  have e2 : u_blk D 70 29 = D 70 29 := up_i (by decide)
  have e3 : u_blk D 107 = D 107 := up_cf (by decide)
  have := K_word (n := n) (A := A) e3 e2 e1 (by omega) c (D 70 29 - tS (D 107) (D 70 29) (D 70 30)).toNat _ (by omega) (Int.le_refl _) (fun i i1 i2 => absurd i2 (by omega))
  rw [show pW (D 107) (tS (D 107) (D 70 29) (D 70 30)) (tS (D 107) (D 70 29) (D 70 30)) = 0 by unfold pW; rw [if_pos (by omega), show (tS (D 107) (D 70 29) (D 70 30) - tS (D 107) (D 70 29) (D 70 30)).toNat = 0 by omega]; rfl] at this
  rw [e1]
  exact this
theorem fl_X12_word (D : aD) (t : Nat) (i : Int) (ht : Nat.ble t 49 = true) : u_word D (900 + t) i = D (900 + t) i := by
  unfold u_word
  rw [up_c (by omega)]
  exact fl_X12_blanks D t i ht
abbrev P_X12_takes : Nat → Option am_E := am_fy tb_X12_takes
def v_X12_takes (D : aD) (l1 : Int64) : Int := if o_lcmp (w_word D) l1 = 0 then 1 else 0
def u_X12_takes (D : aD) (l1 : Int64) : aD := if o_lcmp (w_word D) l1 = 0 then (up (u_word D) 70 30 ((u_word D) 70 49)) else (u_word D)
def p_X12_takes (D : aD) (l1 : Int64) : Prop := (p_blk D)
theorem b_X12_takes (D : aD) (l1 : Int64) : 0 ≤ v_X12_takes D l1 ∧ v_X12_takes D l1 ≤ 1 := b01 (fun c4 => ⟨by decide, by decide⟩) (fun c4 => ⟨by decide, by decide⟩)
set_option maxRecDepth 100000 in
theorem ev_X12_takes {n : Nat} {A : aA} {D : aD} (l1 : Int64) (hp : p_X12_takes D l1) : Ev (n + 1) 3 155 [am_r (some 70), am_l l1] A D (ri (v_X12_takes D l1)) A (u_X12_takes D l1) := by
  unfold p_X12_takes at hp
  unfold v_X12_takes u_X12_takes
  refine Ev_of (c := 2) (P := P_X12_takes) (lo := [some (am_r (some 70)), some (am_l l1), none]) rfl rfl rfl (fun d hd s hr => ?_)
  refine ok (m_aload_n (q := 1) rfl rfl rfl rfl) ?_
  have g3 := hp
  refine oke (e_cl (x_cv (q := 4) rfl rfl rfl rfl rfl rfl rfl rfl rfl rfl (is_st hr rfl rfl)) (ev_X12_word (D := D) g3) (Nat.le_trans (by decide) hd) hr) (fun s1 r2 => ?_)
  refine ok (m_lload_n (q := 5) rfl rfl rfl rfl) ?_
  refine ok (m_lcmp (q := 6) rfl rfl rfl) ?_
  refine okf (m_ifeq (qt := 11) (qf := 9) rfl rfl (rg_lcmp _ _) rfl rfl) (fun c4 => ?_) (fun c4 => ?_)
  · refine ok (m_aload_n (q := 12) rfl rfl rfl rfl) ?_
    refine ok (m_aload_n (q := 13) rfl rfl rfl rfl) ?_
    refine ok (m_gfs (z := 49) (q := 16) rfl rfl rfl r2 rfl rfl rfl rfl rfl) ?_
    refine oke (e_pfs (q := 19) rfl rfl rfl r2 rfl rfl rfl rfl (Rp_rg r2 70 49)) (fun s6 r5 => ?_)
    refine ok (m_iconst (q := 20) rfl rfl rfl) ?_
    exact ok (m_retb rfl rfl ⟨by decide, by decide⟩) (ok_i r5 ⟨by decide, by decide⟩)
  · refine ok (m_iconst (q := 10) rfl rfl rfl) ?_
    exact ok (m_retb rfl rfl ⟨by decide, by decide⟩) (ok_i r2 ⟨by decide, by decide⟩)
theorem fl_X12_takes (D : aD) (l1 : Int64) (t : Nat) (i : Int) (ht : Nat.ble t 49 = true) : u_X12_takes D l1 (900 + t) i = D (900 + t) i := fl_if ((up_c (fl_ne rfl ht)).trans ((fl_X12_word D t i ht).trans (rfl))) ((fl_X12_word D t i ht).trans (rfl))
end Mlx
