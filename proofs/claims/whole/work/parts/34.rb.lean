/-! Rulebooks: the relation, and what is asked of them. -/
section Rb_
variable {n : Nat} {A : aA} {D : aD}
def lk (D : aD) (r what which : Int) : Int := foi (fun b j => if D 94 (30 * r + j) = what ∧ D 95 (30 * r + j) = which then 30 * r + j else b) (-1) (D 92 r)
def w_last (D : aD) (r what which : Int) : Int := if r = -1 then -1 else lk D r what which
def tl (D : aD) (r what which z : Int) : Int := if w_last D r what which = -1 then z else D 96 (w_last D r what which)
def w_inForce (D : aD) (day : Int) : Int := foi (fun b r => if D 93 r ≤ day then r else b) (-1) (D 70 26)
def bk (r : Int) : Int := if r = -1 then 8 else r
/-- what stands ahead of a book's statements -/
def Hdr (D : aD) (b r : Int) : Prop := (D 2406 b = tl D r 1 0 30 ∧ D 2407 b = tl D r 2 0 0 ∧ (D 2408 b = if w_last D r 2 0 = -1 then 0 else D 97 (w_last D r 2 0)) ∧ D 2409 b = tl D r 7 0 0 ∧ D 2410 b = tl D r 8 0 3 ∧ (D 2411 b = if w_last D r 5 0 = -1 then 0 else 1)) ∧ (∀ p, 0 ≤ p → p < 6 → D 3301 (1024 * b + p) = tl D r 3 p 0) ∧ D 3300 b = 6 ∧ D 3400 b = 6 ∧ D 3500 b = 6
/-- a condition on both sides -/
def Cnd (D : aD) (e k : Int) : Prop := (D 2605 e = 0 ∧ D 98 k = -1) ∨ (D 2605 e ≠ 0 ∧ ∃ φ : Tf, XC D e φ ∧ HM D (D 70 27) 40 (D 98 k) φ)
/-- a statement on both sides -/
def Stm (D : aD) (e k : Int) : Prop := D 2600 e = D 94 k ∧ D 2601 e = D 95 k ∧ (0 ≤ D 94 k ∧ D 94 k ≤ 8) ∧ (0 ≤ D 95 k ∧ D 95 k ≤ 5) ∧ (D 94 k ≠ 5 → 0 ≤ D 96 k ∧ D 96 k ≤ 9999) ∧ (D 94 k ≠ 2 → D 94 k ≠ 5 → D 2603 e = D 96 k) ∧ (D 94 k = 2 → D 2604 e = D 96 k ∧ D 2603 e = D 97 k ∧ 0 ≤ D 97 k ∧ D 97 k ≤ 9999 ∧ D 96 k ≤ 100) ∧ (D 94 k = 0 → D 2604 e = D 97 k ∧ 0 ≤ D 97 k ∧ D 97 k ≤ 300) ∧ (D 94 k = 6 → D 2602 e = D 97 k ∧ 0 ≤ D 97 k ∧ D 97 k ≤ 5) ∧ (D 94 k = 0 ∨ D 94 k = 4 → Cnd D e k)
def Bok (D : aD) (r : Int) : Prop := Hdr D r r ∧ D 1002 (8 + r) = D 92 r ∧ (0 ≤ D 92 r ∧ D 92 r ≤ 30) ∧ ∀ j, 0 ≤ j → j < D 92 r → Stm D (64 * r + j) (30 * r + j)
def I_rb (D : aD) : Prop := (D 1002 4 = D 70 26 ∧ 0 ≤ D 70 26 ∧ D 70 26 ≤ 8) ∧ (0 ≤ D 70 27 ∧ D 70 27 ≤ 588 * D 70 26) ∧ (∀ r, 0 ≤ r → r < D 70 26 → (D 2400 r = r ∧ D 2401 r = D 93 r ∧ 0 ≤ D 93 r ∧ D 93 r ≤ 999) ∧ Bok D r) ∧ Hdr D 8 (-1) ∧ D 2400 8 = -1 ∧ D 1002 16 = 0
def Inv (D : aD) : Prop := Iv D ∧ I_rb D
theorem Inv.iv (h : Inv D) : Iv D := h.1
theorem Inv.rb (h : Inv D) : I_rb D := h.2
theorem lk_cg {F : aD} (h : Sm F D) (r a b : Int) : lk F r a b = lk D r a b := by unfold lk; rw [h 94 rfl, h 95 rfl, h 92 rfl]
theorem last_cg {F : aD} (h : Sm F D) (r a b : Int) : w_last F r a b = w_last D r a b := by unfold w_last; rw [lk_cg h]
theorem tl_cg {F : aD} (h : Sm F D) (r a b z : Int) : tl F r a b z = tl D r a b z := by unfold tl; rw [last_cg h, h 96 rfl]
theorem if_cg {F : aD} (h : Sm F D) (d : Int) : w_inForce F d = w_inForce D d := by unfold w_inForce; rw [h 93 rfl, h 70 rfl]
theorem XC_cg {F : aD} {e : Int} {φ : Tf} (h1 : F 3200 e = D 3200 e) (h2 : ∀ i, 0 ≤ i → i < 700 → F 3201 (1024 * e + i) = D 3201 (1024 * e + i)) (h : XC D e φ) : XC F e φ := by
  obtain ⟨a, b, c⟩ := h
  unfold XC
  rw [h1]
  refine ⟨a, fun i i0 i1 => by rw [h2 i i0 (by omega)]; exact b i i0 i1, fun f => ?_⟩
  have e2 : ∀ i, 0 ≤ i → i ≤ D 3200 e → PX (fun j => F 3201 (1024 * e + j)) f i = PX (fun j => D 3201 (1024 * e + j)) f i := by
    unfold PX
    exact foi_cg (fun j x j0 j1 => by show ev1 f x (F 3201 (1024 * e + j)) = ev1 f x (D 3201 (1024 * e + j)); rw [h2 j j0 (by omega)])
  exact ⟨fun i i0 i1 => by rw [e2 i i0 i1]; exact (c f).1 i i0 i1, by rw [e2 _ a.1 (Int.le_refl _)]; exact (c f).2⟩
theorem Irb_cg {F : aD} (h : Sm F D) (H : I_rb D) : I_rb F := by
  unfold I_rb Bok Hdr Stm Cnd at *
  simp only [tl_cg h, last_cg h, h 1002 rfl, h 70 rfl, h 2400 rfl, h 2401 rfl, h 93 rfl, h 92 rfl, h 2406 rfl, h 2407 rfl, h 2408 rfl, h 2409 rfl, h 2410 rfl, h 2411 rfl, h 97 rfl, h 3301 rfl, h 3300 rfl, h 3400 rfl, h 3500 rfl, h 2600 rfl, h 2601 rfl, h 2602 rfl, h 2603 rfl, h 2604 rfl, h 2605 rfl, h 94 rfl, h 95 rfl, h 96 rfl, h 98 rfl]
  obtain ⟨a, b, c, d⟩ := H
  refine ⟨a, b, fun r r0 r1 => ?_, d⟩
  obtain ⟨c1, c2, c3, c4, c5⟩ := c r r0 r1
  refine ⟨c1, c2, c3, c4, fun j j0 j1 => ?_⟩
  obtain ⟨s1, s2, s3, s4, s5, s6, s7, s8, s9, s10⟩ := c5 j j0 j1
  refine ⟨s1, s2, s3, s4, s5, s6, s7, s8, s9, fun q => ?_⟩
  rcases s10 q with q1 | ⟨q1, φ, q2, q3⟩
  · exact Or.inl q1
  · refine Or.inr ⟨q1, φ, XC_cg (by rw [h 3200 rfl]) (fun i _ _ => by rw [h 3201 rfl]) q2, ?_⟩
    exact HM_cg (Int.le_refl _) (fun i _ _ => ⟨by rw [h 99 rfl], by rw [h 100 rfl], by rw [h 101 rfl], by rw [h 102 rfl], by rw [h 103 rfl], by rw [h 104 rfl]⟩) _ _ _ q3
theorem Inv_cg {F : aD} (h : Sm F D) (H : Inv D) : Inv F := ⟨Iv_cg h H.1, Irb_cg h H.2⟩
theorem inForce_b {d : Int} : -1 ≤ w_inForce D d ∧ (0 ≤ D 70 26 → w_inForce D d < D 70 26) ∧ (w_inForce D d < 0 → w_inForce D d = -1) := by
  by_cases h : 0 ≤ D 70 26
  · have := foi_ind (f := fun b r => if D 93 r ≤ d then r else b) (b := (-1 : Int)) (Q := fun j x => -1 ≤ x ∧ x < j ∨ x = -1) (Or.inr rfl) (N := D 70 26) (fun j x j0 j1 q => by split <;> omega) (D 70 26) h (Int.le_refl _)
    unfold w_inForce
    omega
  · unfold w_inForce foi
    rw [show (D 70 26).toNat = 0 by omega]
    exact ⟨by simp [fo], fun q => absurd q h, fun _ => rfl⟩
abbrev P_X12_inForce : Nat → Option am_E := am_fy tb_X12_inForce
def K_X12_inForce_4 (n : Nat) (A : aA) (D : aD) (a1 : Int) (a2 : Int) (a3 : Int) (x : Int) (D' : aD) : Prop := Lp n 0 P_X12_inForce 4 [some (am_r (some 70)), some (am_i (wz a1)), some (am_i (wz a2)), some (am_i (wz a3))] [] A D (ri x) A D'
set_option maxRecDepth 100000 in
theorem rl_X12_inForce {n : Nat} {A : aA} {D D' : aD} (a1 : Int) (h1 : rg a1) {x : Int} (hp : K_X12_inForce_4 (n) A D a1 (-1) 0 x D') : Ev (n) (1) 172 [am_r (some 70), am_i (wz a1)] A D (ri x) A D' := by
  refine Ev_of (c := 0) (P := P_X12_inForce) (lo := [some (am_r (some 70)), some (am_i (wz a1)), none, none]) rfl rfl rfl (fun d hd s hr => ?_)
  refine ok (m_iconst (q := 1) rfl rfl rfl) ?_
  refine ok (m_istore_n (q := 2) (lo' := [some (am_r (some 70)), some (am_i (wz a1)), some (am_i (wz (-1))), none]) rfl rfl rfl rfl rfl) ?_
  refine ok (m_iconst (q := 3) rfl rfl rfl) ?_
  refine ok (m_istore_n (q := 4) (lo' := [some (am_r (some 70)), some (am_i (wz a1)), some (am_i (wz (-1))), some (am_i (wz 0))]) rfl rfl rfl rfl rfl) ?_
  exact hp d hd _ hr
set_option maxRecDepth 100000 in
theorem rl_X12_inForce_4 {n : Nat} {A : aA} {D D' : aD} (a1 : Int) (a2 : Int) (a3 : Int) (h1 : rg a1) (h2 : rg a2) (h3 : rg a3) {x : Int} (hp : (if D 70 26 ≤ a3 then (x = a2 ∧ D' = D) else (0 ≤ a3 ∧ a3 < 9) ∧ (if a1 < D 93 a3 then K_X12_inForce_4 (n) A D a1 a2 (wr (a3 + 1)) x D' else K_X12_inForce_4 (n) A D a1 a3 (wr (a3 + 1)) x D'))) : K_X12_inForce_4 (n) A D a1 a2 a3 x D' := by
  unfold K_X12_inForce_4
  refine fun d hd s hr => ?_
  refine ok (m_iload_n (q := 5) rfl rfl rfl rfl) ?_
  refine ok (m_aload_n (q := 6) rfl rfl rfl rfl) ?_
  refine ok (m_gfs (z := 26) (q := 9) rfl rfl rfl hr rfl rfl rfl rfl rfl) ?_
  refine okc (m_cmpge (qt := 30) (qf := 12) rfl rfl h3 (Rp_rg hr 70 26) rfl rfl) (fun c1 => ?_) (fun c1 => ?_)
  · replace hp := ip c1 hp
    refine ok (m_iload_n (q := 31) rfl rfl rfl rfl) ?_
    exact ok (m_reti rfl rfl) (ok_iq hr h2 hp)
  · replace hp := iq c1 hp
    refine ok (m_aload_n (q := 13) rfl rfl rfl rfl) ?_
    refine ok (m_gfc (q := 16) rfl rfl rfl hr rfl rfl rfl) ?_
    refine ok (m_iload_n (q := 17) rfl rfl rfl rfl) ?_
    obtain ⟨g2, hp⟩ := hp
    refine ok (m_ials (q := 18) rfl rfl rfl hr rfl rfl g2 rfl) ?_
    refine ok (m_iload_n (q := 19) rfl rfl rfl rfl) ?_
    refine okc (m_cmpgt (qt := 24) (qf := 22) rfl rfl (Rp_rg hr 93 a3) h1 rfl rfl) (fun c3 => ?_) (fun c3 => ?_)
    · replace hp := ip c3 hp
      refine ok (m_iinc (q := 27) (lo' := [some (am_r (some 70)), some (am_i (wz a1)), some (am_i (wz a2)), some (am_i (wz (wr (a3 + 1))))]) rfl rfl rfl rfl rfl rfl rfl) ?_
      refine ok (m_goto (q := 4) rfl rfl rfl) ?_
      exact hp d hd _ hr
    · replace hp := iq c3 hp
      refine ok (m_iload_n (q := 23) rfl rfl rfl rfl) ?_
      refine ok (m_istore_n (q := 24) (lo' := [some (am_r (some 70)), some (am_i (wz a1)), some (am_i (wz a3)), some (am_i (wz a3))]) rfl rfl rfl rfl rfl) ?_
      refine ok (m_iinc (q := 27) (lo' := [some (am_r (some 70)), some (am_i (wz a1)), some (am_i (wz a3)), some (am_i (wz (wr (a3 + 1))))]) rfl rfl rfl rfl rfl rfl rfl) ?_
      refine ok (m_goto (q := 4) rfl rfl rfl) ?_
      exact hp d hd _ hr
abbrev P_X11_bookOf : Nat → Option am_E := am_fy tb_X11_bookOf
def K_X11_bookOf_10 (n : Nat) (A : aA) (D : aD) (a1 : Int) (a2 : Int) (x : Option Nat) (D' : aD) : Prop := Lp n 4 P_X11_bookOf 10 [some (am_r (some 32)), some (am_i (wz a1)), some (am_i (wz a2))] [] A D (rr x) A D'
set_option maxRecDepth 100000 in
theorem rl_X11_bookOf {n : Nat} {A : aA} {D D' : aD} (a1 : Int) (h1 : rg a1) {x : Option Nat} (hp : K_X11_bookOf_10 (n) A D a1 (wr ((D 1002 4) - 1)) x D') : Ev (n) (5) 113 [am_r (some 32), am_i (wz a1)] A D (rr x) A D' := by
  refine Ev_of (c := 4) (P := P_X11_bookOf) (lo := [some (am_r (some 32)), some (am_i (wz a1)), none]) rfl rfl rfl (fun d hd s hr => ?_)
  refine ok (m_aload_n (q := 1) rfl rfl rfl rfl) ?_
  have f_1 := Rp_fx0_4 hr
  refine ok (m_gfy (q := 4) rfl rfl rfl hr rfl rfl rfl) ?_
  refine oke (e_ci (x_cv (q := 7) rfl rfl rfl rfl rfl rfl rfl rfl rfl rfl (is_ty hr rfl f_1)) (ev_size 4 f_1) (Nat.le_trans (by decide) hd) hr) (fun s2 r3 => ?_)
  refine ok (m_iconst (q := 8) rfl rfl rfl) ?_
  refine ok (m_isub (q := 9) rfl rfl rfl) ?_
  refine ok (m_istore_n (q := 10) (lo' := [some (am_r (some 32)), some (am_i (wz a1)), some (am_i (wz (wr ((D 1002 4) - 1))))]) rfl rfl rfl rfl rfl) ?_
  exact hp d hd _ r3
set_option maxRecDepth 100000 in
theorem rl_X11_bookOf_10 {n : Nat} {A : aA} {D D' : aD} (a1 : Int) (a2 : Int) (h1 : rg a1) (h2 : rg a2) {x : Option Nat} (hp : (if a2 < 0 then (x = some (A 14 8) ∧ D' = D) else (0 ≤ a2 ∧ a2 < D 1002 4) ∧ (if a1 < D 2401 a2 then K_X11_bookOf_10 (n) A D a1 (wr (a2 + (-1))) x D' else (x = some (A 14 a2) ∧ D' = D)))) : K_X11_bookOf_10 (n) A D a1 a2 x D' := by
  unfold K_X11_bookOf_10
  refine fun d hd s hr => ?_
  refine ok (m_iload_n (q := 11) rfl rfl rfl rfl) ?_
  refine okc (m_iflt (qt := 50) (qf := 14) rfl rfl h2 rfl rfl) (fun c4 => ?_) (fun c4 => ?_)
  · replace hp := ip c4 hp
    refine ok (m_aload_n (q := 51) rfl rfl rfl rfl) ?_
    have f_5 := Rp_fx14_8 hr
    refine ok (m_gfy (q := 54) rfl rfl rfl hr rfl rfl rfl) ?_
    exact ok (m_retr rfl rfl) (ok_rq hr hp)
  · replace hp := iq c4 hp
    refine ok (m_aload_n (q := 15) rfl rfl rfl rfl) ?_
    have f_6 := Rp_fx0_4 hr
    refine ok (m_gfy (q := 18) rfl rfl rfl hr rfl rfl rfl) ?_
    refine ok (m_iload_n (q := 19) rfl rfl rfl rfl) ?_
    obtain ⟨g9, hp⟩ := hp
    have f_10 := Rp_el4 (D := D) hr g9
    refine oke (e_cr (x_cv (q := 22) rfl rfl rfl rfl rfl rfl rfl rfl rfl rfl (is_ty hr rfl f_6)) (ev_get4 a2 g9) (Nat.le_trans (by decide) hd) hr) (fun s7 r8 => ?_)
    refine ok (m_cast (q := 25) rfl rfl rfl (isN_ty r8 rfl f_10)) ?_
    refine ok (m_gft (t := 14) (q := 28) rfl rfl rfl r8 rfl f_10 rfl rfl rfl) ?_
    refine ok (m_iload_n (q := 29) rfl rfl rfl rfl) ?_
    refine okc (m_cmpgt (qt := 44) (qf := 32) rfl rfl (show rg (D 2401 a2) from Rp_rg r8 2401 a2) h1 rfl rfl) (fun c11 => ?_) (fun c11 => ?_)
    · replace hp := ip c11 hp
      refine ok (m_iinc (q := 47) (lo' := [some (am_r (some 32)), some (am_i (wz a1)), some (am_i (wz (wr (a2 + (-1)))))]) rfl rfl rfl rfl rfl rfl rfl) ?_
      refine ok (m_goto (q := 10) rfl rfl rfl) ?_
      exact hp d hd _ r8
    · replace hp := iq c11 hp
      refine ok (m_aload_n (q := 33) rfl rfl rfl rfl) ?_
      have f_12 := Rp_fx0_4 r8
      refine ok (m_gfy (q := 36) rfl rfl rfl r8 rfl rfl rfl) ?_
      refine ok (m_iload_n (q := 37) rfl rfl rfl rfl) ?_
      have f_15 := Rp_el4 (D := D) r8 g9
      refine oke (e_cr (x_cv (q := 40) rfl rfl rfl rfl rfl rfl rfl rfl rfl rfl (is_ty r8 rfl f_12)) (ev_get4 a2 g9) (Nat.le_trans (by decide) hd) r8) (fun s13 r14 => ?_)
      refine ok (m_cast (q := 43) rfl rfl rfl (isN_ty r14 rfl f_15)) ?_
      exact ok (m_retr rfl rfl) (ok_rq r14 hp)
abbrev P_X12_last : Nat → Option am_E := am_fy tb_X12_last
def K_X12_last_9 (n : Nat) (A : aA) (D : aD) (a1 : Int) (a2 : Int) (a3 : Int) (a4 : Int) (a5 : Int) (x : Int) (D' : aD) : Prop := Lp n 0 P_X12_last 9 [some (am_r (some 70)), some (am_i (wz a1)), some (am_i (wz a2)), some (am_i (wz a3)), some (am_i (wz a4)), some (am_i (wz a5))] [] A D (ri x) A D'
set_option maxRecDepth 100000 in
theorem rl_X12_last {n : Nat} {A : aA} {D D' : aD} (a1 : Int) (a2 : Int) (a3 : Int) (h1 : rg a1) (h2 : rg a2) (h3 : rg a3) {x : Int} (hp : K_X12_last_9 (n) A D a1 a2 a3 (-1) (wr (30 * a1)) x D') : Ev (n) (1) 173 [am_r (some 70), am_i (wz a1), am_i (wz a2), am_i (wz a3)] A D (ri x) A D' := by
  refine Ev_of (c := 0) (P := P_X12_last) (lo := [some (am_r (some 70)), some (am_i (wz a1)), some (am_i (wz a2)), some (am_i (wz a3)), none, none]) rfl rfl rfl (fun d hd s hr => ?_)
  refine ok (m_iconst (q := 1) rfl rfl rfl) ?_
  refine ok (m_istore (q := 3) (lo' := [some (am_r (some 70)), some (am_i (wz a1)), some (am_i (wz a2)), some (am_i (wz a3)), some (am_i (wz (-1))), none]) rfl rfl rfl rfl rfl) ?_
  refine ok (m_bipush (q := 5) rfl rfl rfl) ?_
  refine ok (m_iload_n (q := 6) rfl rfl rfl rfl) ?_
  refine ok (m_imul (q := 7) rfl rfl rfl) ?_
  refine ok (m_istore (q := 9) (lo' := [some (am_r (some 70)), some (am_i (wz a1)), some (am_i (wz a2)), some (am_i (wz a3)), some (am_i (wz (-1))), some (am_i (wz (wr (30 * a1))))]) rfl rfl rfl rfl rfl) ?_
  exact hp d hd _ hr
set_option maxRecDepth 100000 in
theorem rl_X12_last_9 {n : Nat} {A : aA} {D D' : aD} (a1 : Int) (a2 : Int) (a3 : Int) (a4 : Int) (a5 : Int) (h1 : rg a1) (h2 : rg a2) (h3 : rg a3) (h4 : rg a4) (h5 : rg a5) {x : Int} (hp : (if a1 = (-1) then (x = a4 ∧ D' = D) else (0 ≤ a1 ∧ a1 < 9) ∧ (if wr ((wr (30 * a1)) + (D 92 a1)) ≤ a5 then (x = a4 ∧ D' = D) else (0 ≤ a5 ∧ a5 < 270) ∧ (if D 94 a5 = a2 then (if D 95 a5 = a3 then K_X12_last_9 (n) A D a1 a2 a3 a5 (wr (a5 + 1)) x D' else K_X12_last_9 (n) A D a1 a2 a3 a4 (wr (a5 + 1)) x D') else K_X12_last_9 (n) A D a1 a2 a3 a4 (wr (a5 + 1)) x D')))) : K_X12_last_9 (n) A D a1 a2 a3 a4 a5 x D' := by
  unfold K_X12_last_9
  refine fun d hd s hr => ?_
  refine ok (m_iload_n (q := 10) rfl rfl rfl rfl) ?_
  refine ok (m_iconst (q := 11) rfl rfl rfl) ?_
  refine okc (m_cmpeq (qt := 62) (qf := 14) rfl rfl h1 ⟨by decide, by decide⟩ rfl rfl) (fun c1 => ?_) (fun c1 => ?_)
  · replace hp := ip c1 hp
    refine ok (m_iload (q := 64) rfl rfl rfl rfl) ?_
    exact ok (m_reti rfl rfl) (ok_iq hr h4 hp)
  · replace hp := iq c1 hp
    refine ok (m_iload (q := 16) rfl rfl rfl rfl) ?_
    refine ok (m_bipush (q := 18) rfl rfl rfl) ?_
    refine ok (m_iload_n (q := 19) rfl rfl rfl rfl) ?_
    refine ok (m_imul (q := 20) rfl rfl rfl) ?_
    refine ok (m_aload_n (q := 21) rfl rfl rfl rfl) ?_
    refine ok (m_gfc (q := 24) rfl rfl rfl hr rfl rfl rfl) ?_
    refine ok (m_iload_n (q := 25) rfl rfl rfl rfl) ?_
    obtain ⟨g2, hp⟩ := hp
    refine ok (m_ials (q := 26) rfl rfl rfl hr rfl rfl g2 rfl) ?_
    refine ok (m_iadd (q := 27) rfl rfl rfl) ?_
    refine okc (m_cmpge (qt := 62) (qf := 30) rfl rfl h5 (rg_wr _) rfl rfl) (fun c3 => ?_) (fun c3 => ?_)
    · replace hp := ip c3 hp
      refine ok (m_iload (q := 64) rfl rfl rfl rfl) ?_
      exact ok (m_reti rfl rfl) (ok_iq hr h4 hp)
    · replace hp := iq c3 hp
      refine ok (m_aload_n (q := 31) rfl rfl rfl rfl) ?_
      refine ok (m_gfc (q := 34) rfl rfl rfl hr rfl rfl rfl) ?_
      refine ok (m_iload (q := 36) rfl rfl rfl rfl) ?_
      obtain ⟨g4, hp⟩ := hp
      refine ok (m_ials (q := 37) rfl rfl rfl hr rfl rfl g4 rfl) ?_
      refine ok (m_iload_n (q := 38) rfl rfl rfl rfl) ?_
      refine okc (m_cmpne (qt := 56) (qf := 41) rfl rfl (Rp_rg hr 94 a5) h2 rfl rfl) (fun c5 => ?_) (fun c5 => ?_)
      · replace hp := ip c5 hp
        refine ok (m_aload_n (q := 42) rfl rfl rfl rfl) ?_
        refine ok (m_gfc (q := 45) rfl rfl rfl hr rfl rfl rfl) ?_
        refine ok (m_iload (q := 47) rfl rfl rfl rfl) ?_
        refine ok (m_ials (q := 48) rfl rfl rfl hr rfl rfl g4 rfl) ?_
        refine ok (m_iload_n (q := 49) rfl rfl rfl rfl) ?_
        refine okc (m_cmpne (qt := 56) (qf := 52) rfl rfl (Rp_rg hr 95 a5) h3 rfl rfl) (fun c6 => ?_) (fun c6 => ?_)
        · replace hp := ip c6 hp
          refine ok (m_iload (q := 54) rfl rfl rfl rfl) ?_
          refine ok (m_istore (q := 56) (lo' := [some (am_r (some 70)), some (am_i (wz a1)), some (am_i (wz a2)), some (am_i (wz a3)), some (am_i (wz a5)), some (am_i (wz a5))]) rfl rfl rfl rfl rfl) ?_
          refine ok (m_iinc (q := 59) (lo' := [some (am_r (some 70)), some (am_i (wz a1)), some (am_i (wz a2)), some (am_i (wz a3)), some (am_i (wz a5)), some (am_i (wz (wr (a5 + 1))))]) rfl rfl rfl rfl rfl rfl rfl) ?_
          refine ok (m_goto (q := 9) rfl rfl rfl) ?_
          exact hp d hd _ hr
        · replace hp := iq c6 hp
          refine ok (m_iinc (q := 59) (lo' := [some (am_r (some 70)), some (am_i (wz a1)), some (am_i (wz a2)), some (am_i (wz a3)), some (am_i (wz a4)), some (am_i (wz (wr (a5 + 1))))]) rfl rfl rfl rfl rfl rfl rfl) ?_
          refine ok (m_goto (q := 9) rfl rfl rfl) ?_
          exact hp d hd _ hr
      · replace hp := iq c5 hp
        refine ok (m_iinc (q := 59) (lo' := [some (am_r (some 70)), some (am_i (wz a1)), some (am_i (wz a2)), some (am_i (wz a3)), some (am_i (wz a4)), some (am_i (wz (wr (a5 + 1))))]) rfl rfl rfl rfl rfl rfl rfl) ?_
        refine ok (m_goto (q := 9) rfl rfl rfl) ?_
        exact hp d hd _ hr
def p_inv1 (D : aD) (_ : Int) : Prop := I_rb D
theorem ev_X12_inForce (day : Int) (h1 : rg day) (hp : p_inv1 D day) : Ev n 1 172 [am_r (some 70), am_i (wz day)] A D (ri (w_inForce D day)) A D := by
  have hc := hp.1
  refine rl_X12_inForce day h1 ?_
  refine dn_ind (K := fun j => K_X12_inForce_4 n A D day (foi (fun b r => if D 93 r ≤ day then r else b) (-1) j) j (w_inForce D day) D) (lo := 0) (N := D 70 26) ?_ ?_ 0 (by omega) (by omega)
  · have hb := inForce_b (D := D) (d := day)
    refine rl_X12_inForce_4 _ _ _ h1 (rgb (by unfold w_inForce at hb; omega) (by unfold w_inForce at hb; omega)) (rgb (by omega) (by omega)) ?_
    rw [if_pos (Int.le_refl _)]; exact ⟨rfl, rfl⟩
  · intro j j0 j1 ih
    have hb := foi_ind (f := fun b r => if D 93 r ≤ day then r else b) (b := (-1 : Int)) (Q := fun j x => -1 ≤ x ∧ x < j ∨ x = -1) (Or.inr rfl) (N := j) (fun j x j0 j1 q => by split <;> omega) j j0 (Int.le_refl _)
    rw [foi_s j0] at ih
    generalize foi (fun b r => if D 93 r ≤ day then r else b) (-1) j = b at *
    refine rl_X12_inForce_4 _ _ _ h1 (rgb (by omega) (by omega)) (rgb (by omega) (by omega)) ?_
    rw [if_neg (by omega), wr1 j0 j1 (by omega)]
    refine ⟨⟨by omega, by omega⟩, ?_⟩
    by_cases c : D 93 j ≤ day
    · rw [if_pos c] at ih; rw [if_neg (by omega)]; exact ih
    · rw [if_neg c] at ih; rw [if_pos (by omega)]; exact ih
def w_bookOf (D : aD) (day : Int) : Int := bk (w_inForce D day)
theorem ev_X11_bookOf (day : Int) (h1 : rg day) (hp : p_inv1 D day) : Ev n 5 113 [am_r (some 32), am_i (wz day)] A D (rr (some (A 14 (w_bookOf D day)))) A D := by
  have hc := hp.1
  refine rl_X11_bookOf day h1 ?_
  have key : ∀ m : Nat, (m : Int) ≤ D 70 26 → K_X11_bookOf_10 n A D day ((m : Int) - 1) (some (A 14 (bk (foi (fun b r => if D 93 r ≤ day then r else b) (-1) m)))) D := by
    intro m
    induction m with
    | zero =>
      intro _
      refine rl_X11_bookOf_10 _ _ h1 (rgb (by omega) (by omega)) ?_
      rw [if_pos (by omega)]; exact ⟨rfl, rfl⟩
    | succ m ih =>
      intro hm
      have i1 := ih (by omega)
      have hr := (hp.2.2.1 (m : Int) (by omega) (by omega)).1
      rw [show ((m + 1 : Nat) : Int) - 1 = (m : Int) by omega, show ((m + 1 : Nat) : Int) = (m : Int) + 1 by omega, foi_s (by omega)]
      refine rl_X11_bookOf_10 _ _ h1 (rgb (by omega) (by omega)) ?_
      rw [if_neg (by omega), hr.2.1, wr_id (by omega) (by omega)]
      refine ⟨⟨by omega, by omega⟩, ?_⟩
      by_cases c : D 93 m ≤ day
      · rw [if_neg (by omega), if_pos c]
        refine ⟨?_, rfl⟩
        unfold bk; rw [if_neg (by omega)]
      · rw [if_pos (by omega), if_neg c]; exact i1
  have := key (D 70 26).toNat (by omega)
  rw [Int.toNat_of_nonneg hc.2.1] at this
  rw [hc.1, wr_id (by omega) (by omega)]; exact this
theorem fg_bookOf {s' : am_S} (day : Int) (_ : rg day) (hp : p_inv1 D day) (hr : Rp n A D s') : D 914 (w_bookOf D day) = 1 := by
  have hc := hp.1
  have hb := inForce_b (D := D) (d := day)
  unfold w_bookOf bk
  split
  · exact Rp_fx14_8 hr
  · exact Rp_el4 hr ⟨by omega, by omega⟩
theorem lk_b {r what which : Int} : ∀ j, 0 ≤ j → j ≤ D 92 r → -1 ≤ r → (foi (fun b j => if D 94 (30 * r + j) = what ∧ D 95 (30 * r + j) = which then 30 * r + j else b) (-1) j = -1) ∨ (30 * r ≤ foi (fun b j => if D 94 (30 * r + j) = what ∧ D 95 (30 * r + j) = which then 30 * r + j else b) (-1) j ∧ foi (fun b j => if D 94 (30 * r + j) = what ∧ D 95 (30 * r + j) = which then 30 * r + j else b) (-1) j < 30 * r + j ∧ D 94 (foi (fun b j => if D 94 (30 * r + j) = what ∧ D 95 (30 * r + j) = which then 30 * r + j else b) (-1) j) = what ∧ D 95 (foi (fun b j => if D 94 (30 * r + j) = what ∧ D 95 (30 * r + j) = which then 30 * r + j else b) (-1) j) = which) := by
  intro j h0 h1 h2
  exact foi_ind (f := fun b j => if D 94 (30 * r + j) = what ∧ D 95 (30 * r + j) = which then 30 * r + j else b) (b := (-1 : Int)) (Q := fun j x => x = -1 ∨ (30 * r ≤ x ∧ x < 30 * r + j ∧ D 94 x = what ∧ D 95 x = which)) (Or.inl rfl) (N := D 92 r) (fun j x j0 j1 q => by
    split
    · rename_i c; exact Or.inr ⟨by omega, by omega, c.1, c.2⟩
    · rcases q with q | q
      · exact Or.inl q
      · exact Or.inr ⟨q.1, by omega, q.2.2⟩) j h0 h1
def p_last (D : aD) (r _ _ : Int) : Prop := I_rb D ∧ -1 ≤ r ∧ r < D 70 26
theorem ev_X12_last (r what which : Int) (h1 : rg r) (h2 : rg what) (h3 : rg which) (hp : p_last D r what which) : Ev n 1 173 [am_r (some 70), am_i (wz r), am_i (wz what), am_i (wz which)] A D (ri (w_last D r what which)) A D := by
  obtain ⟨hI, r0, r1⟩ := hp
  have hc := hI.1
  refine rl_X12_last r what which h1 h2 h3 ?_
  rw [wr_id (by omega) (by omega)]
  by_cases c0 : r = -1
  · refine rl_X12_last_9 _ _ _ _ _ h1 h2 h3 (rgb (by omega) (by omega)) (rgb (by omega) (by omega)) ?_
    rw [if_pos c0]; unfold w_last; rw [if_pos c0]; exact ⟨rfl, rfl⟩
  have hB := (hI.2.2.1 r (by omega) r1).2.2.2.1
  have e : w_last D r what which = lk D r what which := if_neg c0
  rw [e]
  have K := dn_ind (K := fun j => K_X12_last_9 n A D r what which (foi (fun b j => if D 94 (30 * r + j) = what ∧ D 95 (30 * r + j) = which then 30 * r + j else b) (-1) j) (30 * r + j) (lk D r what which) D) (lo := 0) (N := D 92 r) ?_ ?_ 0 (by omega) (by omega)
  · rw [Int.add_zero] at K; exact K
  · have hb := lk_b (D := D) (r := r) (what := what) (which := which) (D 92 r) hB.1 (Int.le_refl _) r0
    refine rl_X12_last_9 _ _ _ _ _ h1 h2 h3 (rgb (by omega) (by omega)) (rgb (by omega) (by omega)) ?_
    rw [if_neg c0]
    refine ⟨⟨by omega, by omega⟩, ?_⟩
    rw [wr_id (z := 30 * r) (by omega) (by omega), wr_id (by omega) (by omega), if_pos (Int.le_refl _)]; exact ⟨rfl, rfl⟩
  · intro j j0 j1 ih
    have hb := lk_b (D := D) (r := r) (what := what) (which := which) j j0 (by omega) r0
    rw [foi_s j0] at ih
    generalize foi (fun b j => if D 94 (30 * r + j) = what ∧ D 95 (30 * r + j) = which then 30 * r + j else b) (-1) j = b at *
    refine rl_X12_last_9 _ _ _ _ _ h1 h2 h3 (rgb (by omega) (by omega)) (rgb (by omega) (by omega)) ?_
    rw [if_neg c0]
    refine ⟨⟨by omega, by omega⟩, ?_⟩
    rw [wr_id (z := 30 * r) (by omega) (by omega), wr_id (z := 30 * r + D 92 r) (by omega) (by omega), if_neg (by omega), wr_id (z := 30 * r + j + 1) (by omega) (by omega), Int.add_assoc]
    refine ⟨⟨by omega, by omega⟩, ?_⟩
    by_cases c1 : D 94 (30 * r + j) = what
    · rw [if_pos c1]
      by_cases c2 : D 95 (30 * r + j) = which
      · rw [if_pos c2]; rw [if_pos ⟨c1, c2⟩] at ih; exact ih
      · rw [if_neg c2]; rw [if_neg (fun q => c2 q.2)] at ih; exact ih
    · rw [if_neg c1]; rw [if_neg (fun q => c1 q.1)] at ih; exact ih
abbrev P_X12_tells : Nat → Option am_E := am_fy tb_X12_tells
def v_X12_tells (D : aD) (a1 : Int) (a2 : Int) (a3 : Int) (a4 : Int) : Int := if w_last D (w_inForce D a1) a2 a3 = (-1) then a4 else D 96 (w_last D (w_inForce D a1) a2 a3)
def p_X12_tells (D : aD) (a1 : Int) (a2 : Int) (a3 : Int) (a4 : Int) : Prop := (p_inv1 D a1) ∧ (p_last D (w_inForce D a1) a2 a3) ∧ (if w_last D (w_inForce D a1) a2 a3 = (-1) then True else (0 ≤ w_last D (w_inForce D a1) a2 a3 ∧ w_last D (w_inForce D a1) a2 a3 < 270))
set_option maxRecDepth 100000 in
theorem ev_X12_tells {n : Nat} {A : aA} {D : aD} (a1 : Int) (a2 : Int) (a3 : Int) (a4 : Int) (h1 : rg a1) (h2 : rg a2) (h3 : rg a3) (h4 : rg a4) (hp : p_X12_tells D a1 a2 a3 a4) : Ev (n) 2 174 [am_r (some 70), am_i (wz a1), am_i (wz a2), am_i (wz a3), am_i (wz a4)] A D (ri (v_X12_tells D a1 a2 a3 a4)) A D := by
  unfold p_X12_tells at hp
  unfold v_X12_tells
  refine Ev_of (c := 1) (P := P_X12_tells) (lo := [some (am_r (some 70)), some (am_i (wz a1)), some (am_i (wz a2)), some (am_i (wz a3)), some (am_i (wz a4)), none]) rfl rfl rfl (fun d hd s hr => ?_)
  refine ok (m_aload_n (q := 1) rfl rfl rfl rfl) ?_
  refine ok (m_aload_n (q := 2) rfl rfl rfl rfl) ?_
  refine ok (m_iload_n (q := 3) rfl rfl rfl rfl) ?_
  obtain ⟨g3, hp⟩ := hp
  refine oke (e_ci (x_cv (q := 6) rfl rfl rfl rfl rfl rfl rfl rfl rfl rfl (is_st hr rfl rfl)) (ev_X12_inForce (D := D) a1 h1 g3) (Nat.le_trans (by decide) hd) hr) (fun s1 r2 => ?_)
  refine ok (m_iload_n (q := 7) rfl rfl rfl rfl) ?_
  refine ok (m_iload_n (q := 8) rfl rfl rfl rfl) ?_
  obtain ⟨g6, hp⟩ := hp
  refine oke (e_ci (x_cv (q := 11) rfl rfl rfl rfl rfl rfl rfl rfl rfl rfl (is_st r2 rfl rfl)) (ev_X12_last (D := D) (w_inForce D a1) a2 a3 (Ev_rg (ev_X12_inForce (D := D) a1 h1 g3) hr) h2 h3 g6) (Nat.le_trans (by decide) hd) r2) (fun s4 r5 => ?_)
  refine ok (m_istore (q := 13) (lo' := [some (am_r (some 70)), some (am_i (wz a1)), some (am_i (wz a2)), some (am_i (wz a3)), some (am_i (wz a4)), some (am_i (wz (w_last D (w_inForce D a1) a2 a3)))]) rfl rfl rfl rfl rfl) ?_
  refine ok (m_iload (q := 15) rfl rfl rfl rfl) ?_
  refine ok (m_iconst (q := 16) rfl rfl rfl) ?_
  refine okp (m_cmpne (qt := 24) (qf := 19) rfl rfl (Ev_rg (ev_X12_last (D := D) (w_inForce D a1) a2 a3 (Ev_rg (ev_X12_inForce (D := D) a1 h1 g3) hr) h2 h3 g6) r2) ⟨by decide, by decide⟩ rfl rfl) (fun c7 => ?_) (fun c7 => ?_)
  · refine ok (m_iload (q := 21) rfl rfl rfl rfl) ?_
    refine ok (m_goto (q := 31) rfl rfl rfl) ?_
    exact ok (m_reti rfl rfl) (ok_i r5 h4)
  · replace hp := iq c7 hp
    refine ok (m_aload_n (q := 25) rfl rfl rfl rfl) ?_
    refine ok (m_gfc (q := 28) rfl rfl rfl r5 rfl rfl rfl) ?_
    refine ok (m_iload (q := 30) rfl rfl rfl rfl) ?_
    have g8 := hp
    refine ok (m_ials (q := 31) rfl rfl rfl r5 rfl rfl g8 rfl) ?_
    exact ok (m_reti rfl rfl) (ok_i r5 (Rp_rg r5 96 (w_last D (w_inForce D a1) a2 a3)))
end Rb_
