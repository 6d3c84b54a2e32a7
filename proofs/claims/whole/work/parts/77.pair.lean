/-! The dealing: the class. -/
section Pa
variable {n : Nat} {A A' : aA} {D D' E F : aD} {d : Nat} {s : am_S}
abbrev P_X2_pair : Nat → Option am_E := am_fy tb_X2_pair
def K_X2_pair_16 (n : Nat) (A : aA) (D : aD) (a1 : Int) (a2 : Int) (D' : aD) : Prop := Lp n 3 P_X2_pair 16 [some (am_r (some 53)), some (am_i (wz a1)), some (am_i (wz a2)), none] [] A D rv A D'
def K_X2_pair_31 (n : Nat) (A : aA) (D : aD) (a1 : Int) (a2 : Int) (a3 : Int) (D' : aD) : Prop := Lp n 3 P_X2_pair 31 [some (am_r (some 53)), some (am_i (wz a1)), some (am_i (wz a2)), some (am_i (wz a3))] [] A D rv A D'
set_option maxRecDepth 100000 in
theorem rl_X2_pair {n : Nat} {A : aA} {D D' : aD} (hp : K_X2_pair_16 (n + 1) A (fil (u_X2_forgetPairing D) 60 24 0) 1 0 D') : Ev (n + 1) (4) 16 [am_r (some 53)] A D rv A D' := by
  refine Ev_of (c := 3) (P := P_X2_pair) (lo := [some (am_r (some 53)), none, none, none]) rfl rfl rfl (fun d hd s hr => ?_)
  refine ok (m_aload_n (q := 1) rfl rfl rfl rfl) ?_
  refine oke (e_cvd (x_cv (q := 4) rfl rfl rfl rfl rfl rfl rfl rfl rfl rfl (is_st hr rfl rfl)) (ev_X2_forgetPairing (D := D)) (Nat.le_trans (by decide) hd) hr) (fun s1 r2 => ?_)
  refine ok (m_aload_n (q := 5) rfl rfl rfl rfl) ?_
  refine ok (m_gfc (q := 8) rfl rfl rfl r2 rfl rfl rfl) ?_
  refine ok (m_iconst (q := 9) rfl rfl rfl) ?_
  refine oke (e_cvd (x_cs (q := 12) rfl rfl rfl rfl rfl rfl rfl rfl rfl) (ev_fill 60 0 rfl rfl ⟨by decide, by decide⟩) (Nat.le_trans (by decide) hd) r2) (fun s3 r4 => ?_)
  refine ok (m_iconst (q := 13) rfl rfl rfl) ?_
  refine ok (m_istore_n (q := 14) (lo' := [some (am_r (some 53)), some (am_i (wz 1)), none, none]) rfl rfl rfl rfl rfl) ?_
  refine ok (m_iconst (q := 15) rfl rfl rfl) ?_
  refine ok (m_istore_n (q := 16) (lo' := [some (am_r (some 53)), some (am_i (wz 1)), some (am_i (wz 0)), none]) rfl rfl rfl rfl rfl) ?_
  exact hp d hd _ r4
set_option maxRecDepth 100000 in
theorem rl_X2_pair_16 {n : Nat} {A : aA} {D D' : aD} (a1 : Int) (a2 : Int) (h1 : rg a1) (b1 : 0 ≤ a1 ∧ a1 ≤ 1) (h2 : rg a2) (hp : (if a1 = 0 then (D' = D) else (if 312 < a2 then (D' = D) else K_X2_pair_31 (n + 1) A D 0 a2 0 D'))) : K_X2_pair_16 (n + 1) A D a1 a2 D' := by
  unfold K_X2_pair_16
  refine fun d hd s hr => ?_
  refine ok (m_iload_n (q := 17) rfl rfl rfl rfl) ?_
  refine okc (m_ifeq (qt := 107) (qf := 20) rfl rfl h1 rfl rfl) (fun c5 => ?_) (fun c5 => ?_)
  · replace hp := ip c5 hp
    exact ok (m_retv rfl rfl) (ok_vq hr hp)
  · replace hp := iq c5 hp
    refine ok (m_iload_n (q := 21) rfl rfl rfl rfl) ?_
    refine ok (m_sipush (q := 24) rfl rfl rfl) ?_
    refine okc (m_cmpgt (qt := 107) (qf := 27) rfl rfl h2 ⟨by decide, by decide⟩ rfl rfl) (fun c6 => ?_) (fun c6 => ?_)
    · replace hp := ip c6 hp
      exact ok (m_retv rfl rfl) (ok_vq hr hp)
    · replace hp := iq c6 hp
      refine ok (m_iconst (q := 28) rfl rfl rfl) ?_
      refine ok (m_istore_n (q := 29) (lo' := [some (am_r (some 53)), some (am_i (wz 0)), some (am_i (wz a2)), none]) rfl rfl rfl rfl rfl) ?_
      refine ok (m_iconst (q := 30) rfl rfl rfl) ?_
      refine ok (m_istore_n (q := 31) (lo' := [some (am_r (some 53)), some (am_i (wz 0)), some (am_i (wz a2)), some (am_i (wz 0))]) rfl rfl rfl rfl rfl) ?_
      exact hp d hd _ hr
set_option maxRecDepth 100000 in
theorem rl_X2_pair_31 {n : Nat} {A : aA} {D D' : aD} (a1 : Int) (a2 : Int) (a3 : Int) (h1 : rg a1) (b1 : 0 ≤ a1 ∧ a1 ≤ 1) (h2 : rg a2) (h3 : rg a3) (hp : (if 24 ≤ a3 then K_X2_pair_16 (n + 1) A D a1 (wr (a2 + 1)) D' else (0 ≤ a3 ∧ a3 < 24) ∧ (if D 61 a3 = (-1) then (if D 55 a3 ≤ D 60 a3 then K_X2_pair_31 (n + 1) A D a1 a2 (wr (a3 + 1)) D' else (0 ≤ wr ((wr (a3 * 13)) + (D 60 a3)) ∧ wr ((wr (a3 * 13)) + (D 60 a3)) < 312) ∧ (p_X2_offer D a3 (D 54 (wr ((wr (a3 * 13)) + (D 60 a3))))) ∧ K_X2_pair_31 (n + 1) A (up (u_X2_offer D a3 (D 54 (wr ((wr (a3 * 13)) + (D 60 a3))))) 60 a3 (wr (((u_X2_offer D a3 (D 54 (wr ((wr (a3 * 13)) + (D 60 a3))))) 60 a3) + 1))) 1 a2 (wr (a3 + 1)) D') else K_X2_pair_31 (n + 1) A D a1 a2 (wr (a3 + 1)) D'))) : K_X2_pair_31 (n + 1) A D a1 a2 a3 D' := by
  unfold K_X2_pair_31
  refine fun d hd s hr => ?_
  refine ok (m_iload_n (q := 32) rfl rfl rfl rfl) ?_
  refine ok (m_bipush (q := 34) rfl rfl rfl) ?_
  refine okc (m_cmpge (qt := 101) (qf := 37) rfl rfl h3 ⟨by decide, by decide⟩ rfl rfl) (fun c7 => ?_) (fun c7 => ?_)
  · replace hp := ip c7 hp
    refine ok (m_iinc (q := 104) (lo' := [some (am_r (some 53)), some (am_i (wz a1)), some (am_i (wz (wr (a2 + 1)))), some (am_i (wz a3))]) rfl rfl rfl rfl rfl rfl rfl) ?_
    refine ok (m_goto (q := 16) rfl rfl rfl) ?_
    refine ok (mk rfl (lo' := [some (am_r (some 53)), some (am_i (wz a1)), some (am_i (wz (wr (a2 + 1)))), none]) rfl) ?_
    exact hp d hd _ hr
  · replace hp := iq c7 hp
    refine ok (m_aload_n (q := 38) rfl rfl rfl rfl) ?_
    refine ok (m_gfc (q := 41) rfl rfl rfl hr rfl rfl rfl) ?_
    refine ok (m_iload_n (q := 42) rfl rfl rfl rfl) ?_
    obtain ⟨g8, hp⟩ := hp
    refine ok (m_ials (q := 43) rfl rfl rfl hr rfl rfl g8 rfl) ?_
    refine ok (m_iconst (q := 44) rfl rfl rfl) ?_
    refine okc (m_cmpne (qt := 95) (qf := 47) rfl rfl (Rp_rg hr 61 a3) ⟨by decide, by decide⟩ rfl rfl) (fun c9 => ?_) (fun c9 => ?_)
    · replace hp := ip c9 hp
      refine ok (m_aload_n (q := 48) rfl rfl rfl rfl) ?_
      refine ok (m_gfc (q := 51) rfl rfl rfl hr rfl rfl rfl) ?_
      refine ok (m_iload_n (q := 52) rfl rfl rfl rfl) ?_
      refine ok (m_ials (q := 53) rfl rfl rfl hr rfl rfl g8 rfl) ?_
      refine ok (m_aload_n (q := 54) rfl rfl rfl rfl) ?_
      refine ok (m_gfc (q := 57) rfl rfl rfl hr rfl rfl rfl) ?_
      refine ok (m_iload_n (q := 58) rfl rfl rfl rfl) ?_
      refine ok (m_ials (q := 59) rfl rfl rfl hr rfl rfl g8 rfl) ?_
      refine okc (m_cmpge (qt := 95) (qf := 62) rfl rfl (Rp_rg hr 60 a3) (Rp_rg hr 55 a3) rfl rfl) (fun c10 => ?_) (fun c10 => ?_)
      · replace hp := ip c10 hp
        refine ok (m_iinc (q := 98) (lo' := [some (am_r (some 53)), some (am_i (wz a1)), some (am_i (wz a2)), some (am_i (wz (wr (a3 + 1))))]) rfl rfl rfl rfl rfl rfl rfl) ?_
        refine ok (m_goto (q := 31) rfl rfl rfl) ?_
        exact hp d hd _ hr
      · replace hp := iq c10 hp
        refine ok (m_aload_n (q := 63) rfl rfl rfl rfl) ?_
        refine ok (m_iload_n (q := 64) rfl rfl rfl rfl) ?_
        refine ok (m_aload_n (q := 65) rfl rfl rfl rfl) ?_
        refine ok (m_gfc (q := 68) rfl rfl rfl hr rfl rfl rfl) ?_
        refine ok (m_iload_n (q := 69) rfl rfl rfl rfl) ?_
        refine ok (m_bipush (q := 71) rfl rfl rfl) ?_
        refine ok (m_imul (q := 72) rfl rfl rfl) ?_
        refine ok (m_aload_n (q := 73) rfl rfl rfl rfl) ?_
        refine ok (m_gfc (q := 76) rfl rfl rfl hr rfl rfl rfl) ?_
        refine ok (m_iload_n (q := 77) rfl rfl rfl rfl) ?_
        refine ok (m_ials (q := 78) rfl rfl rfl hr rfl rfl g8 rfl) ?_
        refine ok (m_iadd (q := 79) rfl rfl rfl) ?_
        obtain ⟨g11, hp⟩ := hp
        refine ok (m_ials (q := 80) rfl rfl rfl hr rfl rfl g11 rfl) ?_
        obtain ⟨g14, hp⟩ := hp
        refine oke (e_cvd (x_cv (q := 83) rfl rfl rfl rfl rfl rfl rfl rfl rfl rfl (is_st hr rfl rfl)) (ev_X2_offer (D := D) a3 (D 54 (wr ((wr (a3 * 13)) + (D 60 a3)))) h3 (Rp_rg hr 54 (wr ((wr (a3 * 13)) + (D 60 a3)))) g14) (Nat.le_trans (by decide) hd) hr) (fun s12 r13 => ?_)
        refine ok (m_aload_n (q := 84) rfl rfl rfl rfl) ?_
        refine ok (m_gfc (q := 87) rfl rfl rfl r13 rfl rfl rfl) ?_
        refine ok (m_iload_n (q := 88) rfl rfl rfl rfl) ?_
        refine ok (m_dup2 (q := 89) rfl rfl rfl rfl rfl) ?_
        refine ok (m_ials (q := 90) rfl rfl rfl r13 rfl rfl g8 rfl) ?_
        refine ok (m_iconst (q := 91) rfl rfl rfl) ?_
        refine ok (m_iadd (q := 92) rfl rfl rfl) ?_
        refine oke (e_ias (q := 93) rfl rfl rfl r13 rfl rfl g8 (rg_wr _)) (fun s16 r15 => ?_)
        refine ok (m_iconst (q := 94) rfl rfl rfl) ?_
        refine ok (m_istore_n (q := 95) (lo' := [some (am_r (some 53)), some (am_i (wz 1)), some (am_i (wz a2)), some (am_i (wz a3))]) rfl rfl rfl rfl rfl) ?_
        refine ok (m_iinc (q := 98) (lo' := [some (am_r (some 53)), some (am_i (wz 1)), some (am_i (wz a2)), some (am_i (wz (wr (a3 + 1))))]) rfl rfl rfl rfl rfl rfl rfl) ?_
        refine ok (m_goto (q := 31) rfl rfl rfl) ?_
        exact hp d hd _ r15
    · replace hp := iq c9 hp
      refine ok (m_iinc (q := 98) (lo' := [some (am_r (some 53)), some (am_i (wz a1)), some (am_i (wz a2)), some (am_i (wz (wr (a3 + 1))))]) rfl rfl rfl rfl rfl rfl rfl) ?_
      refine ok (m_goto (q := 31) rfl rfl rfl) ?_
      exact hp d hd _ hr
abbrev rS (D : aD) (s p : Int) : Int := D 114 (30 * s + p)
abbrev gP (D : aD) (p s : Int) : Int := D 115 (24 * p + s)
theorem alw_b (hI : Inv D) {s p : Int} (h : alw D s p) : (0 ≤ s ∧ s < 24) ∧ (0 ≤ p ∧ p < 30) ∧ (1 ≤ D 114 (30 * s + p) ∧ D 114 (30 * s + p) ≤ D 3000 s ∧ D 114 (30 * s + p) ≤ 13 ∧ D 3001 (1024 * s + (D 114 (30 * s + p) - 1)) = p) ∧ 1 ≤ D 115 (24 * p + s) ∧ D 115 (24 * p + s) ≤ 13 ∧ D 3101 (1024 * p + (D 115 (24 * p + s) - 1)) = s := by
  have hc := hI.iv.ct; unfold I_ct at hc
  obtain ⟨h1, h2, _, _, h5, h6, _⟩ := h
  obtain ⟨a1, a2, _, a4⟩ := hI.iv.ws.1 s h1.1 h1.2
  obtain ⟨b1, b2, _, b4⟩ := hI.iv.ws.2 p h2.1 h2.2
  have x := a4 p h2.1 (by omega)
  have y := b4 s h1.1 (by omega)
  refine ⟨by omega, by omega, ?_, ?_⟩
  · rcases x with x | x <;> omega
  · rcases y with y | y <;> omega
theorem alw_H (hI : Inv D) : Hal (alw D) (rS D) (gP D) := by
  refine ⟨fun s p h => ⟨(alw_b hI h).1, (alw_b hI h).2.1⟩, fun s p p' h h' e => ?_, fun p s s' h h' e => ?_⟩
  · have a := (alw_b hI h).2.2.1.2.2.2
    have b := (alw_b hI h').2.2.1.2.2.2
    replace e : D 114 (30 * s + p) = D 114 (30 * s + p') := e
    rw [← e] at b; rw [← a, b]
  · have a := (alw_b hI h).2.2.2.2.2
    have b := (alw_b hI h').2.2.2.2.2
    replace e : D 115 (24 * p + s) = D 115 (24 * p + s') := e
    rw [← e] at b; rw [← a, b]
/-- of a pair that may be dealt: what the class's rows show -/
theorem PS_a (hI : Inv D) (hP : PP D E) {s p : Int} (h : alw D s p) : (0 ≤ E 56 (30 * s + p) ∧ E 56 (30 * s + p) < E 55 s) ∧ E 54 (13 * s + E 56 (30 * s + p)) = p ∧ E 57 (30 * s + p) = D 115 (24 * p + s) - 1 := by
  have b := alw_b hI h
  rcases (hP.2 s b.1.1 b.1.2).2.1 p b.2.1.1 b.2.1.2 with z | z
  · exact absurd ⟨h, b.2.2.1.2.2.1⟩ z.2.2
  · exact ⟨⟨z.2.1, z.2.2.1⟩, z.2.2.2.1, z.2.2.2.2⟩
theorem PS_n (hI : Inv D) (hP : PP D E) {s p : Int} (hs : 0 ≤ s ∧ s < 24) (hp : 0 ≤ p ∧ p < 30) : E 56 (30 * s + p) = -1 ↔ ¬ alw D s p := by
  rcases (hP.2 s hs.1 hs.2).2.1 p hp.1 hp.2 with z | z
  · exact ⟨fun _ q => z.2.2 ⟨q, (alw_b hI q).2.2.1.2.2.1⟩, fun _ => z.1⟩
  · exact ⟨fun q => by omega, fun q => absurd z.1.1 q⟩
theorem PS_o (hI : Inv D) (hP : PP D E) {s p p' : Int} (h : alw D s p) (h' : alw D s p') : E 56 (30 * s + p) < E 56 (30 * s + p') ↔ rS D s p < rS D s p' := by
  have b := alw_b hI h
  have b' := alw_b hI h'
  have e := PS_a hI hP h
  have e' := PS_a hI hP h'
  exact (hP.2 s b.1.1 b.1.2).2.2.2 p p' b.2.1.1 b.2.1.2 b'.2.1.1 b'.2.1.2 (by omega) (by omega)
abbrev asX (D E F : aD) (s p : Int) : Prop := alw D s p ∧ E 56 (30 * s + p) < F 60 s
def Jx (D E F : aD) : Prop := (∀ c, c ≠ 59 → c ≠ 60 → c ≠ 61 → F c = E c) ∧ Qd (alw D) (rS D) (gP D) (F 61) (F 59) (asX D E F) ∧ ∀ s, 0 ≤ s → s < 24 → 0 ≤ F 60 s ∧ F 60 s ≤ E 55 s
theorem offer_e (hI : Inv D) (hP : PP D E) (hJ : Jx D E F) {s : Int} (hs : 0 ≤ s ∧ s < 24) (hw : F 61 s = -1) (ht : F 60 s < E 55 s) : p_X2_offer F s (E 54 (13 * s + F 60 s)) ∧ Jx D E (up (u_X2_offer F s (E 54 (13 * s + F 60 s))) 60 s (F 60 s + 1)) ∧ u_X2_offer F s (E 54 (13 * s + F 60 s)) 60 = F 60 := by
  obtain ⟨J1, Q, J3⟩ := hJ
  have hc := hI.iv.ct; unfold I_ct at hc
  have t0 := J3 s hs.1 hs.2
  have z := (hP.2 s hs.1 hs.2).2.2.1 (F 60 s) t0.1 ht
  generalize E 54 (13 * s + F 60 s) = p at *
  have ha : alw D s p := Classical.not_not.mp (fun q => by have := (PS_n hI hP hs z.1).mpr q; omega)
  have hpO : ∀ o q, 0 ≤ o → o < 24 → 0 ≤ q → q < 30 → v_X2_pairOf F o q = 30 * o + q := fun o q a b c d => by
    unfold v_X2_pairOf; rw [wr_id (z := o * 30) (by omega) (by omega), wr_id (by omega) (by omega)]; omega
  have e57 : F 57 = E 57 := J1 57 (by decide) (by decide) (by decide)
  have hb : F 59 p = -1 ∨ (0 ≤ F 59 p ∧ F 59 p < 24 ∧ F 61 (F 59 p) = p) := Q.2.1 p z.1.1 z.1.2
  have hal : F 59 p ≠ -1 → alw D (F 59 p) p := fun q => by
    rcases hb with y | ⟨y1, y2, y3⟩
    · exact absurd y q
    · rcases Q.1 (F 59 p) y1 y2 with x | x
      · omega
      · rw [y3] at x; exact x.1
  have hlb : v_X2_placeLikesBetter F p s = 0 ↔ ¬ (F 59 p = -1 ∨ gP D p s < gP D p (F 59 p)) := by
    unfold v_X2_placeLikesBetter
    by_cases c : F 59 p = -1
    · rw [if_pos c]; exact ⟨fun q => by omega, fun q => absurd (Or.inl c) q⟩
    · rw [if_neg c]
      have y : 0 ≤ F 59 p ∧ F 59 p < 24 := by rcases hb with x | x; exact absurd x c; exact ⟨x.1, x.2.1⟩
      rw [hpO _ _ y.1 y.2 z.1.1 z.1.2, hpO _ _ hs.1 hs.2 z.1.1 z.1.2, e57, (PS_a hI hP (hal c)).2.2, (PS_a hI hP ha).2.2]
      by_cases k : D 115 (24 * p + F 59 p) - 1 ≤ D 115 (24 * p + s) - 1
      · rw [if_pos k]
        refine ⟨fun _ q => ?_, fun _ => rfl⟩
        rcases q with q | q
        · exact c q
        · replace q : D 115 (24 * p + s) < D 115 (24 * p + F 59 p) := q
          omega
      · rw [if_neg k]
        exact ⟨fun q => by omega, fun q => absurd (Or.inr (show D 115 (24 * p + s) < D 115 (24 * p + F 59 p) by omega)) q⟩
  have hpl : p_X2_placeLikesBetter F p s := by
    unfold p_X2_placeLikesBetter
    refine ⟨z.1, ?_⟩
    by_cases c : F 59 p = -1
    · rw [if_pos c]; trivial
    · rw [if_neg c]
      have y : 0 ≤ F 59 p ∧ F 59 p < 24 := by rcases hb with x | x; exact absurd x c; exact ⟨x.1, x.2.1⟩
      rw [hpO _ _ y.1 y.2 z.1.1 z.1.2, hpO _ _ hs.1 hs.2 z.1.1 z.1.2]
      omega
  have hu : (∀ c, c ≠ 59 → c ≠ 61 → u_X2_offer F s p c = F c) ∧ ((F 59 p = -1 ∨ gP D p s < gP D p (F 59 p)) → u_X2_offer F s p 61 s = p ∧ u_X2_offer F s p 59 p = s ∧ (∀ s', 0 ≤ s' → s' < 24 → s' ≠ s → u_X2_offer F s p 61 s' = if F 59 p ≠ -1 ∧ s' = F 59 p then -1 else F 61 s') ∧ ∀ p', 0 ≤ p' → p' < 30 → p' ≠ p → u_X2_offer F s p 59 p' = F 59 p') ∧ (¬ (F 59 p = -1 ∨ gP D p s < gP D p (F 59 p)) → u_X2_offer F s p = F) := by
    unfold u_X2_offer
    by_cases acc : F 59 p = -1 ∨ gP D p s < gP D p (F 59 p)
    · rw [if_neg (fun q => hlb.mp q acc)]
      by_cases c : F 59 p = -1
      · rw [if_pos c]
        refine ⟨fun c' a b => by rw [up_cf b, up_cf a], fun _ => ⟨up_eq, by rw [up_c (by decide), up_eq], fun s' _ _ sn => ?_, fun p' _ _ pn => by rw [up_c (by decide), up_i pn]⟩, fun q => absurd acc q⟩
        rw [up_i sn, up_c (by decide), if_neg (fun q => q.1 c)]
      · rw [if_neg c]
        refine ⟨fun c' a b => by rw [up_cf b, up_cf a, up_cf b], fun _ => ⟨up_eq, by rw [up_c (by decide), up_eq], fun s' _ _ sn => ?_, fun p' _ _ pn => by rw [up_c (by decide), up_i pn, up_c (by decide)]⟩, fun q => absurd acc q⟩
        rw [up_i sn, up_c (by decide)]
        by_cases k : s' = F 59 p
        · rw [if_pos ⟨c, k⟩, k, up_eq]
        · rw [if_neg (fun q => k q.2), up_i k]
    · rw [if_pos (hlb.mpr acc)]
      exact ⟨fun _ _ _ => rfl, fun q => absurd q acc, fun _ => rfl⟩
  obtain ⟨u1, u2, u3⟩ := hu
  refine ⟨?_, ⟨fun c a b e => ?_, ?_, fun s' a b => ?_⟩, u1 60 (by decide) (by decide)⟩
  · unfold p_X2_offer
    refine ⟨hpl, ?_⟩
    by_cases c : v_X2_placeLikesBetter F p s = 0
    · rw [if_pos c]; trivial
    · rw [if_neg c]
      refine ⟨z.1, ?_⟩
      by_cases k : F 59 p = -1
      · rw [if_pos k]; exact hs
      · rw [if_neg k]
        have y : 0 ≤ F 59 p ∧ F 59 p < 24 := by rcases hb with x | x; exact absurd x k; exact ⟨x.1, x.2.1⟩
        exact ⟨y, hs⟩
  · rw [up_cf b, u1 c a e]; exact J1 c a b e
  · rw [up_cf (show (61 : Nat) ≠ 60 by decide), up_cf (show (59 : Nat) ≠ 60 by decide)]
    refine Q_step (s0 := s) (p0 := p) (alw_H hI) Q ha hw (fun p' a b => ⟨a, ?_⟩) (fun q => by have := q.2; omega) (fun s' p' => ?_) u2 (fun q => by rw [u3 q]; exact ⟨fun _ _ _ => rfl, fun _ _ _ => rfl⟩)
    · have := (PS_o hI hP a ha).mpr b
      omega
    · show (alw D s' p' ∧ E 56 (30 * s' + p') < up (u_X2_offer F s p) 60 s (F 60 s + 1) 60 s') ↔ ((alw D s' p' ∧ E 56 (30 * s' + p') < F 60 s') ∨ (s' = s ∧ p' = p))
      by_cases k : s' = s
      · subst k
        rw [up_eq]
        constructor
        · rintro ⟨q1, q2⟩
          by_cases y : E 56 (30 * s' + p') < F 60 s'
          · exact Or.inl ⟨q1, y⟩
          · refine Or.inr ⟨rfl, ?_⟩
            have a1 := (PS_a hI hP q1).2.1
            have a2 := (PS_a hI hP ha).2.1
            rw [show E 56 (30 * s' + p') = E 56 (30 * s' + p) by omega] at a1
            rw [← a1, a2]
        · rintro (⟨q1, q2⟩ | ⟨_, rfl⟩)
          · exact ⟨q1, by omega⟩
          · exact ⟨ha, by omega⟩
      · rw [up_i k, u1 60 (by decide) (by decide)]
        exact ⟨fun q => Or.inl q, fun q => by rcases q with q | q; exact q; exact absurd q.1 k⟩
  · by_cases k : s' = s
    · rw [k, up_eq]; omega
    · rw [up_i k, u1 60 (by decide) (by decide)]; exact J3 s' a b
/-- what a pairing shows -/
def Pst (D : aD) (w : Int → Int) : Prop := ∃ h as, Qd (alw D) (rS D) (gP D) w h as ∧ Fin_ (alw D) w as
theorem C16 (hI : Inv D) (hP : PP D E) : ∀ (R : Nat) (a2 : Int) (F : aD), a2 + R = 313 → 0 ≤ a2 → Jx D E F → a2 ≤ sm (F 60) 24 → ∃ D', (∀ c, c ≠ 59 → c ≠ 60 → c ≠ 61 → D' c = E c) ∧ Pst D (D' 61) ∧ ∀ n A, K_X2_pair_16 (n + 1) A F 1 a2 D' := by
  have smb : ∀ F : aD, Jx D E F → sm (F 60) 24 ≤ 312 := fun F hJ => by
    have := (sm_b (f := F 60) (lo := 0) (hi := 13) (N := 24) (fun s a b => by have x := hJ.2.2 s a b; have y := (hP.2 s a b).1; omega) 24 (by omega) (by omega)).2
    omega
  intro R
  induction R with
  | zero =>
    intro a2 F hr a0 hJ hs
    have := smb F hJ; omega
  | succ R ih =>
    intro a2 F hr a0 hJ hs
    have inner : ∀ (q : Nat) (s off : Int) (G : aD), s + q = 24 → 0 ≤ s → Jx D E G → ((off = 0 ∧ (∀ s', 0 ≤ s' → s' < s → G 61 s' = -1 → E 55 s' ≤ G 60 s') ∧ a2 ≤ sm (G 60) 24) ∨ (off = 1 ∧ a2 + 1 ≤ sm (G 60) 24)) → ∃ D', (∀ c, c ≠ 59 → c ≠ 60 → c ≠ 61 → D' c = E c) ∧ Pst D (D' 61) ∧ ∀ n A, K_X2_pair_31 (n + 1) A G off a2 s D' := by
      intro q
      induction q with
      | zero =>
        intro s off G hq s0 gJ gO
        rcases gO with ⟨rfl, g1, g2⟩ | ⟨rfl, g1⟩
        · refine ⟨G, gJ.1, ⟨G 59, asX D E G, gJ.2.1, fun s' a b c p hp => ⟨hp, ?_⟩⟩, fun n A => rl_X2_pair_31 _ _ _ rg0 (by omega) (rgb (by omega) (by omega)) (rgb (by omega) (by omega)) ?_⟩
          · have := g1 s' a (by omega) c
            have := PS_a hI hP hp
            omega
          · rw [if_pos (by omega), wr_id (by omega) (by omega)]
            refine rl_X2_pair_16 _ _ rg0 (by omega) (rgb (by omega) (by omega)) ?_
            rw [if_pos rfl]
        · obtain ⟨D', a, b, K⟩ := ih (a2 + 1) G (by omega) (by omega) gJ g1
          refine ⟨D', a, b, fun n A => rl_X2_pair_31 _ _ _ ⟨by decide, by decide⟩ (by omega) (rgb (by omega) (by omega)) (rgb (by omega) (by omega)) ?_⟩
          rw [if_pos (by omega), wr_id (by omega) (by omega)]
          exact K n A
      | succ q ihq =>
        intro s off G hq s0 gJ gO
        have hoff : 0 ≤ off ∧ off ≤ 1 := by rcases gO with h | h <;> omega
        have e55 : G 55 = E 55 := gJ.1 55 (by decide) (by decide) (by decide)
        have e54 : G 54 = E 54 := gJ.1 54 (by decide) (by decide) (by decide)
        have t0 := gJ.2.2 s s0 (by omega)
        have t1 := (hP.2 s s0 (by omega)).1
        by_cases c1 : G 61 s = -1
        · by_cases c2 : G 55 s ≤ G 60 s
          · obtain ⟨D', a, b, K⟩ := ihq (s + 1) off G (by omega) (by omega) gJ (by
              rcases gO with ⟨h1, h2, h3⟩ | h
              · refine Or.inl ⟨h1, fun s' x y z => ?_, h3⟩
                by_cases e : s' = s
                · rw [e, ← e55]; exact c2
                · exact h2 s' x (by omega) z
              · exact Or.inr h)
            refine ⟨D', a, b, fun n A => rl_X2_pair_31 _ _ _ (rgb (by omega) (by omega)) hoff (rgb (by omega) (by omega)) (rgb (by omega) (by omega)) ?_⟩
            rw [if_neg (by omega), if_pos c1, if_pos c2, wr_id (by omega) (by omega)]
            exact ⟨by omega, K n A⟩
          · rw [e55] at c2
            obtain ⟨o1, o2, o3⟩ := offer_e hI hP gJ ⟨s0, by omega⟩ c1 (by omega)
            have su : sm (up (u_X2_offer G s (E 54 (13 * s + G 60 s))) 60 s (G 60 s + 1) 60) 24 = sm (G 60) 24 + 1 := sm_u (s0 := s) s0 (by omega) (fun s' _ _ sn => by rw [up_i sn, o3]) (by rw [up_eq])
            obtain ⟨D', a, b, K⟩ := ihq (s + 1) 1 _ (by omega) (by omega) o2 (Or.inr ⟨rfl, by rw [su]; rcases gO with ⟨_, _, h⟩ | ⟨_, h⟩ <;> omega⟩)
            refine ⟨D', a, b, fun n A => rl_X2_pair_31 _ _ _ (rgb (by omega) (by omega)) hoff (rgb (by omega) (by omega)) (rgb (by omega) (by omega)) ?_⟩
            rw [if_neg (by omega), if_pos c1, e55, if_neg c2, wr_id (z := s * 13) (by omega) (by omega), wr_id (z := s * 13 + G 60 s) (by omega) (by omega), show s * 13 + G 60 s = 13 * s + G 60 s by omega, e54, o3, wr_id (z := G 60 s + 1) (by omega) (by omega), wr_id (z := s + 1) (by omega) (by omega)]
            exact ⟨by omega, by omega, o1, K n A⟩
        · obtain ⟨D', a, b, K⟩ := ihq (s + 1) off G (by omega) (by omega) gJ (by
            rcases gO with ⟨h1, h2, h3⟩ | h
            · refine Or.inl ⟨h1, fun s' x y z => ?_, h3⟩
              by_cases e : s' = s
              · rw [e] at z; exact absurd z c1
              · exact h2 s' x (by omega) z
            · exact Or.inr h)
          refine ⟨D', a, b, fun n A => rl_X2_pair_31 _ _ _ (rgb (by omega) (by omega)) hoff (rgb (by omega) (by omega)) (rgb (by omega) (by omega)) ?_⟩
          rw [if_neg (by omega), if_neg c1, wr_id (by omega) (by omega)]
          exact ⟨by omega, K n A⟩
    obtain ⟨D', a, b, K⟩ := inner 24 0 0 F (by omega) (by omega) hJ (Or.inl ⟨rfl, fun s' x y => by omega, hs⟩)
    refine ⟨D', a, b, fun n A => rl_X2_pair_16 _ _ ⟨by decide, by decide⟩ (by omega) (rgb (by omega) (by omega)) ?_⟩
    rw [if_neg (by decide), if_neg (by omega)]
    exact K n A
def p_pair (E : aD) : Prop := ∃ D, Inv D ∧ PP D E
theorem pair_ex (E : aD) : ∃ D', (∀ c, c ≠ 59 → c ≠ 60 → c ≠ 61 → D' c = E c) ∧ (p_pair E → (∀ n A, Ev (n + 1) 4 16 [am_r (some 53)] A E rv A D')) ∧ ∀ D, Inv D → PP D E → Pst D (D' 61) := by
  by_cases h : p_pair E
  · obtain ⟨D, hI, hP⟩ := h
    have e0 : ∀ c, c ≠ 59 → c ≠ 60 → c ≠ 61 → fil (u_X2_forgetPairing E) 60 24 0 c = E c := fun c a b e => by
      unfold u_X2_forgetPairing; rw [fil_c b, fil_c a, fil_c e]
    have z60 : ∀ s, 0 ≤ s → s < 24 → fil (u_X2_forgetPairing E) 60 24 0 60 s = 0 := fun s a b => fil_in a (by omega)
    have hJ : ∀ D, Inv D → PP D E → Jx D E (fil (u_X2_forgetPairing E) 60 24 0) := fun D hI hP => ⟨e0, Q_0 (fun s a b => by unfold u_X2_forgetPairing; rw [fil_c (by decide), fil_c (by decide), fil_in a (by omega)]) (fun p a b => by unfold u_X2_forgetPairing; rw [fil_c (by decide), fil_in a (by omega)]) (fun s p q => by
      have b := alw_b hI q.1
      have y := PS_a hI hP q.1
      have x := q.2
      rw [z60 s b.1.1 b.1.2] at x; omega), fun s a b => by rw [z60 s a b]; have := (hP.2 s a b).1; omega⟩
    have sm0 : (0 : Int) ≤ sm (fil (u_X2_forgetPairing E) 60 24 0 60) 24 := by
      have := (sm_b (f := fil (u_X2_forgetPairing E) 60 24 0 60) (lo := 0) (hi := 0) (N := 24) (fun s a b => by rw [z60 s a b]; omega) 24 (by omega) (by omega)).1
      omega
    obtain ⟨D', a, b, K⟩ := C16 hI hP 313 0 _ (by omega) (by omega) (hJ D hI hP) sm0
    refine ⟨D', a, fun _ n A => rl_X2_pair (K n A), fun D1 hI1 hP1 => ?_⟩
    have ea : alw D1 = alw D := by
      have hm : Sm D1 D := hP1.1.symm.trans hP.1
      funext s p
      unfold alw w_holderOf hdP
      simp only [hm 70 rfl, hm 114 rfl, hm 115 rfl, hm 84 rfl, in_cg hm, fit_cg hm]
    have hm : Sm D1 D := hP1.1.symm.trans hP.1
    unfold Pst rS gP at *
    rw [ea, hm 114 rfl, hm 115 rfl]; exact b
  · refine ⟨E, fun _ _ _ _ => rfl, fun q => absurd q h, fun D a b => absurd ⟨D, a, b⟩ h⟩
noncomputable def u_pair (E : aD) : aD := Classical.choose (pair_ex E)
theorem ev_X2_pair (hp : p_pair D) : Ev (n + 1) 4 16 [am_r (some 53)] A D rv A (u_pair D) := (Classical.choose_spec (pair_ex D)).2.1 hp n A
theorem fl_pair (D : aD) (w : Nat) (i : Int) (hw : Nat.ble w 49 = true) : u_pair D (900 + w) i = D (900 + w) i := by rw [show u_pair D (900 + w) = D (900 + w) from (Classical.choose_spec (pair_ex D)).1 _ (by omega) (by omega) (by omega)]
abbrev P_X11_dealt : Nat → Option am_E := am_fy tb_X11_dealt
noncomputable def v_X11_dealt (D : aD) (a1 : Int) : Int := if v_X11_isServant D a1 = 0 then (-1) else (u_pair (u_pp D)) 61 a1
noncomputable def u_X11_dealt (D : aD) (a1 : Int) : aD := if v_X11_isServant D a1 = 0 then D else (u_pair (u_pp D))
def p_X11_dealt (D : aD) (a1 : Int) : Prop := (if v_X11_isServant D a1 = 0 then True else (p_pp D) ∧ (p_pair (u_pp D)) ∧ (0 ≤ a1 ∧ a1 < 24))
set_option maxRecDepth 100000 in
theorem ev_X11_dealt {A : aA} {D : aD} (a1 : Int) (h1 : rg a1) (hp : p_X11_dealt D a1) : Ev (1) 9 94 [am_r (some 32), am_i (wz a1)] A D (ri (v_X11_dealt D a1)) A (u_X11_dealt D a1) := by
  unfold p_X11_dealt at hp
  unfold v_X11_dealt u_X11_dealt
  refine Ev_of (c := 8) (P := P_X11_dealt) (lo := [some (am_r (some 32)), some (am_i (wz a1))]) rfl rfl rfl (fun d hd s hr => ?_)
  refine ok (m_aload_n (q := 1) rfl rfl rfl rfl) ?_
  refine ok (m_iload_n (q := 2) rfl rfl rfl rfl) ?_
  refine oke (e_ci (x_cv (q := 5) rfl rfl rfl rfl rfl rfl rfl rfl rfl rfl (is_st hr rfl rfl)) (ev_X11_isServant (D := D) a1 h1) (Nat.le_trans (by decide) hd) hr) (fun s1 r2 => ?_)
  refine okf (m_ifne (qt := 10) (qf := 8) rfl rfl (Ev_rg (ev_X11_isServant (D := D) a1 h1) hr) rfl rfl) (fun c3 => ?_) (fun c3 => ?_)
  · refine ok (m_iconst (q := 9) rfl rfl rfl) ?_
    exact ok (m_reti rfl rfl) (ok_i r2 ⟨by decide, by decide⟩)
  · replace hp := iq c3 hp
    refine ok (m_aload_n (q := 11) rfl rfl rfl rfl) ?_
    obtain ⟨g6, hp⟩ := hp
    refine oke (e_cvd (x_cv (q := 14) rfl rfl rfl rfl rfl rfl rfl rfl rfl rfl (is_st r2 rfl rfl)) (ev_X11_preparePairs (D := D) g6) (Nat.le_trans (by decide) hd) r2) (fun s4 r5 => ?_)
    refine ok (m_aload_n (q := 15) rfl rfl rfl rfl) ?_
    refine ok (m_gfc (q := 18) rfl rfl rfl r5 rfl rfl rfl) ?_
    obtain ⟨g9, hp⟩ := hp
    refine oke (e_cvd (x_cv (q := 21) rfl rfl rfl rfl rfl rfl rfl rfl rfl rfl (is_st r5 rfl rfl)) (ev_X2_pair (D := (u_pp D)) g9) (Nat.le_trans (by decide) hd) r5) (fun s7 r8 => ?_)
    refine ok (m_aload_n (q := 22) rfl rfl rfl rfl) ?_
    refine ok (m_gfc (q := 25) rfl rfl rfl r8 rfl rfl rfl) ?_
    refine ok (m_gfc (q := 28) rfl rfl rfl r8 rfl rfl rfl) ?_
    refine ok (m_iload_n (q := 29) rfl rfl rfl rfl) ?_
    have g10 := hp
    refine ok (m_ials (q := 30) rfl rfl rfl r8 rfl rfl g10 rfl) ?_
    exact ok (m_reti rfl rfl) (ok_i r8 (Rp_rg r8 61 a1))
theorem fl_X11_dealt (D : aD) (a1 : Int) (t : Nat) (i : Int) (ht : Nat.ble t 49 = true) : u_X11_dealt D a1 (900 + t) i = D (900 + t) i := fl_if (rfl) ((fl_pair (u_pp D) t i ht).trans ((fl_pp D t i ht).trans (rfl)))
end Pa
