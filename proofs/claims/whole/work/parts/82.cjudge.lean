/-! A told row is judged: both sides. -/
section Jm_
variable {n : Nat} {A A' : aA} {D D' E F : aD} {d : Nat} {s : am_S}
def p_fw (E : aD) : Prop := ∃ D, Inv D ∧ PP D E
theorem wrB_cg (hm : Sm F D) : wrB F = wrB D := by
  funext s
  have : Wrg F s ↔ Wrg D s := by unfold Wrg; rw [alw_cg hm, hm 116 rfl]
  by_cases q : Wrg D s
  · rw [wrB_t.mpr q, wrB_t.mpr (this.mpr q)]
  · rw [wrB_f.mpr q, wrB_f.mpr (fun z => q (this.mp z))]
theorem lvB_cg (hm : Sm F D) : lvB F = lvB D := by
  funext s p
  have : Lv F s p ↔ Lv D s p := by unfold Lv; rw [alw_cg hm, hm 116 rfl, hm 114 rfl, hm 115 rfl]
  by_cases q : Lv D s p
  · rw [lvB_t.mpr q, lvB_t.mpr (this.mpr q)]
  · rw [lvB_f.mpr q, lvB_f.mpr (fun z => q (this.mp z))]
theorem fw_cg (hm : Sm F D) : fwD F = fwD D := by unfold fwD; rw [wrB_cg hm]
theorem fl_cg (hm : Sm F D) (s0 : Int) : flA F s0 = flA D s0 := by
  have e : fpD F = fpD D := by funext s; unfold fpD; rw [lvB_cg hm]
  unfold flA fsD; rw [e]
theorem Hs_cg (hm : Sm F D) {H : aD} {m : Int} (h : Hs F H m) : Hs D H m := by
  unfold Hs at *; rw [hm 116 rfl] at h; exact h
theorem fw_ex (E : aD) : ∃ q : Int × aD, (∀ c, c ≠ 59 → c ≠ 61 → q.2 c = E c) ∧ (p_fw E → (∀ n A, Ev (n + 1) 3 20 [am_r (some 53), am_r (some 36)] A E (ri q.1) A q.2)) ∧ ∀ D, Inv D → PP D E → q.1 = fwD D ∧ (fwD D = -1 → Hs D q.2 24) := by
  by_cases h : p_fw E
  · obtain ⟨D, hI, hP⟩ := h
    have e0 : ∀ c, c ≠ 59 → c ≠ 61 → u_X2_forgetPairing E c = E c := fun c a b => by unfold u_X2_forgetPairing; rw [fil_c a, fil_c b]
    obtain ⟨D', a, b, K⟩ := C_fw hI hP 24 0 (u_X2_forgetPairing E) (by omega) (by omega) e0 ⟨fun s x y => by unfold u_X2_forgetPairing; rw [fil_c (by decide), fil_in x (by omega), if_neg (by omega)], fun p x y => Or.inl ⟨by unfold u_X2_forgetPairing; exact fil_in x (by omega), fun s u v => by omega⟩⟩ (fun s' x y => by omega)
    refine ⟨(fwD D, D'), a, fun _ n A => rl_X2_firstWronglyTold (K n A), fun D1 hI1 hP1 => ?_⟩
    have hm : Sm D1 D := hP1.1.symm.trans hP.1
    refine ⟨(fw_cg hm).symm, fun q => Hs_cg hm.symm (b (by rw [fw_cg hm] at q; exact q))⟩
  · exact ⟨(0, E), fun _ _ _ => rfl, fun q => absurd q h, fun D a b => absurd ⟨D, a, b⟩ h⟩
noncomputable def w_fw (E : aD) : Int := (Classical.choose (fw_ex E)).1
noncomputable def u_fw (E : aD) : aD := (Classical.choose (fw_ex E)).2
theorem ev_X2_firstWronglyTold (hp : p_fw D) : Ev (n + 1) 3 20 [am_r (some 53), am_r (some 36)] A D (ri (w_fw D)) A (u_fw D) := (Classical.choose_spec (fw_ex D)).2.1 hp n A
theorem u_fw_c (E : aD) : ∀ c, c ≠ 59 → c ≠ 61 → u_fw E c = E c := (Classical.choose_spec (fw_ex E)).1
theorem fl_fw (D : aD) (w : Nat) (i : Int) (hw : Nat.ble w 49 = true) : u_fw D (900 + w) i = D (900 + w) i := by rw [u_fw_c D (900 + w) (by omega) (by omega)]
def p_flv (E : aD) : Prop := ∃ D, Inv D ∧ PP D E ∧ Hs D E 24 ∧ fwD D = -1
theorem flv_ex (E : aD) : ∃ x : Int, (p_flv E → ∀ n A, Ev (n + 1) 3 21 [am_r (some 53)] A E (ri x) A E) ∧ ∀ D, Inv D → PP D E → Hs D E 24 → fwD D = -1 → x = flA D 0 := by
  by_cases h : p_flv E
  · obtain ⟨D, hI, hP, hH, hw⟩ := h
    refine ⟨flA D 0, fun _ n A => C_fl hI hP hH hw, fun D1 hI1 hP1 _ _ => ?_⟩
    have hm : Sm D1 D := hP1.1.symm.trans hP.1
    exact (fl_cg hm 0).symm
  · exact ⟨0, fun q => absurd q h, fun D a b c e => absurd ⟨D, a, b, c, e⟩ h⟩
noncomputable def w_flv (E : aD) : Int := Classical.choose (flv_ex E)
theorem ev_X2_firstLeaving (hp : p_flv D) : Ev (n + 1) 3 21 [am_r (some 53)] A D (ri (w_flv D)) A D := (Classical.choose_spec (flv_ex D)).1 hp n A
abbrev P_X11_judge : Nat → Option am_E := am_fy tb_X11_judge
noncomputable def v_X11_judge (D : aD) : Int := if w_fw (u_pp D) = (-1) then w_flv (u_fw (u_pp D)) else wr ((-2) - (w_fw (u_pp D)))
noncomputable def u_X11_judge (D : aD) : aD := if w_fw (u_pp D) = (-1) then (u_fw (u_pp D)) else (u_fw (u_pp D))
def p_X11_judge (D : aD) : Prop := (p_pp D) ∧ (p_fw (u_pp D)) ∧ (if w_fw (u_pp D) = (-1) then (p_flv (u_fw (u_pp D))) else True)
set_option maxRecDepth 100000 in
theorem ev_X11_judge {A : aA} {D : aD} (hp : p_X11_judge D) : Ev (1) 9 96 [am_r (some 32)] A D (ri (v_X11_judge D)) A (u_X11_judge D) := by
  unfold p_X11_judge at hp
  unfold v_X11_judge u_X11_judge
  refine Ev_of (c := 8) (P := P_X11_judge) (lo := [some (am_r (some 32)), none]) rfl rfl rfl (fun d hd s hr => ?_)
  refine ok (m_aload_n (q := 1) rfl rfl rfl rfl) ?_
  obtain ⟨g3, hp⟩ := hp
  refine oke (e_cvd (x_cv (q := 4) rfl rfl rfl rfl rfl rfl rfl rfl rfl rfl (is_st hr rfl rfl)) (ev_X11_preparePairs (D := D) g3) (Nat.le_trans (by decide) hd) hr) (fun s1 r2 => ?_)
  refine ok (m_aload_n (q := 5) rfl rfl rfl rfl) ?_
  refine ok (m_gfc (q := 8) rfl rfl rfl r2 rfl rfl rfl) ?_
  refine ok (m_aload_n (q := 9) rfl rfl rfl rfl) ?_
  refine ok (m_gfc (q := 12) rfl rfl rfl r2 rfl rfl rfl) ?_
  obtain ⟨g6, hp⟩ := hp
  refine oke (e_ci (x_cv (q := 15) rfl rfl rfl rfl rfl rfl rfl rfl rfl rfl (is_st r2 rfl rfl)) (ev_X2_firstWronglyTold (D := (u_pp D)) g6) (Nat.le_trans (by decide) hd) r2) (fun s4 r5 => ?_)
  refine ok (m_istore_n (q := 16) (lo' := [some (am_r (some 32)), some (am_i (wz (w_fw (u_pp D))))]) rfl rfl rfl rfl rfl) ?_
  refine ok (m_iload_n (q := 17) rfl rfl rfl rfl) ?_
  refine ok (m_iconst (q := 18) rfl rfl rfl) ?_
  refine okf (m_cmpne (qt := 31) (qf := 21) rfl rfl (Ev_rg (ev_X2_firstWronglyTold (D := (u_pp D)) g6) r2) ⟨by decide, by decide⟩ rfl rfl) (fun c7 => ?_) (fun c7 => ?_)
  · replace hp := ip c7 hp
    refine ok (m_aload_n (q := 22) rfl rfl rfl rfl) ?_
    refine ok (m_gfc (q := 25) rfl rfl rfl r5 rfl rfl rfl) ?_
    have g10 := hp
    refine oke (e_ci (x_cv (q := 28) rfl rfl rfl rfl rfl rfl rfl rfl rfl rfl (is_st r5 rfl rfl)) (ev_X2_firstLeaving (D := (u_fw (u_pp D))) g10) (Nat.le_trans (by decide) hd) r5) (fun s8 r9 => ?_)
    refine ok (m_goto (q := 35) rfl rfl rfl) ?_
    exact ok (m_reti rfl rfl) (ok_i r9 (Ev_rg (ev_X2_firstLeaving (D := (u_fw (u_pp D))) g10) r5))
  · refine ok (m_bipush (q := 33) rfl rfl rfl) ?_
    refine ok (m_iload_n (q := 34) rfl rfl rfl rfl) ?_
    refine ok (m_isub (q := 35) rfl rfl rfl) ?_
    exact ok (m_reti rfl rfl) (ok_i r5 (rg_wr _))
theorem fl_X11_judge (D : aD) (t : Nat) (i : Int) (ht : Nat.ble t 49 = true) : u_X11_judge D (900 + t) i = D (900 + t) i := fl_if ((fl_fw (u_pp D) t i ht).trans ((fl_pp D t i ht).trans (rfl))) ((fl_fw (u_pp D) t i ht).trans ((fl_pp D t i ht).trans (rfl)))
abbrev P_X12_toldHolder : Nat → Option am_E := am_fy tb_X12_toldHolder
def K_X12_toldHolder_2 (n : Nat) (A : aA) (D : aD) (a1 : Int) (a2 : Int) (x : Int) (D' : aD) : Prop := Lp n 0 P_X12_toldHolder 2 [some (am_r (some 70)), some (am_i (wz a1)), some (am_i (wz a2))] [] A D (ri x) A D'
set_option maxRecDepth 100000 in
theorem rl_X12_toldHolder {n : Nat} {A : aA} {D D' : aD} (a1 : Int) (h1 : rg a1) {x : Int} (hp : K_X12_toldHolder_2 (n) A D a1 0 x D') : Ev (n) (1) 195 [am_r (some 70), am_i (wz a1)] A D (ri x) A D' := by
  refine Ev_of (c := 0) (P := P_X12_toldHolder) (lo := [some (am_r (some 70)), some (am_i (wz a1)), none]) rfl rfl rfl (fun d hd s hr => ?_)
  refine ok (m_iconst (q := 1) rfl rfl rfl) ?_
  refine ok (m_istore_n (q := 2) (lo' := [some (am_r (some 70)), some (am_i (wz a1)), some (am_i (wz 0))]) rfl rfl rfl rfl rfl) ?_
  exact hp d hd _ hr
set_option maxRecDepth 100000 in
theorem rl_X12_toldHolder_2 {n : Nat} {A : aA} {D D' : aD} (a1 : Int) (a2 : Int) (h1 : rg a1) (h2 : rg a2) {x : Int} (hp : (if D 70 1 ≤ a2 then (x = (-1) ∧ D' = D) else (0 ≤ a2 ∧ a2 < 24) ∧ (if D 116 a2 = wr (a1 + 1) then (x = a2 ∧ D' = D) else K_X12_toldHolder_2 (n) A D a1 (wr (a2 + 1)) x D'))) : K_X12_toldHolder_2 (n) A D a1 a2 x D' := by
  unfold K_X12_toldHolder_2
  refine fun d hd s hr => ?_
  refine ok (m_iload_n (q := 3) rfl rfl rfl rfl) ?_
  refine ok (m_aload_n (q := 4) rfl rfl rfl rfl) ?_
  refine ok (m_gfs (z := 1) (q := 7) rfl rfl rfl hr rfl rfl rfl rfl rfl) ?_
  refine okc (m_cmpge (qt := 30) (qf := 10) rfl rfl h2 (Rp_rg hr 70 1) rfl rfl) (fun c1 => ?_) (fun c1 => ?_)
  · replace hp := ip c1 hp
    refine ok (m_iconst (q := 31) rfl rfl rfl) ?_
    exact ok (m_reti rfl rfl) (ok_iq hr ⟨by decide, by decide⟩ hp)
  · replace hp := iq c1 hp
    refine ok (m_aload_n (q := 11) rfl rfl rfl rfl) ?_
    refine ok (m_gfc (q := 14) rfl rfl rfl hr rfl rfl rfl) ?_
    refine ok (m_iload_n (q := 15) rfl rfl rfl rfl) ?_
    obtain ⟨g2, hp⟩ := hp
    refine ok (m_ials (q := 16) rfl rfl rfl hr rfl rfl g2 rfl) ?_
    refine ok (m_iload_n (q := 17) rfl rfl rfl rfl) ?_
    refine ok (m_iconst (q := 18) rfl rfl rfl) ?_
    refine ok (m_iadd (q := 19) rfl rfl rfl) ?_
    refine okc (m_cmpne (qt := 24) (qf := 22) rfl rfl (Rp_rg hr 116 a2) (rg_wr _) rfl rfl) (fun c3 => ?_) (fun c3 => ?_)
    · replace hp := ip c3 hp
      refine ok (m_iload_n (q := 23) rfl rfl rfl rfl) ?_
      exact ok (m_reti rfl rfl) (ok_iq hr h2 hp)
    · replace hp := iq c3 hp
      refine ok (m_iinc (q := 27) (lo' := [some (am_r (some 70)), some (am_i (wz a1)), some (am_i (wz (wr (a2 + 1))))]) rfl rfl rfl rfl rfl rfl rfl) ?_
      refine ok (m_goto (q := 2) rfl rfl rfl) ?_
      exact hp d hd _ hr
def w_th (F : aD) (p : Int) : Int := fsi (fun s => decide (F 116 s = p + 1)) 0 (F 70 1)
def p_th (F : aD) (p : Int) : Prop := (0 ≤ F 70 1 ∧ F 70 1 ≤ 24) ∧ -10 ≤ p ∧ p ≤ 100
theorem ev_X12_toldHolder (p : Int) (h1 : rg p) (hp : p_th D p) : Ev n 1 195 [am_r (some 70), am_i (wz p)] A D (ri (w_th D p)) A D := by
  have hb := hp
  unfold p_th at hb
  refine rl_X12_toldHolder p h1 ?_
  refine dn_ind (K := fun j => K_X12_toldHolder_2 n A D p j (fsi (fun s => decide (D 116 s = p + 1)) j (D 70 1)) D) (lo := 0) (N := D 70 1) ?_ ?_ 0 (by omega) (by omega)
  · refine rl_X12_toldHolder_2 _ _ h1 (rgb (by omega) (by omega)) ?_
    rw [if_pos (Int.le_refl _), fsi_end (Int.le_refl _)]; exact ⟨rfl, rfl⟩
  · intro j j0 j1 ih
    refine rl_X12_toldHolder_2 _ _ h1 (rgb (by omega) (by omega)) ?_
    rw [if_neg (by omega), wr_id (z := p + 1) (by omega) (by omega), wr_id (z := j + 1) (by omega) (by omega)]
    refine ⟨by omega, ?_⟩
    by_cases c : D 116 j = p + 1
    · rw [if_pos c, fsi_t j1 (decide_eq_true c)]; exact ⟨rfl, rfl⟩
    · rw [if_neg c, fsi_f j1 (decide_eq_false c)]; exact ih
abbrev P_X12_leaves : Nat → Option am_E := am_fy tb_X12_leaves
noncomputable def v_X12_leaves (D : aD) (a1 : Int) (a2 : Int) : Int := if v_X12_mayBe D a1 a2 = 0 then 0 else if D 116 a1 = wr (a2 + 1) then 0 else if D 116 a1 = 0 then if w_th D a2 = (-1) then if 5000 ≤ D 114 (wr ((wr (30 * a1)) + a2)) then 0 else if 5000 ≤ D 115 (wr ((wr (24 * a2)) + a1)) then 0 else 1 else if 5000 ≤ D 114 (wr ((wr (30 * a1)) + a2)) then 0 else if D 115 (wr ((wr (24 * a2)) + (w_th D a2))) ≤ D 115 (wr ((wr (24 * a2)) + a1)) then 0 else 1 else if w_th D a2 = (-1) then if D 114 (wr ((wr ((wr (30 * a1)) + (D 116 a1))) - 1)) ≤ D 114 (wr ((wr (30 * a1)) + a2)) then 0 else if 5000 ≤ D 115 (wr ((wr (24 * a2)) + a1)) then 0 else 1 else if D 114 (wr ((wr ((wr (30 * a1)) + (D 116 a1))) - 1)) ≤ D 114 (wr ((wr (30 * a1)) + a2)) then 0 else if D 115 (wr ((wr (24 * a2)) + (w_th D a2))) ≤ D 115 (wr ((wr (24 * a2)) + a1)) then 0 else 1
def p_X12_leaves (D : aD) (a1 : Int) (a2 : Int) : Prop := (p_X12_mayBe D a1 a2) ∧ (if v_X12_mayBe D a1 a2 = 0 then True else (0 ≤ a1 ∧ a1 < 24) ∧ (if D 116 a1 = wr (a2 + 1) then True else (if D 116 a1 = 0 then (p_th D a2) ∧ (if w_th D a2 = (-1) then (0 ≤ wr ((wr (30 * a1)) + a2) ∧ wr ((wr (30 * a1)) + a2) < 720) ∧ (if 5000 ≤ D 114 (wr ((wr (30 * a1)) + a2)) then True else (0 ≤ wr ((wr (24 * a2)) + a1) ∧ wr ((wr (24 * a2)) + a1) < 720)) else (0 ≤ wr ((wr (24 * a2)) + (w_th D a2)) ∧ wr ((wr (24 * a2)) + (w_th D a2)) < 720) ∧ (0 ≤ wr ((wr (30 * a1)) + a2) ∧ wr ((wr (30 * a1)) + a2) < 720) ∧ (if 5000 ≤ D 114 (wr ((wr (30 * a1)) + a2)) then True else (0 ≤ wr ((wr (24 * a2)) + a1) ∧ wr ((wr (24 * a2)) + a1) < 720))) else (0 ≤ wr ((wr ((wr (30 * a1)) + (D 116 a1))) - 1) ∧ wr ((wr ((wr (30 * a1)) + (D 116 a1))) - 1) < 720) ∧ (p_th D a2) ∧ (if w_th D a2 = (-1) then (0 ≤ wr ((wr (30 * a1)) + a2) ∧ wr ((wr (30 * a1)) + a2) < 720) ∧ (if D 114 (wr ((wr ((wr (30 * a1)) + (D 116 a1))) - 1)) ≤ D 114 (wr ((wr (30 * a1)) + a2)) then True else (0 ≤ wr ((wr (24 * a2)) + a1) ∧ wr ((wr (24 * a2)) + a1) < 720)) else (0 ≤ wr ((wr (24 * a2)) + (w_th D a2)) ∧ wr ((wr (24 * a2)) + (w_th D a2)) < 720) ∧ (0 ≤ wr ((wr (30 * a1)) + a2) ∧ wr ((wr (30 * a1)) + a2) < 720) ∧ (if D 114 (wr ((wr ((wr (30 * a1)) + (D 116 a1))) - 1)) ≤ D 114 (wr ((wr (30 * a1)) + a2)) then True else (0 ≤ wr ((wr (24 * a2)) + a1) ∧ wr ((wr (24 * a2)) + a1) < 720))))))
theorem b_X12_leaves (D : aD) (a1 : Int) (a2 : Int) : 0 ≤ v_X12_leaves D a1 a2 ∧ v_X12_leaves D a1 a2 ≤ 1 := b01 (fun c4 => ⟨by decide, by decide⟩) (fun c4 => b01 (fun c6 => ⟨by decide, by decide⟩) (fun c6 => b01 (fun c7 => b01 (fun c11 => b01 (fun c13 => ⟨by decide, by decide⟩) (fun c13 => b01 (fun c15 => ⟨by decide, by decide⟩) (fun c15 => ⟨by decide, by decide⟩))) (fun c11 => b01 (fun c18 => ⟨by decide, by decide⟩) (fun c18 => b01 (fun c20 => ⟨by decide, by decide⟩) (fun c20 => ⟨by decide, by decide⟩)))) (fun c7 => b01 (fun c25 => b01 (fun c27 => ⟨by decide, by decide⟩) (fun c27 => b01 (fun c29 => ⟨by decide, by decide⟩) (fun c29 => ⟨by decide, by decide⟩))) (fun c25 => b01 (fun c32 => ⟨by decide, by decide⟩) (fun c32 => b01 (fun c34 => ⟨by decide, by decide⟩) (fun c34 => ⟨by decide, by decide⟩))))))
set_option maxRecDepth 100000 in
theorem ev_X12_leaves {A : aA} {D : aD} (a1 : Int) (a2 : Int) (h1 : rg a1) (h2 : rg a2) (hp : p_X12_leaves D a1 a2) : Ev (1) 44 197 [am_r (some 70), am_i (wz a1), am_i (wz a2)] A D (ri (v_X12_leaves D a1 a2)) A D := by
  unfold p_X12_leaves at hp
  unfold v_X12_leaves
  refine Ev_of (c := 43) (P := P_X12_leaves) (lo := [some (am_r (some 70)), some (am_i (wz a1)), some (am_i (wz a2)), none, none, none]) rfl rfl rfl (fun d hd s hr => ?_)
  refine ok (m_aload_n (q := 1) rfl rfl rfl rfl) ?_
  refine ok (m_iload_n (q := 2) rfl rfl rfl rfl) ?_
  refine ok (m_iload_n (q := 3) rfl rfl rfl rfl) ?_
  obtain ⟨g3, hp⟩ := hp
  refine oke (e_ci (x_cv (q := 6) rfl rfl rfl rfl rfl rfl rfl rfl rfl rfl (is_st hr rfl rfl)) (ev_X12_mayBe (D := D) a1 a2 h1 h2 g3) (Nat.le_trans (by decide) hd) hr) (fun s1 r2 => ?_)
  refine okp (m_ifeq (qt := 21) (qf := 9) rfl rfl (Ev_rg (ev_X12_mayBe (D := D) a1 a2 h1 h2 g3) hr) rfl rfl) (fun c4 => ?_) (fun c4 => ?_)
  · refine ok (m_iconst (q := 22) rfl rfl rfl) ?_
    exact ok (m_retb rfl rfl ⟨by decide, by decide⟩) (ok_i r2 ⟨by decide, by decide⟩)
  · replace hp := iq c4 hp
    refine ok (m_aload_n (q := 10) rfl rfl rfl rfl) ?_
    refine ok (m_gfc (q := 13) rfl rfl rfl r2 rfl rfl rfl) ?_
    refine ok (m_iload_n (q := 14) rfl rfl rfl rfl) ?_
    obtain ⟨g5, hp⟩ := hp
    refine ok (m_ials (q := 15) rfl rfl rfl r2 rfl rfl g5 rfl) ?_
    refine ok (m_iload_n (q := 16) rfl rfl rfl rfl) ?_
    refine ok (m_iconst (q := 17) rfl rfl rfl) ?_
    refine ok (m_iadd (q := 18) rfl rfl rfl) ?_
    refine okp (m_cmpne (qt := 23) (qf := 21) rfl rfl (Rp_rg r2 116 a1) (rg_wr _) rfl rfl) (fun c6 => ?_) (fun c6 => ?_)
    · refine ok (m_iconst (q := 22) rfl rfl rfl) ?_
      exact ok (m_retb rfl rfl ⟨by decide, by decide⟩) (ok_i r2 ⟨by decide, by decide⟩)
    · replace hp := iq c6 hp
      refine ok (m_aload_n (q := 24) rfl rfl rfl rfl) ?_
      refine ok (m_gfc (q := 27) rfl rfl rfl r2 rfl rfl rfl) ?_
      refine ok (m_iload_n (q := 28) rfl rfl rfl rfl) ?_
      refine ok (m_ials (q := 29) rfl rfl rfl r2 rfl rfl g5 rfl) ?_
      refine okp (m_ifne (qt := 38) (qf := 32) rfl rfl (Rp_rg r2 116 a1) rfl rfl) (fun c7 => ?_) (fun c7 => ?_)
      · replace hp := ip c7 hp
        refine ok (m_sipush (q := 35) rfl rfl rfl) ?_
        refine ok (m_goto (q := 56) rfl rfl rfl) ?_
        refine ok (m_istore_n (q := 57) (lo' := [some (am_r (some 70)), some (am_i (wz a1)), some (am_i (wz a2)), some (am_i (wz 5000)), none, none]) rfl rfl rfl rfl rfl) ?_
        refine ok (m_aload_n (q := 58) rfl rfl rfl rfl) ?_
        refine ok (m_iload_n (q := 59) rfl rfl rfl rfl) ?_
        obtain ⟨g10, hp⟩ := hp
        refine oke (e_ci (x_cv (q := 62) rfl rfl rfl rfl rfl rfl rfl rfl rfl rfl (is_st r2 rfl rfl)) (ev_X12_toldHolder (D := D) a2 h2 g10) (Nat.le_trans (by decide) hd) r2) (fun s8 r9 => ?_)
        refine ok (m_istore (q := 64) (lo' := [some (am_r (some 70)), some (am_i (wz a1)), some (am_i (wz a2)), some (am_i (wz 5000)), some (am_i (wz (w_th D a2))), none]) rfl rfl rfl rfl rfl) ?_
        refine ok (m_iload (q := 66) rfl rfl rfl rfl) ?_
        refine ok (m_iconst (q := 67) rfl rfl rfl) ?_
        refine okp (m_cmpne (qt := 76) (qf := 70) rfl rfl (Ev_rg (ev_X12_toldHolder (D := D) a2 h2 g10) r2) ⟨by decide, by decide⟩ rfl rfl) (fun c11 => ?_) (fun c11 => ?_)
        · replace hp := ip c11 hp
          refine ok (m_sipush (q := 73) rfl rfl rfl) ?_
          refine ok (m_goto (q := 88) rfl rfl rfl) ?_
          refine ok (m_istore (q := 90) (lo' := [some (am_r (some 70)), some (am_i (wz a1)), some (am_i (wz a2)), some (am_i (wz 5000)), some (am_i (wz (w_th D a2))), some (am_i (wz 5000))]) rfl rfl rfl rfl rfl) ?_
          refine ok (m_aload_n (q := 91) rfl rfl rfl rfl) ?_
          refine ok (m_gfc (q := 94) rfl rfl rfl r9 rfl rfl rfl) ?_
          refine ok (m_bipush (q := 96) rfl rfl rfl) ?_
          refine ok (m_iload_n (q := 97) rfl rfl rfl rfl) ?_
          refine ok (m_imul (q := 98) rfl rfl rfl) ?_
          refine ok (m_iload_n (q := 99) rfl rfl rfl rfl) ?_
          refine ok (m_iadd (q := 100) rfl rfl rfl) ?_
          obtain ⟨g12, hp⟩ := hp
          refine ok (m_ials (q := 101) rfl rfl rfl r9 rfl rfl g12 rfl) ?_
          refine ok (m_iload_n (q := 102) rfl rfl rfl rfl) ?_
          refine okp (m_cmpge (qt := 125) (qf := 105) rfl rfl (Rp_rg r9 114 (wr ((wr (30 * a1)) + a2))) ⟨by decide, by decide⟩ rfl rfl) (fun c13 => ?_) (fun c13 => ?_)
          · refine ok (m_iconst (q := 126) rfl rfl rfl) ?_
            exact ok (m_retb rfl rfl ⟨by decide, by decide⟩) (ok_i r9 ⟨by decide, by decide⟩)
          · replace hp := iq c13 hp
            refine ok (m_aload_n (q := 106) rfl rfl rfl rfl) ?_
            refine ok (m_gfc (q := 109) rfl rfl rfl r9 rfl rfl rfl) ?_
            refine ok (m_bipush (q := 111) rfl rfl rfl) ?_
            refine ok (m_iload_n (q := 112) rfl rfl rfl rfl) ?_
            refine ok (m_imul (q := 113) rfl rfl rfl) ?_
            refine ok (m_iload_n (q := 114) rfl rfl rfl rfl) ?_
            refine ok (m_iadd (q := 115) rfl rfl rfl) ?_
            have g14 := hp
            refine ok (m_ials (q := 116) rfl rfl rfl r9 rfl rfl g14 rfl) ?_
            refine ok (m_iload (q := 118) rfl rfl rfl rfl) ?_
            refine okp (m_cmpge (qt := 125) (qf := 121) rfl rfl (Rp_rg r9 115 (wr ((wr (24 * a2)) + a1))) ⟨by decide, by decide⟩ rfl rfl) (fun c15 => ?_) (fun c15 => ?_)
            · refine ok (m_iconst (q := 126) rfl rfl rfl) ?_
              exact ok (m_retb rfl rfl ⟨by decide, by decide⟩) (ok_i r9 ⟨by decide, by decide⟩)
            · refine ok (m_iconst (q := 122) rfl rfl rfl) ?_
              refine ok (m_goto (q := 126) rfl rfl rfl) ?_
              exact ok (m_retb rfl rfl ⟨by decide, by decide⟩) (ok_i r9 ⟨by decide, by decide⟩)
        · replace hp := iq c11 hp
          refine ok (m_aload_n (q := 77) rfl rfl rfl rfl) ?_
          refine ok (m_gfc (q := 80) rfl rfl rfl r9 rfl rfl rfl) ?_
          refine ok (m_bipush (q := 82) rfl rfl rfl) ?_
          refine ok (m_iload_n (q := 83) rfl rfl rfl rfl) ?_
          refine ok (m_imul (q := 84) rfl rfl rfl) ?_
          refine ok (m_iload (q := 86) rfl rfl rfl rfl) ?_
          refine ok (m_iadd (q := 87) rfl rfl rfl) ?_
          obtain ⟨g16, hp⟩ := hp
          refine ok (m_ials (q := 88) rfl rfl rfl r9 rfl rfl g16 rfl) ?_
          refine ok (m_istore (q := 90) (lo' := [some (am_r (some 70)), some (am_i (wz a1)), some (am_i (wz a2)), some (am_i (wz 5000)), some (am_i (wz (w_th D a2))), some (am_i (wz (D 115 (wr ((wr (24 * a2)) + (w_th D a2))))))]) rfl rfl rfl rfl rfl) ?_
          refine ok (m_aload_n (q := 91) rfl rfl rfl rfl) ?_
          refine ok (m_gfc (q := 94) rfl rfl rfl r9 rfl rfl rfl) ?_
          refine ok (m_bipush (q := 96) rfl rfl rfl) ?_
          refine ok (m_iload_n (q := 97) rfl rfl rfl rfl) ?_
          refine ok (m_imul (q := 98) rfl rfl rfl) ?_
          refine ok (m_iload_n (q := 99) rfl rfl rfl rfl) ?_
          refine ok (m_iadd (q := 100) rfl rfl rfl) ?_
          obtain ⟨g17, hp⟩ := hp
          refine ok (m_ials (q := 101) rfl rfl rfl r9 rfl rfl g17 rfl) ?_
          refine ok (m_iload_n (q := 102) rfl rfl rfl rfl) ?_
          refine okp (m_cmpge (qt := 125) (qf := 105) rfl rfl (Rp_rg r9 114 (wr ((wr (30 * a1)) + a2))) ⟨by decide, by decide⟩ rfl rfl) (fun c18 => ?_) (fun c18 => ?_)
          · refine ok (m_iconst (q := 126) rfl rfl rfl) ?_
            exact ok (m_retb rfl rfl ⟨by decide, by decide⟩) (ok_i r9 ⟨by decide, by decide⟩)
          · replace hp := iq c18 hp
            refine ok (m_aload_n (q := 106) rfl rfl rfl rfl) ?_
            refine ok (m_gfc (q := 109) rfl rfl rfl r9 rfl rfl rfl) ?_
            refine ok (m_bipush (q := 111) rfl rfl rfl) ?_
            refine ok (m_iload_n (q := 112) rfl rfl rfl rfl) ?_
            refine ok (m_imul (q := 113) rfl rfl rfl) ?_
            refine ok (m_iload_n (q := 114) rfl rfl rfl rfl) ?_
            refine ok (m_iadd (q := 115) rfl rfl rfl) ?_
            have g19 := hp
            refine ok (m_ials (q := 116) rfl rfl rfl r9 rfl rfl g19 rfl) ?_
            refine ok (m_iload (q := 118) rfl rfl rfl rfl) ?_
            refine okp (m_cmpge (qt := 125) (qf := 121) rfl rfl (Rp_rg r9 115 (wr ((wr (24 * a2)) + a1))) (Rp_rg r9 115 (wr ((wr (24 * a2)) + (w_th D a2)))) rfl rfl) (fun c20 => ?_) (fun c20 => ?_)
            · refine ok (m_iconst (q := 126) rfl rfl rfl) ?_
              exact ok (m_retb rfl rfl ⟨by decide, by decide⟩) (ok_i r9 ⟨by decide, by decide⟩)
            · refine ok (m_iconst (q := 122) rfl rfl rfl) ?_
              refine ok (m_goto (q := 126) rfl rfl rfl) ?_
              exact ok (m_retb rfl rfl ⟨by decide, by decide⟩) (ok_i r9 ⟨by decide, by decide⟩)
      · replace hp := iq c7 hp
        refine ok (m_aload_n (q := 39) rfl rfl rfl rfl) ?_
        refine ok (m_gfc (q := 42) rfl rfl rfl r2 rfl rfl rfl) ?_
        refine ok (m_bipush (q := 44) rfl rfl rfl) ?_
        refine ok (m_iload_n (q := 45) rfl rfl rfl rfl) ?_
        refine ok (m_imul (q := 46) rfl rfl rfl) ?_
        refine ok (m_aload_n (q := 47) rfl rfl rfl rfl) ?_
        refine ok (m_gfc (q := 50) rfl rfl rfl r2 rfl rfl rfl) ?_
        refine ok (m_iload_n (q := 51) rfl rfl rfl rfl) ?_
        refine ok (m_ials (q := 52) rfl rfl rfl r2 rfl rfl g5 rfl) ?_
        refine ok (m_iadd (q := 53) rfl rfl rfl) ?_
        refine ok (m_iconst (q := 54) rfl rfl rfl) ?_
        refine ok (m_isub (q := 55) rfl rfl rfl) ?_
        obtain ⟨g21, hp⟩ := hp
        refine ok (m_ials (q := 56) rfl rfl rfl r2 rfl rfl g21 rfl) ?_
        refine ok (m_istore_n (q := 57) (lo' := [some (am_r (some 70)), some (am_i (wz a1)), some (am_i (wz a2)), some (am_i (wz (D 114 (wr ((wr ((wr (30 * a1)) + (D 116 a1))) - 1))))), none, none]) rfl rfl rfl rfl rfl) ?_
        refine ok (m_aload_n (q := 58) rfl rfl rfl rfl) ?_
        refine ok (m_iload_n (q := 59) rfl rfl rfl rfl) ?_
        obtain ⟨g24, hp⟩ := hp
        refine oke (e_ci (x_cv (q := 62) rfl rfl rfl rfl rfl rfl rfl rfl rfl rfl (is_st r2 rfl rfl)) (ev_X12_toldHolder (D := D) a2 h2 g24) (Nat.le_trans (by decide) hd) r2) (fun s22 r23 => ?_)
        refine ok (m_istore (q := 64) (lo' := [some (am_r (some 70)), some (am_i (wz a1)), some (am_i (wz a2)), some (am_i (wz (D 114 (wr ((wr ((wr (30 * a1)) + (D 116 a1))) - 1))))), some (am_i (wz (w_th D a2))), none]) rfl rfl rfl rfl rfl) ?_
        refine ok (m_iload (q := 66) rfl rfl rfl rfl) ?_
        refine ok (m_iconst (q := 67) rfl rfl rfl) ?_
        refine okp (m_cmpne (qt := 76) (qf := 70) rfl rfl (Ev_rg (ev_X12_toldHolder (D := D) a2 h2 g24) r2) ⟨by decide, by decide⟩ rfl rfl) (fun c25 => ?_) (fun c25 => ?_)
        · replace hp := ip c25 hp
          refine ok (m_sipush (q := 73) rfl rfl rfl) ?_
          refine ok (m_goto (q := 88) rfl rfl rfl) ?_
          refine ok (m_istore (q := 90) (lo' := [some (am_r (some 70)), some (am_i (wz a1)), some (am_i (wz a2)), some (am_i (wz (D 114 (wr ((wr ((wr (30 * a1)) + (D 116 a1))) - 1))))), some (am_i (wz (w_th D a2))), some (am_i (wz 5000))]) rfl rfl rfl rfl rfl) ?_
          refine ok (m_aload_n (q := 91) rfl rfl rfl rfl) ?_
          refine ok (m_gfc (q := 94) rfl rfl rfl r23 rfl rfl rfl) ?_
          refine ok (m_bipush (q := 96) rfl rfl rfl) ?_
          refine ok (m_iload_n (q := 97) rfl rfl rfl rfl) ?_
          refine ok (m_imul (q := 98) rfl rfl rfl) ?_
          refine ok (m_iload_n (q := 99) rfl rfl rfl rfl) ?_
          refine ok (m_iadd (q := 100) rfl rfl rfl) ?_
          obtain ⟨g26, hp⟩ := hp
          refine ok (m_ials (q := 101) rfl rfl rfl r23 rfl rfl g26 rfl) ?_
          refine ok (m_iload_n (q := 102) rfl rfl rfl rfl) ?_
          refine okp (m_cmpge (qt := 125) (qf := 105) rfl rfl (Rp_rg r23 114 (wr ((wr (30 * a1)) + a2))) (Rp_rg r2 114 (wr ((wr ((wr (30 * a1)) + (D 116 a1))) - 1))) rfl rfl) (fun c27 => ?_) (fun c27 => ?_)
          · refine ok (m_iconst (q := 126) rfl rfl rfl) ?_
            exact ok (m_retb rfl rfl ⟨by decide, by decide⟩) (ok_i r23 ⟨by decide, by decide⟩)
          · replace hp := iq c27 hp
            refine ok (m_aload_n (q := 106) rfl rfl rfl rfl) ?_
            refine ok (m_gfc (q := 109) rfl rfl rfl r23 rfl rfl rfl) ?_
            refine ok (m_bipush (q := 111) rfl rfl rfl) ?_
            refine ok (m_iload_n (q := 112) rfl rfl rfl rfl) ?_
            refine ok (m_imul (q := 113) rfl rfl rfl) ?_
            refine ok (m_iload_n (q := 114) rfl rfl rfl rfl) ?_
            refine ok (m_iadd (q := 115) rfl rfl rfl) ?_
            have g28 := hp
            refine ok (m_ials (q := 116) rfl rfl rfl r23 rfl rfl g28 rfl) ?_
            refine ok (m_iload (q := 118) rfl rfl rfl rfl) ?_
            refine okp (m_cmpge (qt := 125) (qf := 121) rfl rfl (Rp_rg r23 115 (wr ((wr (24 * a2)) + a1))) ⟨by decide, by decide⟩ rfl rfl) (fun c29 => ?_) (fun c29 => ?_)
            · refine ok (m_iconst (q := 126) rfl rfl rfl) ?_
              exact ok (m_retb rfl rfl ⟨by decide, by decide⟩) (ok_i r23 ⟨by decide, by decide⟩)
            · refine ok (m_iconst (q := 122) rfl rfl rfl) ?_
              refine ok (m_goto (q := 126) rfl rfl rfl) ?_
              exact ok (m_retb rfl rfl ⟨by decide, by decide⟩) (ok_i r23 ⟨by decide, by decide⟩)
        · replace hp := iq c25 hp
          refine ok (m_aload_n (q := 77) rfl rfl rfl rfl) ?_
          refine ok (m_gfc (q := 80) rfl rfl rfl r23 rfl rfl rfl) ?_
          refine ok (m_bipush (q := 82) rfl rfl rfl) ?_
          refine ok (m_iload_n (q := 83) rfl rfl rfl rfl) ?_
          refine ok (m_imul (q := 84) rfl rfl rfl) ?_
          refine ok (m_iload (q := 86) rfl rfl rfl rfl) ?_
          refine ok (m_iadd (q := 87) rfl rfl rfl) ?_
          obtain ⟨g30, hp⟩ := hp
          refine ok (m_ials (q := 88) rfl rfl rfl r23 rfl rfl g30 rfl) ?_
          refine ok (m_istore (q := 90) (lo' := [some (am_r (some 70)), some (am_i (wz a1)), some (am_i (wz a2)), some (am_i (wz (D 114 (wr ((wr ((wr (30 * a1)) + (D 116 a1))) - 1))))), some (am_i (wz (w_th D a2))), some (am_i (wz (D 115 (wr ((wr (24 * a2)) + (w_th D a2))))))]) rfl rfl rfl rfl rfl) ?_
          refine ok (m_aload_n (q := 91) rfl rfl rfl rfl) ?_
          refine ok (m_gfc (q := 94) rfl rfl rfl r23 rfl rfl rfl) ?_
          refine ok (m_bipush (q := 96) rfl rfl rfl) ?_
          refine ok (m_iload_n (q := 97) rfl rfl rfl rfl) ?_
          refine ok (m_imul (q := 98) rfl rfl rfl) ?_
          refine ok (m_iload_n (q := 99) rfl rfl rfl rfl) ?_
          refine ok (m_iadd (q := 100) rfl rfl rfl) ?_
          obtain ⟨g31, hp⟩ := hp
          refine ok (m_ials (q := 101) rfl rfl rfl r23 rfl rfl g31 rfl) ?_
          refine ok (m_iload_n (q := 102) rfl rfl rfl rfl) ?_
          refine okp (m_cmpge (qt := 125) (qf := 105) rfl rfl (Rp_rg r23 114 (wr ((wr (30 * a1)) + a2))) (Rp_rg r2 114 (wr ((wr ((wr (30 * a1)) + (D 116 a1))) - 1))) rfl rfl) (fun c32 => ?_) (fun c32 => ?_)
          · refine ok (m_iconst (q := 126) rfl rfl rfl) ?_
            exact ok (m_retb rfl rfl ⟨by decide, by decide⟩) (ok_i r23 ⟨by decide, by decide⟩)
          · replace hp := iq c32 hp
            refine ok (m_aload_n (q := 106) rfl rfl rfl rfl) ?_
            refine ok (m_gfc (q := 109) rfl rfl rfl r23 rfl rfl rfl) ?_
            refine ok (m_bipush (q := 111) rfl rfl rfl) ?_
            refine ok (m_iload_n (q := 112) rfl rfl rfl rfl) ?_
            refine ok (m_imul (q := 113) rfl rfl rfl) ?_
            refine ok (m_iload_n (q := 114) rfl rfl rfl rfl) ?_
            refine ok (m_iadd (q := 115) rfl rfl rfl) ?_
            have g33 := hp
            refine ok (m_ials (q := 116) rfl rfl rfl r23 rfl rfl g33 rfl) ?_
            refine ok (m_iload (q := 118) rfl rfl rfl rfl) ?_
            refine okp (m_cmpge (qt := 125) (qf := 121) rfl rfl (Rp_rg r23 115 (wr ((wr (24 * a2)) + a1))) (Rp_rg r23 115 (wr ((wr (24 * a2)) + (w_th D a2)))) rfl rfl) (fun c34 => ?_) (fun c34 => ?_)
            · refine ok (m_iconst (q := 126) rfl rfl rfl) ?_
              exact ok (m_retb rfl rfl ⟨by decide, by decide⟩) (ok_i r23 ⟨by decide, by decide⟩)
            · refine ok (m_iconst (q := 122) rfl rfl rfl) ?_
              refine ok (m_goto (q := 126) rfl rfl rfl) ?_
              exact ok (m_retb rfl rfl ⟨by decide, by decide⟩) (ok_i r23 ⟨by decide, by decide⟩)
abbrev P_X12_judge : Nat → Option am_E := am_fy tb_X12_judge
def K_X12_judge_6 (n : Nat) (A : aA) (D : aD) (a1 : Int) (x : Int) (D' : aD) : Prop := Lp n 44 P_X12_judge 6 [some (am_r (some 70)), some (am_i (wz a1)), none] [] A D (ri x) A D'
def K_X12_judge_68 (n : Nat) (A : aA) (D : aD) (a1 : Int) (x : Int) (D' : aD) : Prop := Lp n 44 P_X12_judge 68 [some (am_r (some 70)), some (am_i (wz a1)), none] [] A D (ri x) A D'
def K_X12_judge_78 (n : Nat) (A : aA) (D : aD) (a1 : Int) (a2 : Int) (x : Int) (D' : aD) : Prop := Lp n 44 P_X12_judge 78 [some (am_r (some 70)), some (am_i (wz a1)), some (am_i (wz a2))] [] A D (ri x) A D'
set_option maxRecDepth 100000 in
theorem rl_X12_judge {A : aA} {D D' : aD} {x : Int} (hp : (p_wtp D) ∧ K_X12_judge_6 (1) A (u_wtp D) 0 x D') : Ev (1) (45) 196 [am_r (some 70)] A D (ri x) A D' := by
  refine Ev_of (c := 44) (P := P_X12_judge) (lo := [some (am_r (some 70)), none, none]) rfl rfl rfl (fun d hd s hr => ?_)
  refine ok (m_aload_n (q := 1) rfl rfl rfl rfl) ?_
  obtain ⟨g3, hp⟩ := hp
  refine oke (e_cvd (x_cv (q := 4) rfl rfl rfl rfl rfl rfl rfl rfl rfl rfl (is_st hr rfl rfl)) (ev_X12_whoTakesPart (D := D) g3) (Nat.le_trans (by decide) hd) hr) (fun s1 r2 => ?_)
  refine ok (m_iconst (q := 5) rfl rfl rfl) ?_
  refine ok (m_istore_n (q := 6) (lo' := [some (am_r (some 70)), some (am_i (wz 0)), none]) rfl rfl rfl rfl rfl) ?_
  exact hp d hd _ r2
set_option maxRecDepth 100000 in
theorem rl_X12_judge_6 {A : aA} {D D' : aD} (a1 : Int) (h1 : rg a1) {x : Int} (hp : (if D 70 1 ≤ a1 then K_X12_judge_68 (1) A D 0 x D' else (0 ≤ a1 ∧ a1 < 24) ∧ (if D 116 a1 ≤ 0 then K_X12_judge_6 (1) A D (wr (a1 + 1)) x D' else (p_X12_mayBe D a1 (wr ((D 116 a1) - 1))) ∧ (if v_X12_mayBe D a1 (wr ((D 116 a1) - 1)) = 0 then (x = wr ((-2) - a1) ∧ D' = D) else (p_th D (wr ((D 116 a1) - 1))) ∧ (if w_th D (wr ((D 116 a1) - 1)) = a1 then K_X12_judge_6 (1) A D (wr (a1 + 1)) x D' else (x = wr ((-2) - a1) ∧ D' = D)))))) : K_X12_judge_6 (1) A D a1 x D' := by
  unfold K_X12_judge_6
  refine fun d hd s hr => ?_
  refine ok (m_iload_n (q := 7) rfl rfl rfl rfl) ?_
  refine ok (m_aload_n (q := 8) rfl rfl rfl rfl) ?_
  refine ok (m_gfs (z := 1) (q := 11) rfl rfl rfl hr rfl rfl rfl rfl rfl) ?_
  refine okc (m_cmpge (qt := 66) (qf := 14) rfl rfl h1 (Rp_rg hr 70 1) rfl rfl) (fun c4 => ?_) (fun c4 => ?_)
  · replace hp := ip c4 hp
    refine ok (m_iconst (q := 67) rfl rfl rfl) ?_
    refine ok (m_istore_n (q := 68) (lo' := [some (am_r (some 70)), some (am_i (wz 0)), none]) rfl rfl rfl rfl rfl) ?_
    exact hp d hd _ hr
  · replace hp := iq c4 hp
    refine ok (m_aload_n (q := 15) rfl rfl rfl rfl) ?_
    refine ok (m_gfc (q := 18) rfl rfl rfl hr rfl rfl rfl) ?_
    refine ok (m_iload_n (q := 19) rfl rfl rfl rfl) ?_
    obtain ⟨g5, hp⟩ := hp
    refine ok (m_ials (q := 20) rfl rfl rfl hr rfl rfl g5 rfl) ?_
    refine okc (m_ifle (qt := 60) (qf := 23) rfl rfl (Rp_rg hr 116 a1) rfl rfl) (fun c6 => ?_) (fun c6 => ?_)
    · replace hp := ip c6 hp
      refine ok (m_iinc (q := 63) (lo' := [some (am_r (some 70)), some (am_i (wz (wr (a1 + 1)))), none]) rfl rfl rfl rfl rfl rfl rfl) ?_
      refine ok (m_goto (q := 6) rfl rfl rfl) ?_
      exact hp d hd _ hr
    · replace hp := iq c6 hp
      refine ok (m_aload_n (q := 24) rfl rfl rfl rfl) ?_
      refine ok (m_iload_n (q := 25) rfl rfl rfl rfl) ?_
      refine ok (m_aload_n (q := 26) rfl rfl rfl rfl) ?_
      refine ok (m_gfc (q := 29) rfl rfl rfl hr rfl rfl rfl) ?_
      refine ok (m_iload_n (q := 30) rfl rfl rfl rfl) ?_
      refine ok (m_ials (q := 31) rfl rfl rfl hr rfl rfl g5 rfl) ?_
      refine ok (m_iconst (q := 32) rfl rfl rfl) ?_
      refine ok (m_isub (q := 33) rfl rfl rfl) ?_
      obtain ⟨g9, hp⟩ := hp
      refine oke (e_ci (x_cv (q := 36) rfl rfl rfl rfl rfl rfl rfl rfl rfl rfl (is_st hr rfl rfl)) (ev_X12_mayBe (D := D) a1 (wr ((D 116 a1) - 1)) h1 (rg_wr _) g9) (Nat.le_trans (by decide) hd) hr) (fun s7 r8 => ?_)
      refine okc (m_ifeq (qt := 55) (qf := 39) rfl rfl (Ev_rg (ev_X12_mayBe (D := D) a1 (wr ((D 116 a1) - 1)) h1 (rg_wr _) g9) hr) rfl rfl) (fun c10 => ?_) (fun c10 => ?_)
      · replace hp := ip c10 hp
        refine ok (m_bipush (q := 57) rfl rfl rfl) ?_
        refine ok (m_iload_n (q := 58) rfl rfl rfl rfl) ?_
        refine ok (m_isub (q := 59) rfl rfl rfl) ?_
        exact ok (m_reti rfl rfl) (ok_iq r8 (rg_wr _) hp)
      · replace hp := iq c10 hp
        refine ok (m_aload_n (q := 40) rfl rfl rfl rfl) ?_
        refine ok (m_aload_n (q := 41) rfl rfl rfl rfl) ?_
        refine ok (m_gfc (q := 44) rfl rfl rfl r8 rfl rfl rfl) ?_
        refine ok (m_iload_n (q := 45) rfl rfl rfl rfl) ?_
        refine ok (m_ials (q := 46) rfl rfl rfl r8 rfl rfl g5 rfl) ?_
        refine ok (m_iconst (q := 47) rfl rfl rfl) ?_
        refine ok (m_isub (q := 48) rfl rfl rfl) ?_
        obtain ⟨g13, hp⟩ := hp
        refine oke (e_ci (x_cv (q := 51) rfl rfl rfl rfl rfl rfl rfl rfl rfl rfl (is_st r8 rfl rfl)) (ev_X12_toldHolder (D := D) (wr ((D 116 a1) - 1)) (rg_wr _) g13) (Nat.le_trans (by decide) hd) r8) (fun s11 r12 => ?_)
        refine ok (m_iload_n (q := 52) rfl rfl rfl rfl) ?_
        refine okc (m_cmpeq (qt := 60) (qf := 55) rfl rfl (Ev_rg (ev_X12_toldHolder (D := D) (wr ((D 116 a1) - 1)) (rg_wr _) g13) r8) h1 rfl rfl) (fun c14 => ?_) (fun c14 => ?_)
        · replace hp := ip c14 hp
          refine ok (m_iinc (q := 63) (lo' := [some (am_r (some 70)), some (am_i (wz (wr (a1 + 1)))), none]) rfl rfl rfl rfl rfl rfl rfl) ?_
          refine ok (m_goto (q := 6) rfl rfl rfl) ?_
          exact hp d hd _ r12
        · replace hp := iq c14 hp
          refine ok (m_bipush (q := 57) rfl rfl rfl) ?_
          refine ok (m_iload_n (q := 58) rfl rfl rfl rfl) ?_
          refine ok (m_isub (q := 59) rfl rfl rfl) ?_
          exact ok (m_reti rfl rfl) (ok_iq r12 (rg_wr _) hp)
set_option maxRecDepth 100000 in
theorem rl_X12_judge_68 {A : aA} {D D' : aD} (a1 : Int) (h1 : rg a1) {x : Int} (hp : (if D 70 1 ≤ a1 then (x = (-1) ∧ D' = D) else K_X12_judge_78 (1) A D a1 0 x D')) : K_X12_judge_68 (1) A D a1 x D' := by
  unfold K_X12_judge_68
  refine fun d hd s hr => ?_
  refine ok (m_iload_n (q := 69) rfl rfl rfl rfl) ?_
  refine ok (m_aload_n (q := 70) rfl rfl rfl rfl) ?_
  refine ok (m_gfs (z := 1) (q := 73) rfl rfl rfl hr rfl rfl rfl rfl rfl) ?_
  refine okc (m_cmpge (qt := 114) (qf := 76) rfl rfl h1 (Rp_rg hr 70 1) rfl rfl) (fun c15 => ?_) (fun c15 => ?_)
  · replace hp := ip c15 hp
    refine ok (m_iconst (q := 115) rfl rfl rfl) ?_
    exact ok (m_reti rfl rfl) (ok_iq hr ⟨by decide, by decide⟩ hp)
  · replace hp := iq c15 hp
    refine ok (m_iconst (q := 77) rfl rfl rfl) ?_
    refine ok (m_istore_n (q := 78) (lo' := [some (am_r (some 70)), some (am_i (wz a1)), some (am_i (wz 0))]) rfl rfl rfl rfl rfl) ?_
    exact hp d hd _ hr
set_option maxRecDepth 100000 in
theorem rl_X12_judge_78 {A : aA} {D D' : aD} (a1 : Int) (a2 : Int) (h1 : rg a1) (h2 : rg a2) {x : Int} (hp : (if D 70 3 ≤ a2 then K_X12_judge_68 (1) A D (wr (a1 + 1)) x D' else (p_X12_leaves D a1 a2) ∧ (if v_X12_leaves D a1 a2 = 0 then K_X12_judge_78 (1) A D a1 (wr (a2 + 1)) x D' else (x = wr ((wr (100 * a1)) + a2) ∧ D' = D)))) : K_X12_judge_78 (1) A D a1 a2 x D' := by
  unfold K_X12_judge_78
  refine fun d hd s hr => ?_
  refine ok (m_iload_n (q := 79) rfl rfl rfl rfl) ?_
  refine ok (m_aload_n (q := 80) rfl rfl rfl rfl) ?_
  refine ok (m_gfs (z := 3) (q := 83) rfl rfl rfl hr rfl rfl rfl rfl rfl) ?_
  refine okc (m_cmpge (qt := 108) (qf := 86) rfl rfl h2 (Rp_rg hr 70 3) rfl rfl) (fun c16 => ?_) (fun c16 => ?_)
  · replace hp := ip c16 hp
    refine ok (m_iinc (q := 111) (lo' := [some (am_r (some 70)), some (am_i (wz (wr (a1 + 1)))), some (am_i (wz a2))]) rfl rfl rfl rfl rfl rfl rfl) ?_
    refine ok (m_goto (q := 68) rfl rfl rfl) ?_
    refine ok (mk rfl (lo' := [some (am_r (some 70)), some (am_i (wz (wr (a1 + 1)))), none]) rfl) ?_
    exact hp d hd _ hr
  · replace hp := iq c16 hp
    refine ok (m_aload_n (q := 87) rfl rfl rfl rfl) ?_
    refine ok (m_iload_n (q := 88) rfl rfl rfl rfl) ?_
    refine ok (m_iload_n (q := 89) rfl rfl rfl rfl) ?_
    obtain ⟨g19, hp⟩ := hp
    refine oke (e_ci (x_cv (q := 92) rfl rfl rfl rfl rfl rfl rfl rfl rfl rfl (is_st hr rfl rfl)) (ev_X12_leaves (D := D) a1 a2 h1 h2 g19) (Nat.le_trans (by decide) hd) hr) (fun s17 r18 => ?_)
    refine okc (m_ifeq (qt := 102) (qf := 95) rfl rfl (Ev_rg (ev_X12_leaves (D := D) a1 a2 h1 h2 g19) hr) rfl rfl) (fun c20 => ?_) (fun c20 => ?_)
    · replace hp := ip c20 hp
      refine ok (m_iinc (q := 105) (lo' := [some (am_r (some 70)), some (am_i (wz a1)), some (am_i (wz (wr (a2 + 1))))]) rfl rfl rfl rfl rfl rfl rfl) ?_
      refine ok (m_goto (q := 78) rfl rfl rfl) ?_
      exact hp d hd _ r18
    · replace hp := iq c20 hp
      refine ok (m_bipush (q := 97) rfl rfl rfl) ?_
      refine ok (m_iload_n (q := 98) rfl rfl rfl rfl) ?_
      refine ok (m_imul (q := 99) rfl rfl rfl) ?_
      refine ok (m_iload_n (q := 100) rfl rfl rfl rfl) ?_
      refine ok (m_iadd (q := 101) rfl rfl rfl) ?_
      exact ok (m_reti rfl rfl) (ok_iq r18 (rg_wr _) hp)
theorem lv_M (hI : Inv D) (hT : Tk D F) (hw : fwD D = -1) {s p : Int} (hs : 0 ≤ s ∧ s < D 70 1) (hp : 0 ≤ p ∧ p < D 70 3) : p_X12_leaves F s p ∧ (Lv D s p ↔ ¬ v_X12_leaves F s p = 0) := by
  have hm := hT.1
  have hc := hI.iv.ct; unfold I_ct at hc
  have m := may_e hI hT hs hp
  have e1 : ∀ q, 0 ≤ q → q < 30 → wr (wr (30 * s) + q) = 30 * s + q := fun q a b => by rw [wr_id (z := 30 * s) (by omega) (by omega), wr_id (by omega) (by omega)]
  have e2 : ∀ o, 0 ≤ o → o < 24 → wr (wr (24 * p) + o) = 24 * p + o := fun o a b => by rw [wr_id (z := 24 * p) (by omega) (by omega), wr_id (by omega) (by omega)]
  have ep : wr (p + 1) = p + 1 := wr_id (by omega) (by omega)
  have td := hI.iv.td s hs.1 (by omega)
  have pth : p_th F p := by unfold p_th; rw [hm 70 rfl]; omega
  have e116 : F 116 = D 116 := hm 116 rfl
  have hth : (w_th F p = -1 ∧ ∀ s', 0 ≤ s' → s' < 24 → D 116 s' ≠ p + 1) ∨ ((0 ≤ w_th F p ∧ w_th F p < D 70 1) ∧ D 116 (w_th F p) = p + 1) := by
    unfold w_th
    rw [hm 70 rfl, e116]
    rcases fsi_spec (p := fun s => decide (D 116 s = p + 1)) (N := D 70 1) 0 with ⟨z1, z2⟩ | ⟨z1, z2, z3, _⟩
    · refine Or.inl ⟨z1, fun s' a b => ?_⟩
      by_cases c : s' < D 70 1
      · exact of_decide_eq_false (z2 s' a c)
      · have := (hI.iv.td s' a b).2.2.2 (by omega); omega
    · exact Or.inr ⟨⟨z1, z2⟩, of_decide_eq_true z3⟩
  by_cases ha : alw D s p
  · have hb := alw_b hI ha
    have nm : ¬ v_X12_mayBe F s p = 0 := fun q => m.2.1.mp q ha
    have pl : (∀ s', 0 ≤ s' → s' < 24 → D 116 s' = p + 1 → D 115 (24 * p + s) < D 115 (24 * p + s')) ↔ (w_th F p = -1 ∨ D 115 (24 * p + s) < D 115 (24 * p + w_th F p)) := by
      rcases hth with ⟨z1, z2⟩ | ⟨z1, z2⟩
      · exact ⟨fun _ => Or.inl z1, fun _ s' a b e => absurd e (z2 s' a b)⟩
      · refine ⟨fun q => Or.inr (q _ z1.1 (by omega) z2), fun q s' a b e => ?_⟩
        have := told_uni hw ⟨a, b⟩ ⟨z1.1, by omega⟩ (by omega) (by omega)
        rw [this]
        rcases q with q | q
        · omega
        · exact q
    unfold p_X12_leaves v_X12_leaves Lv
    rw [pl, if_neg nm, if_neg nm, ep, e116, hm 114 rfl, hm 115 rfl, e1 p hp.1 (by omega), e2 s hs.1 (by omega)]
    by_cases c1 : D 116 s = p + 1
    · rw [if_pos c1, if_pos c1]
      refine ⟨⟨m.1, by omega, trivial⟩, fun q => ?_, fun q => absurd rfl q⟩
      rcases q.2.1 with z | z
      · omega
      · rw [c1, show p + 1 - 1 = p by omega] at z; omega
    · rw [if_neg c1, if_neg c1]
      by_cases c2 : D 116 s = 0
      · rw [if_pos c2, if_pos c2]
        by_cases c3 : w_th F p = -1
        · rw [if_pos c3, if_pos c3, if_neg (by omega), if_neg (by omega), if_neg (by omega)]
          exact ⟨⟨m.1, by omega, pth, by omega, by omega⟩, fun _ => by decide, fun _ => ⟨ha, Or.inl c2, Or.inl c3⟩⟩
        · have y : 0 ≤ w_th F p ∧ w_th F p < D 70 1 := by rcases hth with z | z; exact absurd z.1 c3; exact z.1
          rw [if_neg c3, if_neg c3, e2 _ y.1 (by omega), if_neg (by omega), if_neg (by omega)]
          refine ⟨⟨m.1, by omega, pth, by omega, by omega, by omega⟩, ?_⟩
          by_cases k : D 115 (24 * p + w_th F p) ≤ D 115 (24 * p + s)
          · rw [if_pos k]; exact ⟨fun q => by rcases q.2.2 with z | z; exact absurd z c3; omega, fun q => absurd rfl q⟩
          · rw [if_neg k]; exact ⟨fun _ => by decide, fun _ => ⟨ha, Or.inl c2, Or.inr (by omega)⟩⟩
      · have e3 : wr (wr (wr (30 * s) + D 116 s) - 1) = 30 * s + (D 116 s - 1) := by
          rw [wr_id (z := 30 * s) (by omega) (by omega), wr_id (z := 30 * s + D 116 s) (by omega) (by omega), wr_id (by omega) (by omega)]; omega
        rw [if_neg c2, if_neg c2, e3]
        by_cases c3 : w_th F p = -1
        · rw [if_pos c3, if_pos c3]
          by_cases k : D 114 (30 * s + (D 116 s - 1)) ≤ D 114 (30 * s + p)
          · rw [if_pos k, if_pos k]
            exact ⟨⟨m.1, by omega, by omega, pth, by omega, trivial⟩, fun q => by rcases q.2.1 with z | z; exact absurd z c2; omega, fun q => absurd rfl q⟩
          · rw [if_neg k, if_neg k, if_neg (by omega)]
            exact ⟨⟨m.1, by omega, by omega, pth, by omega, by omega⟩, fun _ => by decide, fun _ => ⟨ha, Or.inr (by omega), Or.inl c3⟩⟩
        · have y : 0 ≤ w_th F p ∧ w_th F p < D 70 1 := by rcases hth with z | z; exact absurd z.1 c3; exact z.1
          rw [if_neg c3, if_neg c3, e2 _ y.1 (by omega)]
          by_cases k : D 114 (30 * s + (D 116 s - 1)) ≤ D 114 (30 * s + p)
          · rw [if_pos k, if_pos k]
            exact ⟨⟨m.1, by omega, by omega, pth, by omega, by omega, trivial⟩, fun q => by rcases q.2.1 with z | z; exact absurd z c2; omega, fun q => absurd rfl q⟩
          · rw [if_neg k, if_neg k]
            refine ⟨⟨m.1, by omega, by omega, pth, by omega, by omega, by omega⟩, ?_⟩
            by_cases k2 : D 115 (24 * p + w_th F p) ≤ D 115 (24 * p + s)
            · rw [if_pos k2]; exact ⟨fun q => by rcases q.2.2 with z | z; exact absurd z c3; omega, fun q => absurd rfl q⟩
            · rw [if_neg k2]; exact ⟨fun _ => by decide, fun _ => ⟨ha, Or.inr (by omega), Or.inr (by omega)⟩⟩
  · have z := m.2.1.mpr ha
    unfold p_X12_leaves v_X12_leaves
    rw [if_pos z, if_pos z]
    exact ⟨⟨m.1, trivial⟩, fun q => absurd q.1 ha, fun q => absurd rfl q⟩
theorem wr_M (hI : Inv D) (hT : Tk D F) {s : Int} (hs : 0 ≤ s ∧ s < D 70 1) (h : 0 < D 116 s) (hpre : ∀ s', 0 ≤ s' → s' < s → ¬ Wrg D s') : (w_th F (D 116 s - 1) = s ↔ ¬ ∃ s', 0 ≤ s' ∧ s' < s ∧ D 116 s' = D 116 s) := by
  have hm := hT.1
  unfold w_th
  rw [hm 70 rfl, hm 116 rfl]
  constructor
  · rintro e ⟨s', a, b, c⟩
    rcases fsi_spec (p := fun t => decide (D 116 t = D 116 s - 1 + 1)) (N := D 70 1) 0 with ⟨z1, z2⟩ | ⟨z1, z2, z3, z4⟩
    · omega
    · have := of_decide_eq_false (z4 s' a (by omega)); omega
  · intro q
    refine fsi_un (by omega) (Or.inr ⟨hs.1, hs.2, decide_eq_true (by omega), fun i a b => decide_eq_false (fun z => q ⟨i, a, b, by omega⟩)⟩)
/-- the answer -/
noncomputable def jgA (D : aD) : Int := if fwD D = -1 then flA D 0 else -2 - fwD D
theorem jM (hI : Inv D) (hm : Sm F D) : ∃ D', Sm D' D ∧ Ev 1 45 196 [am_r (some 70)] A F (ri (jgA D)) A D' := by
  have hc := hI.iv.ct; unfold I_ct at hc
  have hIF := Inv_cg hm hI
  have hTF := Tk_wtp (D := F) hIF
  have hT : Tk D (u_wtp F) := by
    obtain ⟨t1, t2, t3⟩ := hTF
    refine ⟨t1.trans hm, fun p a b => ?_, fun s a b => ?_⟩
    · rw [t2 p a (by rw [hm 70 rfl]; exact b), hold_cg hm, hm 70 rfl]
    · rw [t3 s a (by rw [hm 70 rfl]; exact b), in_cg hm, hm 70 rfl]
  generalize hG : u_wtp F = G at hT
  have e70 : G 70 = D 70 := hT.1 70 rfl
  have e116 : G 116 = D 116 := hT.1 116 rfl
  have K68 : fwD D = -1 → ∀ (r : Nat) (s : Int), s + r = D 70 1 → 0 ≤ s → K_X12_judge_68 1 A G s (flA D s) G := by
    intro hw r
    induction r with
    | zero =>
      intro s hr s0
      refine rl_X12_judge_68 _ (rgb (by omega) (by omega)) ?_
      rw [if_pos (by rw [e70]; omega)]
      have : fsD D s = -1 := fsi_un (by omega) (Or.inl ⟨rfl, fun i a b => decide_eq_false (fun z => z (fsi_un (by omega) (Or.inl ⟨rfl, fun p x y => lvB_f.mpr (fun w => by have := w.1.1.2; omega)⟩)))⟩)
      unfold flA; rw [if_pos this]; exact ⟨rfl, rfl⟩
    | succ r ih =>
      intro s hr s0
      have inner : ∀ (q : Nat) (p : Int), p + q = D 70 3 → 0 ≤ p → (∀ p', 0 ≤ p' → p' < p → ¬ Lv D s p') → K_X12_judge_78 1 A G s p (flA D s) G := by
        intro q
        induction q with
        | zero =>
          intro p hq p0 h
          refine rl_X12_judge_78 _ _ (rgb (by omega) (by omega)) (rgb (by omega) (by omega)) ?_
          have fp : fpD D s = -1 := fsi_un (by omega) (Or.inl ⟨rfl, fun i a b => lvB_f.mpr (fun w => by
            by_cases c : i < p
            · exact h i a c w
            · have := w.1.2.1.2; omega)⟩)
          have e : flA D s = flA D (s + 1) := by unfold flA fsD; rw [fsi_f (by omega) (decide_eq_false (fun z => z fp))]
          rw [if_pos (by rw [e70]; omega), wr_id (by omega) (by omega), e]
          exact ih (s + 1) (by omega) (by omega)
        | succ q ihq =>
          intro p hq p0 h
          obtain ⟨l1, l2⟩ := lv_M hI hT hw (s := s) (p := p) ⟨s0, by omega⟩ ⟨p0, by omega⟩
          refine rl_X12_judge_78 _ _ (rgb (by omega) (by omega)) (rgb (by omega) (by omega)) ?_
          rw [if_neg (by rw [e70]; omega)]
          refine ⟨l1, ?_⟩
          by_cases c : v_X12_leaves G s p = 0
          · rw [if_pos c, wr_id (by omega) (by omega)]
            exact ihq (p + 1) (by omega) (by omega) (fun p' a b => by
              by_cases e : p' = p
              · rw [e]; exact fun z => l2.mp z c
              · exact h p' a (by omega))
          · rw [if_neg c]
            have lv := l2.mpr c
            have fp : fpD D s = p := fsi_un (by omega) (Or.inr ⟨p0, by omega, lvB_t.mpr lv, fun i a b => lvB_f.mpr (h i a b)⟩)
            have fs : fsD D s = s := by unfold fsD; exact fsi_t (by omega) (decide_eq_true (by rw [fp]; omega))
            unfold flA
            rw [fs, if_neg (by omega), fp, wr_id (z := 100 * s) (by omega) (by omega), wr_id (by omega) (by omega)]
            exact ⟨rfl, rfl⟩
      refine rl_X12_judge_68 _ (rgb (by omega) (by omega)) ?_
      rw [if_neg (by rw [e70]; omega)]
      exact inner (D 70 3).toNat 0 (by omega) (by omega) (fun p' a b => by omega)
  have fwN : ∀ s, 0 ≤ s → fsi (wrB D) s (D 70 1) = fsi (wrB D) s 24 := fun s a => fsi_ex a (by omega) (fun i x y => wrB_f.mpr (fun z => by
    have := (hI.iv.td i (by omega) y).2.2.2 x
    have := z.1
    omega))
  have K6 : ∀ (r : Nat) (s : Int), s + r = D 70 1 → 0 ≤ s → (∀ s', 0 ≤ s' → s' < s → ¬ Wrg D s') → K_X12_judge_6 1 A G s (if fsi (wrB D) s 24 = -1 then flA D 0 else -2 - fsi (wrB D) s 24) G := by
    intro r
    induction r with
    | zero =>
      intro s hr s0 h
      refine rl_X12_judge_6 _ (rgb (by omega) (by omega)) ?_
      have e : fsi (wrB D) s 24 = -1 := by rw [← fwN s s0]; exact fsi_end (by omega)
      rw [if_pos (by rw [e70]; omega), if_pos e]
      refine K68 ?_ (D 70 1).toNat 0 (by omega) (by omega)
      unfold fwD
      rw [← fwN 0 (by omega)]
      exact fsi_un (by omega) (Or.inl ⟨rfl, fun i a b => wrB_f.mpr (h i a (by omega))⟩)
    | succ r ih =>
      intro s hr s0 h
      have td := hI.iv.td s s0 (by omega)
      have go : ¬ Wrg D s → K_X12_judge_6 1 A G (wr (s + 1)) (if fsi (wrB D) s 24 = -1 then flA D 0 else -2 - fsi (wrB D) s 24) G := fun z => by
        rw [wr_id (by omega) (by omega), fsi_f (by omega) (wrB_f.mpr z)]
        exact ih (s + 1) (by omega) (by omega) (fun s' a b => by
          by_cases e : s' = s
          · rw [e]; exact z
          · exact h s' a (by omega))
      have st : Wrg D s → (if fsi (wrB D) s 24 = -1 then flA D 0 else -2 - fsi (wrB D) s 24) = wr (-2 - s) := fun z => by
        rw [fsi_t (by omega) (wrB_t.mpr z), if_neg (by omega), wr_id (by omega) (by omega)]
      refine rl_X12_judge_6 _ (rgb (by omega) (by omega)) ?_
      rw [if_neg (by rw [e70]; omega), e116]
      refine ⟨by omega, ?_⟩
      by_cases c1 : D 116 s ≤ 0
      · rw [if_pos c1]; exact go (fun z => by have := z.1; omega)
      · rw [if_neg c1, wr_id (z := D 116 s - 1) (by omega) (by omega)]
        have m := may_e hI hT (s := s) (p := D 116 s - 1) ⟨s0, by omega⟩ ⟨by omega, by omega⟩
        refine ⟨m.1, ?_⟩
        by_cases c2 : v_X12_mayBe G s (D 116 s - 1) = 0
        · rw [if_pos c2]
          exact ⟨st ⟨by omega, Or.inl (m.2.1.mp c2)⟩, rfl⟩
        · rw [if_neg c2]
          refine ⟨by unfold p_th; rw [e70]; omega, ?_⟩
          have ha : alw D s (D 116 s - 1) := Classical.not_not.mp (fun z => c2 (m.2.1.mpr z))
          have wm := wr_M hI hT ⟨s0, by omega⟩ (by omega) h
          by_cases c3 : w_th G (D 116 s - 1) = s
          · rw [if_pos c3]
            exact go (fun z => by
              rcases z.2 with y | y
              · exact y ha
              · exact wm.mp c3 y)
          · rw [if_neg c3]
            exact ⟨st ⟨by omega, Or.inr (Classical.not_not.mp (fun z => c3 (wm.mpr z)))⟩, rfl⟩
  refine ⟨G, hT.1, rl_X12_judge ⟨hIF, ?_⟩⟩
  rw [hG]
  exact K6 (D 70 1).toNat 0 (by omega) (by omega) (fun s' a b => by omega)
theorem c_judge (hR : Rp 0 A D s) (hI : Inv D) : Rd 96 196 [] A D := by
  have hc := hI.iv.ct; unfold I_ct at hc
  refine ⟨jgA D, (Ev_pure (m := 1) (c := 9) (by decide) (fun F hF => ?_)).le (by decide), (Ev_pure (m := 1) (c := 45) (by decide) (fun F hF => ?_)).le (by decide)⟩
  · have hm := Sm_le hF
    have hIF := Inv_cg hm hI
    have pp := pp_of hR hI hm
    have hPP := PP_pp pp
    have pf : p_fw (u_pp F) := ⟨F, hIF, hPP⟩
    obtain ⟨f1, _, f3⟩ := Classical.choose_spec (fw_ex (u_pp F))
    obtain ⟨g1, g2⟩ := f3 F hIF hPP
    replace g1 : w_fw (u_pp F) = fwD F := g1
    have hPPH : PP F (u_fw (u_pp F)) := by
      refine ⟨fun c z => ?_, fun s a b => ?_⟩
      · have n1 : c ≠ 59 := by rintro rfl; cases z
        have n2 : c ≠ 61 := by rintro rfl; cases z
        rw [u_fw_c (u_pp F) c n1 n2]; exact hPP.1 c z
      · exact PS_cg (by rw [u_fw_c (u_pp F) 55 (by decide) (by decide)]) (fun p _ _ => by rw [u_fw_c (u_pp F) 56 (by decide) (by decide), u_fw_c (u_pp F) 57 (by decide) (by decide)]; exact ⟨rfl, rfl⟩) (fun i _ _ => by rw [u_fw_c (u_pp F) 54 (by decide) (by decide)]) (hPP.2 s a b)
    have pl : fwD F = -1 → p_flv (u_fw (u_pp F)) := fun q => ⟨F, hIF, hPPH, g2 q, q⟩
    have ev := ev_X11_judge (A := A) (D := F) (by
      unfold p_X11_judge
      refine ⟨pp, pf, ?_⟩
      by_cases q : w_fw (u_pp F) = -1
      · rw [if_pos q]; exact pl (by rw [← g1]; exact q)
      · rw [if_neg q]; trivial)
    have vE : v_X11_judge F = jgA D := by
      unfold v_X11_judge jgA
      rw [g1, fw_cg hm]
      by_cases q : fwD D = -1
      · rw [if_pos q, if_pos q]
        have qF : fwD F = -1 := by rw [fw_cg hm]; exact q
        have := (Classical.choose_spec (flv_ex (u_fw (u_pp F)))).2 F hIF hPPH (g2 qF) qF
        replace this : w_flv (u_fw (u_pp F)) = flA F 0 := this
        rw [this, fl_cg hm]
      · rw [if_neg q, if_neg q]
        have : -1 ≤ fwD D ∧ fwD D < 24 := by
          unfold fwD
          rcases fsi_spec (p := wrB D) (N := 24) 0 with z | z <;> omega
        exact wr_id (by omega) (by omega)
    refine ⟨_, Ev_i ev vE, fun c z => ?_⟩
    unfold u_X11_judge
    rw [ite_self]
    exact (hPPH.1 c z).trans (hF c z)
  · have hm := Sm_le hF
    obtain ⟨D', a, b⟩ := jM (A := A) hI hm
    exact ⟨D', b, fun c z => a c z⟩
end Jm_
