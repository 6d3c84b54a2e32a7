/-! Dealt: both sides. -/
section Dc
variable {n : Nat} {A A' : aA} {D D' E F : aD} {d : Nat} {s : am_S}
def p_deals (D : aD) : Prop := Inv D
theorem C29 (hI : Inv D) (r : Nat) : ∀ (s : Int) (F : aD), s + r = D 70 1 → 0 ≤ s → Tk D F → (∀ p, 0 ≤ p → p < D 70 3 → F 118 p = -1) → (∀ s', 0 ≤ s' → s' < s → F 117 s' = -1 ∧ F 119 s' = 1) → ∃ D', Sm D' D ∧ Pst D (wM D D') ∧ ∀ A, K_X12_deals_29 1 A F s D' := by
  have hc := hI.iv.ct; unfold I_ct at hc
  induction r with
  | zero =>
    intro s F hr s0 hT h1 h2
    have hJ : Jm D F := by
      refine ⟨hT, Q_0 (fun s' a b => ?_) (fun p a b => ?_) (fun s' p q => ?_), fun s' a b => by have := h2 s' a (by omega); omega⟩
      · show (if s' < D 70 1 then F 117 s' else -1) = -1
        by_cases c : s' < D 70 1
        · rw [if_pos c]; exact (h2 s' a (by omega)).1
        · rw [if_neg c]
      · show (if p < D 70 3 then F 118 p else -1) = -1
        by_cases c : p < D 70 3
        · rw [if_pos c]; exact h1 p a c
        · rw [if_neg c]
      · have b := alw_b hI q.1
        have x := q.2
        rw [(h2 s' q.1.1.1 (by have := q.1.1.2; omega)).2] at x
        omega
    obtain ⟨D', a, b, K⟩ := C59 hI (14 * 24) F hJ (by
      have := (sm_b (f := fun s => 14 - F 119 s) (lo := 0) (hi := 14) (N := D 70 1) (fun s' a b => by have := hJ.2.2 s' a b; show 0 ≤ 14 - F 119 s' ∧ 14 - F 119 s' ≤ 14; omega) (D 70 1) (by omega) (Int.le_refl _)).2
      omega)
    refine ⟨D', a, b, fun A => rl_X12_deals_29 _ (rgb (by omega) (by omega)) ?_⟩
    rw [if_pos (by rw [hT.1 70 rfl]; omega)]; exact K A
  | succ r ih =>
    intro s F hr s0 hT h1 h2
    obtain ⟨D', a, b, K⟩ := ih (s + 1) (up (up F 117 s (-1)) 119 s 1) (by omega) (by omega) (Tk_u (Tk_u hT (Or.inl rfl)) (Or.inr (Or.inr rfl))) (fun p a b => by rw [up_c (by decide), up_c (by decide)]; exact h1 p a b) (fun s' a b => by
      rw [up_c (show (117 : Nat) ≠ 119 by decide)]
      by_cases e : s' = s
      · rw [e, up_eq, up_eq]; exact ⟨rfl, rfl⟩
      · rw [up_i e, up_i e, up_c (by decide)]; exact h2 s' a (by omega))
    refine ⟨D', a, b, fun A => rl_X12_deals_29 _ (rgb (by omega) (by omega)) ?_⟩
    rw [if_neg (by rw [hT.1 70 rfl]; omega), wr_id (by omega) (by omega)]
    exact ⟨by omega, K A⟩
theorem C6 (hI : Inv D) (r : Nat) : ∀ (p : Int) (F : aD), p + r = D 70 3 → 0 ≤ p → Tk D F → (∀ p', 0 ≤ p' → p' < p → F 118 p' = -1) → ∃ D', Sm D' D ∧ Pst D (wM D D') ∧ ∀ A, K_X12_deals_6 1 A F p D' := by
  have hc := hI.iv.ct; unfold I_ct at hc
  induction r with
  | zero =>
    intro p F hr p0 hT h1
    obtain ⟨D', a, b, K⟩ := C29 hI (D 70 1).toNat 0 F (by omega) (by omega) hT (fun p' a b => h1 p' a (by omega)) (fun s' a b => by omega)
    refine ⟨D', a, b, fun A => rl_X12_deals_6 _ (rgb (by omega) (by omega)) ?_⟩
    rw [if_pos (by rw [hT.1 70 rfl]; omega)]; exact K A
  | succ r ih =>
    intro p F hr p0 hT h1
    obtain ⟨D', a, b, K⟩ := ih (p + 1) (up F 118 p (-1)) (by omega) (by omega) (Tk_u hT (Or.inr (Or.inl rfl))) (fun p' a b => by
      by_cases e : p' = p
      · rw [e, up_eq]
      · rw [up_i e]; exact h1 p' a (by omega))
    refine ⟨D', a, b, fun A => rl_X12_deals_6 _ (rgb (by omega) (by omega)) ?_⟩
    rw [if_neg (by rw [hT.1 70 rfl]; omega), wr_id (by omega) (by omega)]
    exact ⟨by omega, K A⟩
theorem deals_ex (D : aD) : ∃ D', Sm D' D ∧ (p_deals D → Pst D (wM D D') ∧ ∀ A, Ev 1 45 191 [am_r (some 70)] A D rv A D') := by
  by_cases hI : p_deals D
  · have hI' : Inv D := hI
    have hc := hI'.iv.ct; unfold I_ct at hc
    obtain ⟨D', a, b, K⟩ := C6 hI' (D 70 3).toNat 0 (u_wtp D) (by omega) (by omega) (Tk_wtp hI) (fun p' a b => by omega)
    exact ⟨D', a, fun _ => ⟨b, fun A => rl_X12_deals ⟨hI, K A⟩⟩⟩
  · exact ⟨D, Sm.refl D, fun q => absurd q hI⟩
noncomputable def u_deals (D : aD) : aD := Classical.choose (deals_ex D)
theorem u_deals_s (D : aD) : Sm (u_deals D) D := (Classical.choose_spec (deals_ex D)).1
theorem ev_X12_deals (hp : p_deals D) : Ev 1 45 191 [am_r (some 70)] A D rv A (u_deals D) := ((Classical.choose_spec (deals_ex D)).2 hp).2 A
theorem fl_deals (D : aD) (w : Nat) (i : Int) (hw : Nat.ble w 49 = true) : u_deals D (900 + w) i = D (900 + w) i := by
  have := Nat.le_of_ble_eq_true hw
  rw [u_deals_s D (900 + w) (by rw [lev_hi (c := 900 + w) (by omega) (by omega) (by omega)]; rfl)]
abbrev P_X12_dealt : Nat → Option am_E := am_fy tb_X12_dealt
noncomputable def v_X12_dealt (D : aD) (a1 : Int) : Int := if v_X12_isServant D a1 = 0 then (-1) else (u_deals D) 117 a1
noncomputable def u_X12_dealt (D : aD) (a1 : Int) : aD := if v_X12_isServant D a1 = 0 then D else (u_deals D)
def p_X12_dealt (D : aD) (a1 : Int) : Prop := (if v_X12_isServant D a1 = 0 then True else (p_deals D) ∧ (0 ≤ a1 ∧ a1 < 24))
set_option maxRecDepth 100000 in
theorem ev_X12_dealt {A : aA} {D : aD} (a1 : Int) (h1 : rg a1) (hp : p_X12_dealt D a1) : Ev (1) 46 193 [am_r (some 70), am_i (wz a1)] A D (ri (v_X12_dealt D a1)) A (u_X12_dealt D a1) := by
  unfold p_X12_dealt at hp
  unfold v_X12_dealt u_X12_dealt
  refine Ev_of (c := 45) (P := P_X12_dealt) (lo := [some (am_r (some 70)), some (am_i (wz a1))]) rfl rfl rfl (fun d hd s hr => ?_)
  refine ok (m_aload_n (q := 1) rfl rfl rfl rfl) ?_
  refine ok (m_iload_n (q := 2) rfl rfl rfl rfl) ?_
  refine oke (e_ci (x_cv (q := 5) rfl rfl rfl rfl rfl rfl rfl rfl rfl rfl (is_st hr rfl rfl)) (ev_X12_isServant (D := D) a1 h1) (Nat.le_trans (by decide) hd) hr) (fun s1 r2 => ?_)
  refine okf (m_ifne (qt := 10) (qf := 8) rfl rfl (Ev_rg (ev_X12_isServant (D := D) a1 h1) hr) rfl rfl) (fun c3 => ?_) (fun c3 => ?_)
  · refine ok (m_iconst (q := 9) rfl rfl rfl) ?_
    exact ok (m_reti rfl rfl) (ok_i r2 ⟨by decide, by decide⟩)
  · replace hp := iq c3 hp
    refine ok (m_aload_n (q := 11) rfl rfl rfl rfl) ?_
    obtain ⟨g6, hp⟩ := hp
    refine oke (e_cvd (x_cv (q := 14) rfl rfl rfl rfl rfl rfl rfl rfl rfl rfl (is_st r2 rfl rfl)) (ev_X12_deals (D := D) g6) (Nat.le_trans (by decide) hd) r2) (fun s4 r5 => ?_)
    refine ok (m_aload_n (q := 15) rfl rfl rfl rfl) ?_
    refine ok (m_gfc (q := 18) rfl rfl rfl r5 rfl rfl rfl) ?_
    refine ok (m_iload_n (q := 19) rfl rfl rfl rfl) ?_
    have g7 := hp
    refine ok (m_ials (q := 20) rfl rfl rfl r5 rfl rfl g7 rfl) ?_
    exact ok (m_reti rfl rfl) (ok_i r5 (Rp_rg r5 117 a1))
theorem fl_X12_dealt (D : aD) (a1 : Int) (t : Nat) (i : Int) (ht : Nat.ble t 49 = true) : u_X12_dealt D a1 (900 + t) i = D (900 + t) i := fl_if (rfl) ((fl_deals D t i ht).trans (rfl))
theorem alw_cg (hm : Sm F D) : alw F = alw D := by
  funext s p
  unfold alw
  simp only [hm 70 rfl, hm 114 rfl, hm 115 rfl, in_cg hm, hold_cg hm, fit_cg hm]
theorem Pst_cg (hm : Sm F D) {w : Int → Int} (h : Pst F w) : Pst D w := by
  unfold Pst rS gP at *
  rw [alw_cg hm, hm 114 rfl, hm 115 rfl] at h; exact h
theorem Pst_eq (hI : Inv D) {w w' : Int → Int} (h : Pst D w) (h' : Pst D w') : ∀ s, 0 ≤ s → s < 24 → w s = w' s := by
  obtain ⟨h1, a1, q1, f1⟩ := h
  obtain ⟨h2, a2, q2, f2⟩ := h'
  exact fun s a b => Q_same (alw_H hI) q1 f1 q2 f2 s a b
theorem pp_of (hR : Rp 0 A D s) (hI : Inv D) (hm : Sm F D) : p_pp F := by
  have hc := hI.iv.ct; unfold I_ct at hc
  have hIF := Inv_cg hm hI
  refine ⟨hIF, ?_, fun i a b => ?_⟩
  · rw [hm 914 rfl, hm 70 rfl, show w_bookOf F (D 70 0) = w_bookOf D (D 70 0) by unfold w_bookOf; rw [if_cg hm]]
    exact fg_bookOf (D 70 0) (rgb (by omega) (by omega)) hI.rb hR
  · rw [hm 910 rfl]; rw [hm 1002 rfl] at b; exact Rp_el0 hR ⟨a, b⟩
theorem c_dealt (hR : Rp 0 A D s) (hI : Inv D) (a : Int) (h1 : rg a) : Rd 94 193 [am_i (wz a)] A D := by
  have hc := hI.iv.ct; unfold I_ct at hc
  by_cases q : v_X12_isServant D a = 0
  · refine ⟨-1, (Ev_pure (m := 1) (c := 9) (by decide) (fun F hF => ?_)).le (by decide), (Ev_pure (m := 1) (c := 46) (by decide) (fun F hF => ?_)).le (by decide)⟩
    · have hm := Sm_le hF
      have hIF := Inv_cg hm hI
      have e : v_X11_isServant F a = 0 := by rw [xSv hIF.iv]; unfold v_X12_isServant; rw [hm 70 rfl]; exact q
      have ev := ev_X11_dealt (A := A) (D := F) a h1 (by unfold p_X11_dealt; rw [if_pos e]; trivial)
      unfold v_X11_dealt u_X11_dealt at ev
      rw [if_pos e, if_pos e] at ev
      exact ⟨F, ev, hF⟩
    · have hm := Sm_le hF
      have e : v_X12_isServant F a = 0 := by unfold v_X12_isServant; rw [hm 70 rfl]; exact q
      have ev := ev_X12_dealt (A := A) (D := F) a h1 (by unfold p_X12_dealt; rw [if_pos e]; trivial)
      unfold v_X12_dealt u_X12_dealt at ev
      rw [if_pos e, if_pos e] at ev
      exact ⟨F, ev, hF⟩
  · have hs := (isSv hI.iv).mp q
    have dl := (Classical.choose_spec (deals_ex D)).2 hI
    refine ⟨wM D (u_deals D) a, (Ev_pure (m := 1) (c := 9) (by decide) (fun F hF => ?_)).le (by decide), (Ev_pure (m := 1) (c := 46) (by decide) (fun F hF => ?_)).le (by decide)⟩
    · have hm := Sm_le hF
      have hIF := Inv_cg hm hI
      have e : ¬ v_X11_isServant F a = 0 := by rw [xSv hIF.iv]; unfold v_X12_isServant; rw [hm 70 rfl]; exact q
      have pp := pp_of hR hI hm
      have hPP := PP_pp pp
      have pr : p_pair (u_pp F) := ⟨F, hIF, hPP⟩
      have ev := ev_X11_dealt (A := A) (D := F) a h1 (by unfold p_X11_dealt; rw [if_neg e]; exact ⟨pp, pr, hs.1, by omega⟩)
      unfold v_X11_dealt u_X11_dealt at ev
      rw [if_neg e, if_neg e] at ev
      obtain ⟨s1, _, s3⟩ := Classical.choose_spec (pair_ex (u_pp F))
      have pst := Pst_cg hm (s3 F hIF hPP)
      have eq := Pst_eq hI pst dl.1 a hs.1 (by omega)
      refine ⟨_, Ev_i ev eq, fun c z => ?_⟩
      have n1 : c ≠ 59 := by rintro rfl; cases z
      have n2 : c ≠ 60 := by rintro rfl; cases z
      have n3 : c ≠ 61 := by rintro rfl; cases z
      rw [show u_pair (u_pp F) c = u_pp F c from s1 c n1 n2 n3, (u_pp_c F).sm c z]; exact hF c z
    · have hm := Sm_le hF
      have hIF := Inv_cg hm hI
      have e : ¬ v_X12_isServant F a = 0 := by unfold v_X12_isServant; rw [hm 70 rfl]; exact q
      have ev := ev_X12_dealt (A := A) (D := F) a h1 (by unfold p_X12_dealt; rw [if_neg e]; exact ⟨hIF, hs.1, by omega⟩)
      unfold v_X12_dealt u_X12_dealt at ev
      rw [if_neg e, if_neg e] at ev
      have dF := (Classical.choose_spec (deals_ex F)).2 hIF
      have pst := Pst_cg hm dF.1
      have eq := Pst_eq hI pst dl.1 a hs.1 (by omega)
      have e1 : wM F (u_deals F) a = u_deals F 117 a := by
        show (if a < F 70 1 then u_deals F 117 a else -1) = _
        rw [hm 70 rfl, if_pos hs.2]
      refine ⟨_, Ev_i ev (by rw [← e1]; exact eq), fun c z => (u_deals_s F c z).trans (hF c z)⟩
end Dc
