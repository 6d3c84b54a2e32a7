/-! Wishes: both sides. -/
section Wz
variable {n : Nat} {A A' : aA} {D D' D0 : aD} {d : Nat} {s : am_S}
theorem up_cgf {X Y : aD} {c c0 : Nat} {i v : Int} (h : X c = Y c) : up X c0 i v c = up Y c0 i v c := by
  funext j; unfold up; split
  · rfl
  · rw [h]
theorem rwD_cg {E : aD} {u : Nat} {i : Int} {m : Nat} {src src' : Int → Int} (h : ∀ c, Nat.ble (lev c) 0 = true → E c = D c) (hs : ∀ j : Int, 0 ≤ j → j < m → src j = src' j) : ∀ c, Nat.ble (lev c) 0 = true → rwD E u i m src c = rwD D u i m src' c := by
  intro c hc
  unfold rwD
  rw [h 950 rfl, h 951 rfl]
  refine up_cgf (up_cgf (up_cgf (up_cgf ?_)))
  funext j
  unfold rw0
  by_cases q : c = 1001 + 100 * u ∧ 1024 * i ≤ j ∧ j < 1024 * i + 1024
  · rw [if_pos q, if_pos q]
    by_cases q2 : j - 1024 * i < m
    · rw [if_pos q2, if_pos q2]; exact hs _ (by omega) q2
    · rw [if_neg q2, if_neg q2]
  · rw [if_neg q, if_neg q, h c hc]
theorem l35 {c : Nat} (h : Nat.ble (lev c) 0 = true) : c ≠ 35 := by rintro rfl; cases h
theorem wi_no (hI : Inv D) {a1 a2 : Int} {l : Int64} (h1 : rg a1) (h2 : rg a2) (q : ¬ ((a1 = 0 ∨ a1 = 1) ∧ (0 ≤ a2 ∧ a2 < if a1 = 0 then D 70 1 else D 70 3) ∧ 0 ≤ o_lcmp l (0 : Int64) ∧ wp l (if a1 = 0 then D 70 3 else D 70 1) 13 0 ≠ -1)) : Ev 0 9 93 [am_r (some 32), am_i (wz a1), am_i (wz a2), am_l l] A D (ri (-1)) A D := by
  refine Ev_pure (m := 1) (by decide) (fun F hF => ?_)
  have hIF : Iv F := Iv_cg (Sm_le hF) hI.iv
  have hc := hIF.ct; unfold I_ct at hc
  have e70 : F 70 = D 70 := hF 70 rfl
  have hz : ∀ o, o = (if a1 = 0 then D 70 3 else D 70 1) → (a1 = 0 ∨ a1 = 1) → (0 ≤ a2 ∧ a2 < if a1 = 0 then D 70 1 else D 70 3) → w_rw F l o = -1 := fun o ho z1 z2 => by
    unfold w_rw
    by_cases c : 0 ≤ o_lcmp l 0
    · rw [if_pos c, ho]; exact Decidable.not_not.mp (fun y => q ⟨z1, z2, c, y⟩)
    · rw [if_neg c]
  by_cases c0 : a1 = 0
  · subst c0
    by_cases c1 : v_X12_isServant F a2 = 0
    · refine ⟨F, rl_X11_wish 0 a2 l h1 h2 ?_, hF⟩
      rw [if_pos rfl, xSv hIF, if_pos c1, if_neg (by decide)]; exact ⟨rfl, rfl, rfl⟩
    · have z := (isSv hIF).mp c1
      refine ⟨u_rw F l (F 1002 1), rl_X11_wish 0 a2 l h1 h2 ?_, fun c q => (u_rw_c F l _ c (l35 q)).trans (hF c q)⟩
      rw [if_pos rfl, xSv hIF, if_neg c1, if_neg (by decide)]
      refine rl_X11_wish_75 a2 1 _ l h2 ⟨by decide, by decide⟩ ⟨by decide, by decide⟩ (rgb (by omega) (by omega)) ?_
      rw [if_pos (hz _ (by rw [if_pos rfl, hc.2.2.2.1.1, e70]) (Or.inl rfl) (by rw [if_pos rfl, ← e70]; exact z))]
      exact ⟨rfl, rfl, rfl⟩
  · by_cases c2 : a1 = 1
    · subst c2
      by_cases c1 : v_X12_isPlace F a2 = 0
      · refine ⟨F, rl_X11_wish 1 a2 l h1 h2 ?_, hF⟩
        rw [if_neg (by decide), if_pos rfl, xPl hIF, if_pos c1]; exact ⟨rfl, rfl, rfl⟩
      · have z := (isPl hIF).mp c1
        refine ⟨u_rw F l (F 1002 0), rl_X11_wish 1 a2 l h1 h2 ?_, fun c q => (u_rw_c F l _ c (l35 q)).trans (hF c q)⟩
        rw [if_neg (by decide), if_pos rfl, xPl hIF, if_neg c1]
        refine rl_X11_wish_75 a2 0 _ l h2 ⟨by decide, by decide⟩ ⟨by decide, by decide⟩ (rgb (by omega) (by omega)) ?_
        rw [if_pos (hz _ (by rw [if_neg (by decide), hc.2.1.1, e70]) (Or.inr rfl) (by rw [if_neg (by decide), ← e70]; exact z))]
        exact ⟨rfl, rfl, rfl⟩
    · refine ⟨F, rl_X11_wish a1 a2 l h1 h2 ?_, hF⟩
      rw [if_neg c0, if_neg c2]; exact ⟨rfl, rfl, rfl⟩
theorem c_wisha (hI : Inv D) (hh : D 950 0 ≤ 100000000 ∧ D 951 0 ≤ 100000000) {a2 : Int} {l : Int64} (g2 : 0 ≤ a2 ∧ a2 < D 70 1) (h0 : 0 ≤ o_lcmp l (0 : Int64)) (hw : wp l (D 70 3) 13 0 ≠ -1) : Wr 93 186 [am_i (wz 0), am_i (wz a2), am_l l] A D := by
  have hc := hI.iv.ct; unfold I_ct at hc
  have hp := wp_p (l := l) (o := D 70 3) 13 0 (by omega) hw (fun k a b => by omega)
  have h2 : rg a2 := rgb (by omega) (by omega)
  obtain ⟨m, hm⟩ : ∃ m : Nat, wp l (D 70 3) 13 0 = m := ⟨(wp l (D 70 3) 13 0).toNat, by omega⟩
  rw [hm] at hp hw
  have hm13 : m ≤ 13 := by omega
  have eX : Ev 0 9 93 [am_r (some 32), am_i (wz 0), am_i (wz a2), am_l l] A D (ri m) (upA A 20 a2 (D 950 0).toNat) (rwD D 20 a2 m (fun j => dgt l (m - 1 - j) - 1)) := by
    refine Ev_low (m := 1) (by decide) (fun hg => rg_rwD hg (fun j => by have := dgt_b l (m - 1 - j); exact rgb (by omega) (by omega)) (by omega) (by omega)) (fun F hF => ?_)
    have hIF : Iv F := Iv_cg (Sm_le hF) hI.iv
    have hcF := hIF.ct; unfold I_ct at hcF
    have e70 : F 70 = D 70 := hF 70 rfl
    have e102 : F 1002 = D 1002 := hF 1002 rfl
    have e9 : F 950 = D 950 := hF 950 rfl
    have e91 : F 951 = D 951 := hF 951 rfl
    have eo : F 1002 1 = D 70 3 := by rw [e102]; exact hc.2.2.2.1.1
    have ew : w_rw F l (D 70 3) = m := by unfold w_rw; rw [if_pos h0, hm]
    have hro : rg (D 70 3) := rgb (by omega) (by omega)
    have uc := u_rw_c F l (D 70 3)
    refine ⟨rwD (u_rw F l (D 70 3)) 20 a2 m (u_rw F l (D 70 3) 35), rl_X11_wish 0 a2 l ⟨by decide, by decide⟩ h2 ?_, rwD_cg (fun c q => (uc c (l35 q)).trans (hF c q)) (fun j j0 j1 => ?_)⟩
    · rw [if_pos rfl, xSv hIF, if_neg ((isSv hIF).mpr (by rw [e70]; exact g2)), if_neg (by decide), eo]
      refine rl_X11_wish_75 a2 1 _ l h2 ⟨by decide, by decide⟩ ⟨by decide, by decide⟩ hro ?_
      rw [ew, if_neg hw]
      have k := K_wia (n := 0) (A := A) (D := u_rw F l (D 70 3)) (a2 := a2) hm13 (by rw [uc 1002 (by decide), e102, hc.2.1.1]; exact g2) (by rw [uc 950 (by decide), uc 951 (by decide), e9, e91]; omega)
      rw [uc 950 (by decide), e9] at k
      exact k
    · have := u_rw_r (D := F) (l := l) hro (by rw [ew]; exact hw) j j0 (by rw [ew]; exact j1)
      rw [ew] at this; exact this
  generalize hD1 : rwD D 20 a2 m (fun j => dgt l (m - 1 - j) - 1) = D1 at eX
  have eM := ev_wM (n := 0) (A := upA A 20 a2 (D 950 0).toNat) (D := D1) (D0 := D) (l := l) (o := D 70 3) (a1 := 0) (a2 := a2) (by omega) hI.iv (by rw [← hD1, rwD_f (by decide)]) (by rw [if_pos rfl]) (by rw [if_pos rfl]; exact g2) h0 (by rw [hm]; exact hw)
  rw [hm, show (if (0 : Int) = 0 then (30 : Int) else 24) = 30 from rfl, show wc 0 = 114 from rfl] at eM
  have U := uwf_p (D := zrw D1 114 (30 * a2) 30) (c := 114) (b := 30 * a2) (N := m) (l := l) (fun k k0 k1 k' a b => (hp.2.2 k k0 k1).2 k' a b) m (by omega) (Int.le_refl _)
  generalize hD2 : uwf (zrw D1 114 (30 * a2) 30) 114 (30 * a2) l m m = D2 at eM U
  have zc : ∀ c', c' ≠ 114 → zrw D1 114 (30 * a2) 30 c' = D1 c' := fun c' q => funext fun z => if_neg (fun y => q y.1)
  have G : ∀ c', (c' ≠ 114 ∧ c' ≠ 950 ∧ c' ≠ 951 ∧ c' ≠ 920 ∧ c' ≠ 3000 ∧ c' ≠ 3001) → D2 c' = D c' := fun c' q => by
    rw [U.1 c' q.1, zc c' q.1, ← hD1, rwD_f ⟨q.2.1, q.2.2.1, q.2.2.2.1, q.2.2.2.2.1, q.2.2.2.2.2⟩]
  have Gk : D2 3000 a2 = m ∧ ∀ j, j ≠ a2 → D2 3000 j = D 3000 j := by
    rw [U.1 3000 (by decide), zc 3000 (by decide), ← hD1]
    exact ⟨(rwD_k (u := 20) (by decide)).1, (rwD_k (u := 20) (by decide)).2.1⟩
  have Gf : D2 920 a2 = 1 ∧ ∀ j, j ≠ a2 → D2 920 j = D 920 j := by
    rw [U.1 920 (by decide), zc 920 (by decide), ← hD1]
    exact ⟨(rwD_k (u := 20) (by decide)).2.2.1, (rwD_k (u := 20) (by decide)).2.2.2⟩
  have Gr : ∀ j, D2 3001 j = if 1024 * a2 ≤ j ∧ j < 1024 * a2 + 1024 then (if j - 1024 * a2 < m then dgt l (m - 1 - (j - 1024 * a2)) - 1 else 0) else D 3001 j := fun j => by
    rw [U.1 3001 (by decide), zc 3001 (by decide), ← hD1]
    exact rwD_r (u := 20) (by decide)
  have G9 : D2 950 0 = D 950 0 + 1 ∧ D2 951 0 = D 951 0 + m := by
    rw [U.1 950 (by decide), zc 950 (by decide), U.1 951 (by decide), zc 951 (by decide), ← hD1]
    exact rwD_h (by decide)
  have e1c : D1 114 = D 114 := by rw [← hD1, rwD_f (by decide)]
  have Gin : ∀ p, 0 ≤ p → p < 30 → (∃ k, 0 ≤ k ∧ k < (m : Int) ∧ p = dgt l (m - 1 - k) - 1 ∧ D2 114 (30 * a2 + p) = k + 1) ∨ ((∀ k, 0 ≤ k → k < (m : Int) → p ≠ dgt l (m - 1 - k) - 1) ∧ D2 114 (30 * a2 + p) = 0) := fun p p0 p1 => by
    rcases U.2 (30 * a2 + p) with ⟨k, k0, k1, k2, k3⟩ | ⟨k1, k2⟩
    · exact Or.inl ⟨k, k0, k1, by omega, k3⟩
    · refine Or.inr ⟨fun k k0 k3 => by have := k1 k k0 k3; omega, ?_⟩
      rw [k2]; exact if_pos ⟨rfl, by omega, by omega⟩
  have Gou : ∀ z, ¬ (30 * a2 ≤ z ∧ z < 30 * a2 + 30) → D2 114 z = D 114 z := fun z hz => by
    rcases U.2 z with ⟨k, k0, k1, k2, k3⟩ | ⟨k1, k2⟩
    · have := (hp.2.2 (m - 1 - k) (by omega) (by omega)).1
      omega
    · rw [k2, ← e1c]; exact if_neg (fun y => hz y.2)
  refine ⟨m, _, D1, D2, eX.le (by decide), eM.le (by decide), ⟨?_, ?_⟩, ?_⟩
  · obtain ⟨p1, p2, p3, p4, p5, p6, p7, p8, p9, p10, p11, p12, p13, p14, p15⟩ := hI.iv
    refine iv15 ?_ ?_ ?_ ?_ ?_ ?_ ?_ ?_ ?_ ?_ ?_ ?_ ?_ ?_ ?_
    · simpa (disch := decide) only [I_ct, G] using p1
    · simpa (disch := decide) only [I_cu, G] using p2
    · simpa (disch := decide) only [I_tp, G] using p3
    · simpa (disch := decide) only [I_lg, G] using p4
    · simpa (disch := decide) only [I_hs, G] using p5
    · simpa (disch := decide) only [I_sv, G] using p6
    · simpa (disch := decide) only [I_pl, G] using p7
    · simpa (disch := decide) only [I_pg, G] using p8
    · simpa (disch := decide) only [I_bx, G] using p9
    · simpa (disch := decide) only [I_tm, G] using p10
    · simpa (disch := decide) only [I_ak, v_X12_ageOn, G] using p11
    · simp (disch := decide) only [I_ws, G]
      refine ⟨fun j j0 j1 => ?_, p12.2⟩
      by_cases e : j = a2
      · subst e
        rw [Gk.1]
        have hr : ∀ k, 0 ≤ k → k < (m : Int) → D2 3001 (1024 * j + k) = dgt l (m - 1 - k) - 1 := fun k k0 k1 => by
          rw [Gr, if_pos (by omega), if_pos (by omega), show m - 1 - (1024 * j + k - 1024 * j) = (m : Int) - 1 - k by omega]
        refine ⟨by omega, by omega, fun k k0 k1 => ?_, fun p p0 p1 => ?_⟩
        · have z := (hp.2.2 (m - 1 - k) (by omega) (by omega))
          rw [hr k k0 k1]
          refine ⟨by omega, by omega, ?_⟩
          rcases Gin (dgt l (m - 1 - k) - 1) (by omega) (by omega) with ⟨k', a, b, c, d⟩ | ⟨a, _⟩
          · rw [d]
            have : k' = k := by
              rcases Int.lt_trichotomy k' k with y | y | y
              · exact absurd (by omega) ((hp.2.2 (m - 1 - k) (by omega) (by omega)).2 (m - 1 - k') (by omega) (by omega))
              · exact y
              · exact absurd (by omega) ((hp.2.2 (m - 1 - k') (by omega) (by omega)).2 (m - 1 - k) (by omega) (by omega))
            rw [this]
          · exact absurd rfl (a k k0 k1)
        · rcases Gin p p0 p1 with ⟨k, a, b, c, d⟩ | ⟨_, a⟩
          · rw [d]
            refine Or.inr ⟨by omega, by omega, ?_⟩
            rw [show k + 1 - 1 = k by omega, hr k a b]; exact c.symm
          · exact Or.inl a
      · rw [Gk.2 j e]
        obtain ⟨z1, z2, z3, z4⟩ := p12.1 j j0 (by omega)
        have hr : ∀ k, 0 ≤ k → k < 1024 → D2 3001 (1024 * j + k) = D 3001 (1024 * j + k) := fun k k0 k1 => by rw [Gr, if_neg (by omega)]
        refine ⟨z1, z2, fun k k0 k1 => ?_, fun p p0 p1 => ?_⟩
        · have z := z3 k k0 k1
          rw [hr k k0 (by omega), Gou _ (by omega)]; exact z
        · rw [Gou _ (by omega)]
          rcases z4 p p0 p1 with z | ⟨w1, w2, w3⟩
          · exact Or.inl z
          · refine Or.inr ⟨w1, w2, ?_⟩
            rw [hr _ (by omega) (by omega)]; exact w3
    · simp (disch := decide) only [I_wf, G]
      exact ⟨fun k k0 k1 => by rw [Gou k (by omega)]; exact p13.1 k k0 k1, p13.2⟩
    · simpa (disch := decide) only [I_td, G] using p14
    · simpa (disch := decide) only [I_cn, G] using p15
  · refine Irb_k (fun c' z => G c' ⟨nrb z rfl, nrb z rfl, nrb z rfl, nrb z rfl, nrb z rfl, nrb z rfl⟩) ⟨by simp (disch := decide) only [G], by simp (disch := decide) only [G]⟩ (fun j z => by simp (disch := decide) only [G]) hI.rb
  · unfold Fr
    simp (disch := decide) only [G]
    refine ⟨trivial, trivial, by omega, by omega, ?_⟩
    rintro ⟨H1, H2, H3, H4⟩
    refine ⟨H1, ?_, ?_, H4⟩
    · intro j z
      by_cases e : j = a2
      · rw [e, hc.2.1.1]; exact g2
      · rw [Gf.2 j e] at z; exact H2 j z
    · exact H3
theorem c_wishb (hI : Inv D) (hh : D 950 0 ≤ 100000000 ∧ D 951 0 ≤ 100000000) {a2 : Int} {l : Int64} (g2 : 0 ≤ a2 ∧ a2 < D 70 3) (h0 : 0 ≤ o_lcmp l (0 : Int64)) (hw : wp l (D 70 1) 13 0 ≠ -1) : Wr 93 186 [am_i (wz 1), am_i (wz a2), am_l l] A D := by
  have hc := hI.iv.ct; unfold I_ct at hc
  have hp := wp_p (l := l) (o := D 70 1) 13 0 (by omega) hw (fun k a b => by omega)
  have h2 : rg a2 := rgb (by omega) (by omega)
  obtain ⟨m, hm⟩ : ∃ m : Nat, wp l (D 70 1) 13 0 = m := ⟨(wp l (D 70 1) 13 0).toNat, by omega⟩
  rw [hm] at hp hw
  have hm13 : m ≤ 13 := by omega
  have eX : Ev 0 9 93 [am_r (some 32), am_i (wz 1), am_i (wz a2), am_l l] A D (ri m) (upA A 21 a2 (D 950 0).toNat) (rwD D 21 a2 m (fun j => dgt l (m - 1 - j) - 1)) := by
    refine Ev_low (m := 1) (by decide) (fun hg => rg_rwD hg (fun j => by have := dgt_b l (m - 1 - j); exact rgb (by omega) (by omega)) (by omega) (by omega)) (fun F hF => ?_)
    have hIF : Iv F := Iv_cg (Sm_le hF) hI.iv
    have hcF := hIF.ct; unfold I_ct at hcF
    have e70 : F 70 = D 70 := hF 70 rfl
    have e102 : F 1002 = D 1002 := hF 1002 rfl
    have e9 : F 950 = D 950 := hF 950 rfl
    have e91 : F 951 = D 951 := hF 951 rfl
    have eo : F 1002 0 = D 70 1 := by rw [e102]; exact hc.2.1.1
    have ew : w_rw F l (D 70 1) = m := by unfold w_rw; rw [if_pos h0, hm]
    have hro : rg (D 70 1) := rgb (by omega) (by omega)
    have uc := u_rw_c F l (D 70 1)
    refine ⟨rwD (u_rw F l (D 70 1)) 21 a2 m (u_rw F l (D 70 1) 35), rl_X11_wish 1 a2 l ⟨by decide, by decide⟩ h2 ?_, rwD_cg (fun c q => (uc c (l35 q)).trans (hF c q)) (fun j j0 j1 => ?_)⟩
    · rw [if_neg (by decide), if_pos rfl, xPl hIF, if_neg ((isPl hIF).mpr (by rw [e70]; exact g2)), eo]
      refine rl_X11_wish_75 a2 0 _ l h2 ⟨by decide, by decide⟩ ⟨by decide, by decide⟩ hro ?_
      rw [ew, if_neg hw]
      have k := K_wib (n := 0) (A := A) (D := u_rw F l (D 70 1)) (a2 := a2) hm13 (by rw [uc 1002 (by decide), e102, hc.2.2.2.1.1]; exact g2) (by rw [uc 950 (by decide), uc 951 (by decide), e9, e91]; omega)
      rw [uc 950 (by decide), e9] at k
      exact k
    · have := u_rw_r (D := F) (l := l) hro (by rw [ew]; exact hw) j j0 (by rw [ew]; exact j1)
      rw [ew] at this; exact this
  generalize hD1 : rwD D 21 a2 m (fun j => dgt l (m - 1 - j) - 1) = D1 at eX
  have eM := ev_wM (n := 0) (A := upA A 21 a2 (D 950 0).toNat) (D := D1) (D0 := D) (l := l) (o := D 70 1) (a1 := 1) (a2 := a2) (by omega) hI.iv (by rw [← hD1, rwD_f (by decide)]) (by rw [if_neg (by decide)]) (by rw [if_neg (by decide)]; exact g2) h0 (by rw [hm]; exact hw)
  rw [hm, show (if (1 : Int) = 0 then (30 : Int) else 24) = 24 from rfl, show wc 1 = 115 from rfl] at eM
  have U := uwf_p (D := zrw D1 115 (24 * a2) 24) (c := 115) (b := 24 * a2) (N := m) (l := l) (fun k k0 k1 k' a b => (hp.2.2 k k0 k1).2 k' a b) m (by omega) (Int.le_refl _)
  generalize hD2 : uwf (zrw D1 115 (24 * a2) 24) 115 (24 * a2) l m m = D2 at eM U
  have zc : ∀ c', c' ≠ 115 → zrw D1 115 (24 * a2) 24 c' = D1 c' := fun c' q => funext fun z => if_neg (fun y => q y.1)
  have G : ∀ c', (c' ≠ 115 ∧ c' ≠ 950 ∧ c' ≠ 951 ∧ c' ≠ 921 ∧ c' ≠ 3100 ∧ c' ≠ 3101) → D2 c' = D c' := fun c' q => by
    rw [U.1 c' q.1, zc c' q.1, ← hD1, rwD_f ⟨q.2.1, q.2.2.1, q.2.2.2.1, q.2.2.2.2.1, q.2.2.2.2.2⟩]
  have Gk : D2 3100 a2 = m ∧ ∀ j, j ≠ a2 → D2 3100 j = D 3100 j := by
    rw [U.1 3100 (by decide), zc 3100 (by decide), ← hD1]
    exact ⟨(rwD_k (u := 21) (by decide)).1, (rwD_k (u := 21) (by decide)).2.1⟩
  have Gf : D2 921 a2 = 1 ∧ ∀ j, j ≠ a2 → D2 921 j = D 921 j := by
    rw [U.1 921 (by decide), zc 921 (by decide), ← hD1]
    exact ⟨(rwD_k (u := 21) (by decide)).2.2.1, (rwD_k (u := 21) (by decide)).2.2.2⟩
  have Gr : ∀ j, D2 3101 j = if 1024 * a2 ≤ j ∧ j < 1024 * a2 + 1024 then (if j - 1024 * a2 < m then dgt l (m - 1 - (j - 1024 * a2)) - 1 else 0) else D 3101 j := fun j => by
    rw [U.1 3101 (by decide), zc 3101 (by decide), ← hD1]
    exact rwD_r (u := 21) (by decide)
  have G9 : D2 950 0 = D 950 0 + 1 ∧ D2 951 0 = D 951 0 + m := by
    rw [U.1 950 (by decide), zc 950 (by decide), U.1 951 (by decide), zc 951 (by decide), ← hD1]
    exact rwD_h (by decide)
  have e1c : D1 115 = D 115 := by rw [← hD1, rwD_f (by decide)]
  have Gin : ∀ p, 0 ≤ p → p < 24 → (∃ k, 0 ≤ k ∧ k < (m : Int) ∧ p = dgt l (m - 1 - k) - 1 ∧ D2 115 (24 * a2 + p) = k + 1) ∨ ((∀ k, 0 ≤ k → k < (m : Int) → p ≠ dgt l (m - 1 - k) - 1) ∧ D2 115 (24 * a2 + p) = 0) := fun p p0 p1 => by
    rcases U.2 (24 * a2 + p) with ⟨k, k0, k1, k2, k3⟩ | ⟨k1, k2⟩
    · exact Or.inl ⟨k, k0, k1, by omega, k3⟩
    · refine Or.inr ⟨fun k k0 k3 => by have := k1 k k0 k3; omega, ?_⟩
      rw [k2]; exact if_pos ⟨rfl, by omega, by omega⟩
  have Gou : ∀ z, ¬ (24 * a2 ≤ z ∧ z < 24 * a2 + 24) → D2 115 z = D 115 z := fun z hz => by
    rcases U.2 z with ⟨k, k0, k1, k2, k3⟩ | ⟨k1, k2⟩
    · have := (hp.2.2 (m - 1 - k) (by omega) (by omega)).1
      omega
    · rw [k2, ← e1c]; exact if_neg (fun y => hz y.2)
  refine ⟨m, _, D1, D2, eX.le (by decide), eM.le (by decide), ⟨?_, ?_⟩, ?_⟩
  · obtain ⟨p1, p2, p3, p4, p5, p6, p7, p8, p9, p10, p11, p12, p13, p14, p15⟩ := hI.iv
    refine iv15 ?_ ?_ ?_ ?_ ?_ ?_ ?_ ?_ ?_ ?_ ?_ ?_ ?_ ?_ ?_
    · simpa (disch := decide) only [I_ct, G] using p1
    · simpa (disch := decide) only [I_cu, G] using p2
    · simpa (disch := decide) only [I_tp, G] using p3
    · simpa (disch := decide) only [I_lg, G] using p4
    · simpa (disch := decide) only [I_hs, G] using p5
    · simpa (disch := decide) only [I_sv, G] using p6
    · simpa (disch := decide) only [I_pl, G] using p7
    · simpa (disch := decide) only [I_pg, G] using p8
    · simpa (disch := decide) only [I_bx, G] using p9
    · simpa (disch := decide) only [I_tm, G] using p10
    · simpa (disch := decide) only [I_ak, v_X12_ageOn, G] using p11
    · simp (disch := decide) only [I_ws, G]
      refine ⟨p12.1, fun j j0 j1 => ?_⟩
      by_cases e : j = a2
      · subst e
        rw [Gk.1]
        have hr : ∀ k, 0 ≤ k → k < (m : Int) → D2 3101 (1024 * j + k) = dgt l (m - 1 - k) - 1 := fun k k0 k1 => by
          rw [Gr, if_pos (by omega), if_pos (by omega), show m - 1 - (1024 * j + k - 1024 * j) = (m : Int) - 1 - k by omega]
        refine ⟨by omega, by omega, fun k k0 k1 => ?_, fun p p0 p1 => ?_⟩
        · have z := (hp.2.2 (m - 1 - k) (by omega) (by omega))
          rw [hr k k0 k1]
          refine ⟨by omega, by omega, ?_⟩
          rcases Gin (dgt l (m - 1 - k) - 1) (by omega) (by omega) with ⟨k', a, b, c, d⟩ | ⟨a, _⟩
          · rw [d]
            have : k' = k := by
              rcases Int.lt_trichotomy k' k with y | y | y
              · exact absurd (by omega) ((hp.2.2 (m - 1 - k) (by omega) (by omega)).2 (m - 1 - k') (by omega) (by omega))
              · exact y
              · exact absurd (by omega) ((hp.2.2 (m - 1 - k') (by omega) (by omega)).2 (m - 1 - k) (by omega) (by omega))
            rw [this]
          · exact absurd rfl (a k k0 k1)
        · rcases Gin p p0 p1 with ⟨k, a, b, c, d⟩ | ⟨_, a⟩
          · rw [d]
            refine Or.inr ⟨by omega, by omega, ?_⟩
            rw [show k + 1 - 1 = k by omega, hr k a b]; exact c.symm
          · exact Or.inl a
      · rw [Gk.2 j e]
        obtain ⟨z1, z2, z3, z4⟩ := p12.2 j j0 (by omega)
        have hr : ∀ k, 0 ≤ k → k < 1024 → D2 3101 (1024 * j + k) = D 3101 (1024 * j + k) := fun k k0 k1 => by rw [Gr, if_neg (by omega)]
        refine ⟨z1, z2, fun k k0 k1 => ?_, fun p p0 p1 => ?_⟩
        · have z := z3 k k0 k1
          rw [hr k k0 (by omega), Gou _ (by omega)]; exact z
        · rw [Gou _ (by omega)]
          rcases z4 p p0 p1 with z | ⟨w1, w2, w3⟩
          · exact Or.inl z
          · refine Or.inr ⟨w1, w2, ?_⟩
            rw [hr _ (by omega) (by omega)]; exact w3
    · simp (disch := decide) only [I_wf, G]
      exact ⟨p13.1, fun k k0 k1 => by rw [Gou k (by omega)]; exact p13.2 k k0 k1⟩
    · simpa (disch := decide) only [I_td, G] using p14
    · simpa (disch := decide) only [I_cn, G] using p15
  · refine Irb_k (fun c' z => G c' ⟨nrb z rfl, nrb z rfl, nrb z rfl, nrb z rfl, nrb z rfl, nrb z rfl⟩) ⟨by simp (disch := decide) only [G], by simp (disch := decide) only [G]⟩ (fun j z => by simp (disch := decide) only [G]) hI.rb
  · unfold Fr
    simp (disch := decide) only [G]
    refine ⟨trivial, trivial, by omega, by omega, ?_⟩
    rintro ⟨H1, H2, H3, H4⟩
    refine ⟨H1, ?_, ?_, H4⟩
    · exact H2
    · intro j z
      by_cases e : j = a2
      · rw [e, hc.2.2.2.1.1]; exact g2
      · rw [Gf.2 j e] at z; exact H3 j z
theorem c_wish (hI : Inv D) (hh : D 950 0 ≤ 100000000 ∧ D 951 0 ≤ 100000000) (a1 a2 : Int) (l : Int64) (h1 : rg a1) (h2 : rg a2) : Wr 93 186 [am_i (wz a1), am_i (wz a2), am_l l] A D := by
  by_cases q : (a1 = 0 ∨ a1 = 1) ∧ (0 ≤ a2 ∧ a2 < if a1 = 0 then D 70 1 else D 70 3) ∧ 0 ≤ o_lcmp l (0 : Int64) ∧ wp l (if a1 = 0 then D 70 3 else D 70 1) 13 0 ≠ -1
  · obtain ⟨q1, q2, q3, q4⟩ := q
    rcases q1 with rfl | rfl
    · rw [if_pos rfl] at q2 q4; exact c_wisha hI hh q2 q3 q4
    · rw [if_neg (by decide)] at q2 q4; exact c_wishb hI hh q2 q3 q4
  · exact Rd.wr ⟨-1, (wi_no hI h1 h2 q).le (by decide), (ev_wMn (n := 0) h1 h2 hI.iv rfl q).le (by decide)⟩ hI
end Wz
