/-! The chain: the class, all of it. -/
section Cf
variable {n : Nat} {A A' : aA} {D D' : aD} {d : Nat} {s : am_S}
noncomputable def cst (D : aD) (k j : Int) : Int := if (0 ≤ k ∧ k < D 62 7) ∧ (0 ≤ j ∧ j < D 62 8) then (if v_X12_fitOf D (D 1201 j) (D 1200 k) (D 70 0) = 0 then max 0 (D 66 j - D 64 k) else -1) else -1
def p_fill (D : aD) (b t : Int) : Prop := Inv D ∧ t = D 70 0 ∧ b = w_bookOf D t
/-- what a filled chain shows -/
def Po (D D' : aD) : Prop := (∀ c', c' ≠ 62 → c' ≠ 67 → c' ≠ 68 → c' ≠ 69 → D' c' = D c') ∧ (∀ i, i ≠ 9 → i ≠ 10 → D' 62 i = D 62 i) ∧ D' 62 9 = cn (D 62 7) (D 62 8) (cst D) (D 62 7).toNat 0 ∧ D' 62 10 = ds (D 62 7) (D 62 8) (cst D) (D 62 7).toNat 0 ∧ ∀ i, 0 ≤ i → i < D 62 7 → D' 69 i = rwo (D 62 7) (D 62 8) (cst D) (fun j => D 2000 (D 1201 j)) (-1) (D 62 7).toNat 0 i
theorem cn_f (hI : Inv D) : (D 62 7 = D 70 68 ∧ 0 ≤ D 62 7 ∧ D 62 7 ≤ 6) ∧ (D 62 8 = D 70 69 ∧ 0 ≤ D 62 8 ∧ D 62 8 ≤ 6) ∧ (∀ k, 0 ≤ k → k < D 62 7 → (0 ≤ D 1200 k ∧ D 1200 k < D 70 3) ∧ 0 ≤ D 64 k ∧ D 64 k ≤ 1999) ∧ (∀ j, 0 ≤ j → j < D 62 8 → (0 ≤ D 1201 j ∧ D 1201 j < D 70 1) ∧ (0 ≤ D 66 j ∧ D 66 j ≤ 1999) ∧ D 2000 (D 1201 j) = D 1201 j) := by
  have hn := hI.iv.cn; unfold I_cn at hn
  refine ⟨⟨hn.1.1, by omega, by omega⟩, ⟨hn.2.1.1, by omega, by omega⟩, fun k k0 k1 => ?_, fun j j0 j1 => ?_⟩
  · have := hn.2.2.1 k k0 (by omega)
    omega
  · obtain ⟨k, k0, k1, e1, e2⟩ := hn.2.2.2.2.1 j j0 (by omega)
    have := hn.2.2.2.1 k k0 k1
    have z := hI.iv.sv (D 1201 j) (by omega) (by omega)
    exact ⟨by omega, by omega, z.1⟩
theorem cst_b (hI : Inv D) (k j : Int) : -1 ≤ cst D k j ∧ cst D k j ≤ 1999 := by
  have h := cn_f hI
  unfold cst
  split
  · rename_i q
    have a := h.2.2.1 k q.1.1 q.1.2
    have b := h.2.2.2 j q.2.1 q.2.2
    split <;> omega
  · omega
theorem Kx_fill (hI : Inv D) (hf : D 914 (w_bookOf D (D 70 0)) = 1) : ∃ D', Po D D' ∧ ∀ A, K_X1_fill_2 1 A D (w_bookOf D (D 70 0)) (D 70 0) 0 D' := by
  have hc := hI.iv.ct; unfold I_ct at hc
  obtain ⟨⟨_, hP⟩, ⟨_, hS⟩, hk, hj⟩ := cn_f hI
  have hw := pw_f hS
  have hcb := cst_b hI
  have hrt : rg (D 70 0) := rgb (by omega) (by omega)
  -- the last loop
  have C116 : ∀ (r : Nat) (k : Int) (E : aD), k + 1 = r → k < D 62 7 → (∀ c', c' ≠ 67 → c' ≠ 68 → E c' = D c') → Tb E (D 62 7) (D 62 8) (cst D) → (∀ k', k < k' → k' ≤ D 62 7 → Bs E (D 62 7) (D 62 8) (cst D) k') → ∃ D', Po D D' ∧ ∀ A, K_X1_fill_116 1 A E k D' := by
    intro r
    induction r with
    | zero =>
      intro k E hkr hkP h1 hT hB
      have hB' : ∀ k', 0 ≤ k' → k' ≤ D 62 7 → Bs E (D 62 7) (D 62 8) (cst D) k' := fun k' a b => hB k' (by omega) b
      have hp : p_tl E := ⟨_, _, _, hT, hB', fun j a b => by rw [h1 1201 (by decide) (by decide), h1 2000 (by decide) (by decide)]; have := hj j a b; omega⟩
      refine ⟨u_tl E, ?_, fun A => rl_X1_fill_116 _ (rgb (by omega) (by omega)) ?_⟩
      · obtain ⟨s1, s2⟩ := Classical.choose_spec (tl_ex E)
        obtain ⟨t1, t2, t3, t4, t5, t6⟩ := (s2 hp).2 _ _ _ hT hB'
        refine ⟨fun c' a b e f => (t1 c' a f).trans (h1 c' b e), fun i a b => ?_, ?_, ?_, fun i a b => ?_⟩
        · rw [show u_tl E 62 i = E 62 i from t2 i a b, h1 62 (by decide) (by decide)]
        · refine Eq.trans t3 ?_
          rw [up_i (by decide), up_eq]; omega
        · refine Eq.trans t4 ?_
          rw [up_eq]; omega
        · refine Eq.trans (t6 i (by omega) b) ?_
          rw [h1 2000 (by decide) (by decide), h1 1201 (by decide) (by decide)]
      · rw [if_pos (by omega)]; exact ⟨hp, rfl⟩
    | succ r ih =>
      intro k E hkr hkP h1 hT hB
      have inner : ∀ (q : Nat) (u : Int) (F : aD), u + q = o_shl 1 (D 62 8) → 0 ≤ u → (∀ c', c' ≠ 67 → c' ≠ 68 → F c' = D c') → Tb F (D 62 7) (D 62 8) (cst D) → (∀ k', k < k' → k' ≤ D 62 7 → Bs F (D 62 7) (D 62 8) (cst D) k') → (∀ v, 0 ≤ v → v < u → F 68 (64 * k + v) = bv (D 62 7) (D 62 8) (cst D) (D 62 7 - k).toNat v) → ∃ D', Po D D' ∧ ∀ A, K_X1_fill_123 1 A F k u D' := by
        intro q
        induction q with
        | zero =>
          intro u F hq u0 g1 gT gB gv
          obtain ⟨D', p', K⟩ := ih (k - 1) F (by omega) (by omega) g1 gT (fun k' a b => by
            by_cases e : k' = k
            · rw [e]; intro v v0 v1; exact gv v v0 (by omega)
            · exact gB k' (by omega) b)
          refine ⟨D', p', fun A => rl_X1_fill_123 _ _ (rgb (by omega) (by omega)) (rgb (by omega) (by omega)) ?_⟩
          rw [if_pos (by rw [g1 62 (by decide) (by decide)]; omega), wr_id (by omega) (by omega), ← Int.sub_eq_add_neg]
          exact K A
        | succ q ihq =>
          intro u F hq u0 g1 gT gB gv
          have hu : 0 ≤ u ∧ u < o_shl 1 (D 62 8) := ⟨u0, by omega⟩
          obtain ⟨m, hm⟩ : ∃ m : Nat, k = D 62 7 - (m + 1) := ⟨(D 62 7 - k - 1).toNat, by omega⟩
          have eb := bf_e gT (gB (k + 1) (by omega) (by omega)) (by omega) hm hu
          have hne : ∀ k' v, k < k' → 0 ≤ v → v < 64 → 64 * k' + v ≠ 64 * k + u := fun k' v a b c => by omega
          obtain ⟨D', p', K⟩ := ihq (u + 1) (up F 68 (64 * k + u) (w_bf F k u)) (by omega) (by omega) (fun c' a b => by rw [up_cf b]; exact g1 c' a b) (by
            obtain ⟨t1, t2, t3, t4, t5, t6⟩ := gT
            refine ⟨by rw [up_c (by decide)]; exact t1, by rw [up_c (by decide)]; exact t2, t3, t4, fun a b a0 a1 b0 b1 => ?_, t6⟩
            show up F 68 _ _ 67 _ = _
            rw [up_c (by decide)]; exact t5 a b a0 a1 b0 b1) (fun k' a b v v0 v1 => by
              rw [up_i (hne k' v a v0 (by omega))]; exact gB k' a b v v0 v1) (fun v v0 v1 => by
              by_cases e : v = u
              · rw [e, up_eq, eb, show (D 62 7 - k).toNat = m + 1 by omega]
              · rw [up_i (by omega)]; exact gv v v0 (by omega))
          refine ⟨D', p', fun A => rl_X1_fill_123 _ _ (rgb (by omega) (by omega)) (rgb (by omega) (by omega)) ?_⟩
          rw [if_neg (by rw [g1 62 (by decide) (by decide)]; omega), wr_id (z := k * 64) (by omega) (by omega), wr_id (z := k * 64 + u) (by omega) (by omega), wr_id (z := u + 1) (by omega) (by omega), show k * 64 + u = 64 * k + u by omega]
          exact ⟨⟨_, _, _, gT, gB (k + 1) (by omega) (by omega), by omega, hu⟩, by omega, K A⟩
      obtain ⟨D', p', K⟩ := inner (o_shl 1 (D 62 8)).toNat 0 E (by omega) (by omega) h1 hT hB (fun v a b => by omega)
      refine ⟨D', p', fun A => rl_X1_fill_116 _ (rgb (by omega) (by omega)) ?_⟩
      rw [if_neg (by omega)]; exact K A
  -- the first loop
  have C2 : ∀ (r : Nat) (k : Int) (E : aD), k + r = D 62 7 → 0 ≤ k → (∀ c', c' ≠ 67 → E c' = D c') → (∀ k' j, 0 ≤ k' → k' < k → 0 ≤ j → j < D 62 8 → E 67 (6 * k' + j) = cst D k' j) → ∃ D', Po D D' ∧ ∀ A, K_X1_fill_2 1 A E (w_bookOf D (D 70 0)) (D 70 0) k D' := by
    intro r
    induction r with
    | zero =>
      intro k E hr k0 h1 h2
      obtain ⟨D', p', K⟩ := C116 (D 62 7).toNat (D 62 7 - 1) (fil E 68 448 0) (by omega) (by omega) (fun c' a b => by rw [fil_c b]; exact h1 c' a) (by
        refine ⟨by rw [fil_c (by decide), h1 62 (by decide)], by rw [fil_c (by decide), h1 62 (by decide)], hP, hS, fun a b a0 a1 b0 b1 => ?_, hcb⟩
        show fil E 68 448 0 67 _ = _
        rw [fil_c (by decide)]; exact h2 a b a0 (by omega) b0 b1) (fun k' a b u u0 u1 => by
          have e : k' = D 62 7 := by omega
          rw [fil_in (by omega) (by omega), e, show (D 62 7 - D 62 7).toNat = 0 by omega]; rfl)
      refine ⟨D', p', fun A => rl_X1_fill_2 _ _ _ (by rw [h1 914 (by decide)]; exact hf) hrt (rgb (by omega) (by omega)) ?_⟩
      rw [if_pos (by rw [h1 62 (by decide)]; omega), h1 62 (by decide), wr_id (by omega) (by omega)]
      exact K A
    | succ r ih =>
      intro k E hr k0 h1 h2
      have inner : ∀ (q : Nat) (j : Int) (F : aD), j + q = D 62 8 → 0 ≤ j → (∀ c', c' ≠ 67 → F c' = D c') → (∀ k' j', 0 ≤ k' → k' < k → 0 ≤ j' → j' < D 62 8 → F 67 (6 * k' + j') = cst D k' j') → (∀ j', 0 ≤ j' → j' < j → F 67 (6 * k + j') = cst D k j') → ∃ D', Po D D' ∧ ∀ A, K_X1_fill_13 1 A F (w_bookOf D (D 70 0)) (D 70 0) k j D' := by
        intro q
        induction q with
        | zero =>
          intro j F hq j0 g1 g2 g3
          obtain ⟨D', p', K⟩ := ih (k + 1) F (by omega) (by omega) g1 (fun k' j' a b c d => by
            by_cases e : k' = k
            · rw [e]; exact g3 j' c (by omega)
            · exact g2 k' j' a (by omega) c d)
          refine ⟨D', p', fun A => rl_X1_fill_13 _ _ _ _ (by rw [g1 914 (by decide)]; exact hf) hrt (rgb (by omega) (by omega)) (rgb (by omega) (by omega)) ?_⟩
          rw [if_pos (by rw [g1 62 (by decide)]; omega), wr_id (by omega) (by omega)]
          exact K A
        | succ q ihq =>
          intro j F hq j0 g1 g2 g3
          have hm : Sm F D := fun c' z => g1 c' (by rintro rfl; cases z)
          have hIF := Inv_cg hm hI
          have a1 := hk k k0 (by omega)
          have b1 := hj j j0 (by omega)
          have eb : w_bookOf F (D 70 0) = w_bookOf D (D 70 0) := by unfold w_bookOf; rw [if_cg hm]
          have e70 : F 70 = D 70 := g1 70 (by decide)
          have ef : v_X7_unfitness F (w_bookOf D (D 70 0)) (D 1201 j) (D 1200 k) (D 70 0) = v_X12_fitOf D (D 1201 j) (D 1200 k) (D 70 0) := by
            rw [← eb, fit_eq hIF (by rw [e70]; exact b1.1) (by rw [e70]; exact a1.1) (by omega), fit_cg hm]
          have pf : p_X7_unfitness F (w_bookOf D (D 70 0)) (D 1201 j) (D 1200 k) (D 70 0) := by
            rw [← eb]; exact pfitX hIF (by rw [e70]; exact b1.1) (by rw [e70]; exact a1.1) (by omega)
          have ec : cst D k j = if v_X12_fitOf D (D 1201 j) (D 1200 k) (D 70 0) = 0 then max 0 (D 66 j - D 64 k) else -1 := by
            unfold cst; rw [if_pos (by omega)]
          obtain ⟨D', p', K⟩ := ihq (j + 1) (up F 67 (6 * k + j) (cst D k j)) (by omega) (by omega) (fun c' a => by rw [up_cf a]; exact g1 c' a) (fun k' j' a b c d => by rw [up_i (by omega)]; exact g2 k' j' a b c d) (fun j' a b => by
            by_cases e : j' = j
            · rw [e, up_eq]
            · rw [up_i (by omega)]; exact g3 j' a (by omega))
          refine ⟨D', p', fun A => rl_X1_fill_13 _ _ _ _ (by rw [g1 914 (by decide)]; exact hf) hrt (rgb (by omega) (by omega)) (rgb (by omega) (by omega)) ?_⟩
          rw [if_neg (by rw [g1 62 (by decide)]; omega), g1 1201 (by decide), g1 1200 (by decide), g1 66 (by decide), g1 64 (by decide), ef, wr_id (z := k * 6) (by omega) (by omega), wr_id (z := k * 6 + j) (by omega) (by omega), wr_id (z := j + 1) (by omega) (by omega), wr_id (z := D 66 j - D 64 k) (by omega) (by omega), show k * 6 + j = 6 * k + j by omega]
          have K' := K A
          rw [ec] at K'
          refine ⟨by omega, by omega, pf, ?_⟩
          by_cases c0 : v_X12_fitOf D (D 1201 j) (D 1200 k) (D 70 0) = 0
          · rw [if_pos c0] at K' ⊢
            exact ⟨by omega, by omega, by omega, K'⟩
          · rw [if_neg c0] at K' ⊢
            exact ⟨by omega, K'⟩
      obtain ⟨D', p', K⟩ := inner (D 62 8).toNat 0 E (by omega) (by omega) h1 h2 (fun j a b => by omega)
      refine ⟨D', p', fun A => rl_X1_fill_2 _ _ _ (by rw [h1 914 (by decide)]; exact hf) hrt (rgb (by omega) (by omega)) ?_⟩
      rw [if_neg (by rw [h1 62 (by decide)]; omega)]; exact K A
  exact C2 (D 62 7).toNat 0 D (by omega) (by omega) (fun _ _ => rfl) (fun k' j a b => by omega)
theorem fill_ex (D : aD) (b t : Int) : ∃ D', (∀ c', c' ≠ 62 → c' ≠ 67 → c' ≠ 68 → c' ≠ 69 → D' c' = D c') ∧ (p_fill D b t → D 914 b = 1 → Po D D' ∧ ∀ A, Ev 1 7 6 [am_r (some 62), am_r (some (A 14 b)), am_i (wz t)] A D rv A D') := by
  by_cases h : p_fill D b t ∧ D 914 b = 1
  · obtain ⟨⟨hI, rfl, rfl⟩, hf⟩ := h
    have hc := hI.iv.ct; unfold I_ct at hc
    obtain ⟨D', p', K⟩ := Kx_fill hI hf
    exact ⟨D', p'.1, fun _ _ => ⟨p', fun A => rl_X1_fill _ _ hf (rgb (by omega) (by omega)) (K A)⟩⟩
  · exact ⟨D, fun _ _ _ _ _ => rfl, fun a b => absurd ⟨a, b⟩ h⟩
noncomputable def u_fill (D : aD) (b t : Int) : aD := Classical.choose (fill_ex D b t)
theorem ev_X1_fill (b t : Int) (hf : D 914 b = 1) (_ : rg t) (hp : p_fill D b t) : Ev 1 7 6 [am_r (some 62), am_r (some (A 14 b)), am_i (wz t)] A D rv A (u_fill D b t) := ((Classical.choose_spec (fill_ex D b t)).2 hp hf).2 A
theorem Po_fill {b t : Int} (hf : D 914 b = 1) (hp : p_fill D b t) : Po D (u_fill D b t) := ((Classical.choose_spec (fill_ex D b t)).2 hp hf).1
theorem fl_fill (D : aD) (b t : Int) (w : Nat) (i : Int) (hw : Nat.ble w 49 = true) : u_fill D b t (900 + w) i = D (900 + w) i := by rw [show u_fill D b t (900 + w) = D (900 + w) from (Classical.choose_spec (fill_ex D b t)).1 _ (by omega) (by omega) (by omega) (by omega)]
abbrev P_X11_chain : Nat → Option am_E := am_fy tb_X11_chain
noncomputable def v_X11_chain (D : aD) (a1 : Int) : Int := if v_X11_between D a1 0 1 = 0 then if v_X11_between D (wr (a1 - 10)) 0 (wr ((D 62 7) - 1)) = 0 then (-1) else if a1 = 0 then (u_fill D (w_bookOf D (D 32 14)) (D 32 14)) 62 9 else if a1 = 1 then (u_fill D (w_bookOf D (D 32 14)) (D 32 14)) 62 10 else (u_fill D (w_bookOf D (D 32 14)) (D 32 14)) 69 (wr (a1 - 10)) else if a1 = 0 then (u_fill D (w_bookOf D (D 32 14)) (D 32 14)) 62 9 else if a1 = 1 then (u_fill D (w_bookOf D (D 32 14)) (D 32 14)) 62 10 else (u_fill D (w_bookOf D (D 32 14)) (D 32 14)) 69 (wr (a1 - 10))
noncomputable def u_X11_chain (D : aD) (a1 : Int) : aD := if v_X11_between D a1 0 1 = 0 then if v_X11_between D (wr (a1 - 10)) 0 (wr ((D 62 7) - 1)) = 0 then D else if a1 = 0 then (u_fill D (w_bookOf D (D 32 14)) (D 32 14)) else if a1 = 1 then (u_fill D (w_bookOf D (D 32 14)) (D 32 14)) else (u_fill D (w_bookOf D (D 32 14)) (D 32 14)) else if a1 = 0 then (u_fill D (w_bookOf D (D 32 14)) (D 32 14)) else if a1 = 1 then (u_fill D (w_bookOf D (D 32 14)) (D 32 14)) else (u_fill D (w_bookOf D (D 32 14)) (D 32 14))
def p_X11_chain (D : aD) (a1 : Int) : Prop := (if v_X11_between D a1 0 1 = 0 then (if v_X11_between D (wr (a1 - 10)) 0 (wr ((D 62 7) - 1)) = 0 then True else (p_inv1 D (D 32 14)) ∧ (p_fill D (w_bookOf D (D 32 14)) (D 32 14)) ∧ (if a1 = 0 then True else (if a1 = 1 then True else (0 ≤ wr (a1 - 10) ∧ wr (a1 - 10) < 6)))) else (p_inv1 D (D 32 14)) ∧ (p_fill D (w_bookOf D (D 32 14)) (D 32 14)) ∧ (if a1 = 0 then True else (if a1 = 1 then True else (0 ≤ wr (a1 - 10) ∧ wr (a1 - 10) < 6))))
set_option maxRecDepth 100000 in
theorem ev_X11_chain {A : aA} {D : aD} (a1 : Int) (h1 : rg a1) (hp : p_X11_chain D a1) : Ev (1) 8 101 [am_r (some 32), am_i (wz a1)] A D (ri (v_X11_chain D a1)) A (u_X11_chain D a1) := by
  unfold p_X11_chain at hp
  unfold v_X11_chain u_X11_chain
  refine Ev_of (c := 7) (P := P_X11_chain) (lo := [some (am_r (some 32)), some (am_i (wz a1)), none]) rfl rfl rfl (fun d hd s hr => ?_)
  refine ok (m_iload_n (q := 1) rfl rfl rfl rfl) ?_
  refine ok (m_bipush (q := 3) rfl rfl rfl) ?_
  refine ok (m_isub (q := 4) rfl rfl rfl) ?_
  refine ok (m_istore_n (q := 5) (lo' := [some (am_r (some 32)), some (am_i (wz a1)), some (am_i (wz (wr (a1 - 10))))]) rfl rfl rfl rfl rfl) ?_
  refine ok (m_iload_n (q := 6) rfl rfl rfl rfl) ?_
  refine ok (m_iconst (q := 7) rfl rfl rfl) ?_
  refine ok (m_iconst (q := 8) rfl rfl rfl) ?_
  refine oke (e_ci (x_cs (q := 11) rfl rfl rfl rfl rfl rfl rfl rfl rfl) (ev_X11_between (D := D) a1 0 1 h1 ⟨by decide, by decide⟩ ⟨by decide, by decide⟩) (Nat.le_trans (by decide) hd) hr) (fun s1 r2 => ?_)
  refine okf (m_ifne (qt := 33) (qf := 14) rfl rfl (Ev_rg (ev_X11_between (D := D) a1 0 1 h1 ⟨by decide, by decide⟩ ⟨by decide, by decide⟩) hr) rfl rfl) (fun c3 => ?_) (fun c3 => ?_)
  · replace hp := ip c3 hp
    refine ok (m_iload_n (q := 15) rfl rfl rfl rfl) ?_
    refine ok (m_iconst (q := 16) rfl rfl rfl) ?_
    refine ok (m_aload_n (q := 17) rfl rfl rfl rfl) ?_
    refine ok (m_gfc (q := 20) rfl rfl rfl r2 rfl rfl rfl) ?_
    refine ok (m_gfs (z := 7) (q := 23) rfl rfl rfl r2 rfl rfl rfl rfl rfl) ?_
    refine ok (m_iconst (q := 24) rfl rfl rfl) ?_
    refine ok (m_isub (q := 25) rfl rfl rfl) ?_
    refine oke (e_ci (x_cs (q := 28) rfl rfl rfl rfl rfl rfl rfl rfl rfl) (ev_X11_between (D := D) (wr (a1 - 10)) 0 (wr ((D 62 7) - 1)) (rg_wr _) ⟨by decide, by decide⟩ (rg_wr _)) (Nat.le_trans (by decide) hd) r2) (fun s4 r5 => ?_)
    refine okf (m_ifne (qt := 33) (qf := 31) rfl rfl (Ev_rg (ev_X11_between (D := D) (wr (a1 - 10)) 0 (wr ((D 62 7) - 1)) (rg_wr _) ⟨by decide, by decide⟩ (rg_wr _)) r2) rfl rfl) (fun c6 => ?_) (fun c6 => ?_)
    · refine ok (m_iconst (q := 32) rfl rfl rfl) ?_
      exact ok (m_reti rfl rfl) (ok_i r5 ⟨by decide, by decide⟩)
    · replace hp := iq c6 hp
      refine ok (m_aload_n (q := 34) rfl rfl rfl rfl) ?_
      refine ok (m_gfc (q := 37) rfl rfl rfl r5 rfl rfl rfl) ?_
      refine ok (m_aload_n (q := 38) rfl rfl rfl rfl) ?_
      refine ok (m_aload_n (q := 39) rfl rfl rfl rfl) ?_
      refine ok (m_gfs (z := 14) (q := 42) rfl rfl rfl r5 rfl rfl rfl rfl rfl) ?_
      obtain ⟨g9, hp⟩ := hp
      refine oke (e_cr (x_cv (q := 45) rfl rfl rfl rfl rfl rfl rfl rfl rfl rfl (is_st r5 rfl rfl)) (ev_X11_bookOf (D := D) (D 32 14) (Rp_rg r5 32 14) g9) (Nat.le_trans (by decide) hd) r5) (fun s7 r8 => ?_)
      refine ok (m_aload_n (q := 46) rfl rfl rfl rfl) ?_
      refine ok (m_gfs (z := 14) (q := 49) rfl rfl rfl r8 rfl rfl rfl rfl rfl) ?_
      obtain ⟨g12, hp⟩ := hp
      refine oke (e_cvd (x_cv (q := 52) rfl rfl rfl rfl rfl rfl rfl rfl rfl rfl (is_st r8 rfl rfl)) (ev_X1_fill (D := D) (w_bookOf D (D 32 14)) (D 32 14) (fg_bookOf (D := D) (D 32 14) (Rp_rg r5 32 14) g9 r5) (Rp_rg r8 32 14) g12) (Nat.le_trans (by decide) hd) r8) (fun s10 r11 => ?_)
      refine ok (m_iload_n (q := 53) rfl rfl rfl rfl) ?_
      refine okf (m_ifne (qt := 64) (qf := 56) rfl rfl h1 rfl rfl) (fun c13 => ?_) (fun c13 => ?_)
      · refine ok (m_aload_n (q := 57) rfl rfl rfl rfl) ?_
        refine ok (m_gfc (q := 60) rfl rfl rfl r11 rfl rfl rfl) ?_
        refine ok (m_gfs (z := 9) (q := 63) rfl rfl rfl r11 rfl rfl rfl rfl rfl) ?_
        exact ok (m_reti rfl rfl) (ok_i r11 (Rp_rg r11 62 9))
      · replace hp := iq c13 hp
        refine ok (m_iload_n (q := 65) rfl rfl rfl rfl) ?_
        refine ok (m_iconst (q := 66) rfl rfl rfl) ?_
        refine okf (m_cmpne (qt := 79) (qf := 69) rfl rfl h1 ⟨by decide, by decide⟩ rfl rfl) (fun c14 => ?_) (fun c14 => ?_)
        · refine ok (m_aload_n (q := 70) rfl rfl rfl rfl) ?_
          refine ok (m_gfc (q := 73) rfl rfl rfl r11 rfl rfl rfl) ?_
          refine ok (m_gfs (z := 10) (q := 76) rfl rfl rfl r11 rfl rfl rfl rfl rfl) ?_
          refine ok (m_goto (q := 88) rfl rfl rfl) ?_
          exact ok (m_reti rfl rfl) (ok_i r11 (Rp_rg r11 62 10))
        · replace hp := iq c14 hp
          refine ok (m_aload_n (q := 80) rfl rfl rfl rfl) ?_
          refine ok (m_gfc (q := 83) rfl rfl rfl r11 rfl rfl rfl) ?_
          refine ok (m_gfc (q := 86) rfl rfl rfl r11 rfl rfl rfl) ?_
          refine ok (m_iload_n (q := 87) rfl rfl rfl rfl) ?_
          have g15 := hp
          refine ok (m_ials (q := 88) rfl rfl rfl r11 rfl rfl g15 rfl) ?_
          exact ok (m_reti rfl rfl) (ok_i r11 (Rp_rg r11 69 (wr (a1 - 10))))
  · replace hp := iq c3 hp
    refine ok (m_aload_n (q := 34) rfl rfl rfl rfl) ?_
    refine ok (m_gfc (q := 37) rfl rfl rfl r2 rfl rfl rfl) ?_
    refine ok (m_aload_n (q := 38) rfl rfl rfl rfl) ?_
    refine ok (m_aload_n (q := 39) rfl rfl rfl rfl) ?_
    refine ok (m_gfs (z := 14) (q := 42) rfl rfl rfl r2 rfl rfl rfl rfl rfl) ?_
    obtain ⟨g18, hp⟩ := hp
    refine oke (e_cr (x_cv (q := 45) rfl rfl rfl rfl rfl rfl rfl rfl rfl rfl (is_st r2 rfl rfl)) (ev_X11_bookOf (D := D) (D 32 14) (Rp_rg r2 32 14) g18) (Nat.le_trans (by decide) hd) r2) (fun s16 r17 => ?_)
    refine ok (m_aload_n (q := 46) rfl rfl rfl rfl) ?_
    refine ok (m_gfs (z := 14) (q := 49) rfl rfl rfl r17 rfl rfl rfl rfl rfl) ?_
    obtain ⟨g21, hp⟩ := hp
    refine oke (e_cvd (x_cv (q := 52) rfl rfl rfl rfl rfl rfl rfl rfl rfl rfl (is_st r17 rfl rfl)) (ev_X1_fill (D := D) (w_bookOf D (D 32 14)) (D 32 14) (fg_bookOf (D := D) (D 32 14) (Rp_rg r2 32 14) g18 r2) (Rp_rg r17 32 14) g21) (Nat.le_trans (by decide) hd) r17) (fun s19 r20 => ?_)
    refine ok (m_iload_n (q := 53) rfl rfl rfl rfl) ?_
    refine okf (m_ifne (qt := 64) (qf := 56) rfl rfl h1 rfl rfl) (fun c22 => ?_) (fun c22 => ?_)
    · refine ok (m_aload_n (q := 57) rfl rfl rfl rfl) ?_
      refine ok (m_gfc (q := 60) rfl rfl rfl r20 rfl rfl rfl) ?_
      refine ok (m_gfs (z := 9) (q := 63) rfl rfl rfl r20 rfl rfl rfl rfl rfl) ?_
      exact ok (m_reti rfl rfl) (ok_i r20 (Rp_rg r20 62 9))
    · replace hp := iq c22 hp
      refine ok (m_iload_n (q := 65) rfl rfl rfl rfl) ?_
      refine ok (m_iconst (q := 66) rfl rfl rfl) ?_
      refine okf (m_cmpne (qt := 79) (qf := 69) rfl rfl h1 ⟨by decide, by decide⟩ rfl rfl) (fun c23 => ?_) (fun c23 => ?_)
      · refine ok (m_aload_n (q := 70) rfl rfl rfl rfl) ?_
        refine ok (m_gfc (q := 73) rfl rfl rfl r20 rfl rfl rfl) ?_
        refine ok (m_gfs (z := 10) (q := 76) rfl rfl rfl r20 rfl rfl rfl rfl rfl) ?_
        refine ok (m_goto (q := 88) rfl rfl rfl) ?_
        exact ok (m_reti rfl rfl) (ok_i r20 (Rp_rg r20 62 10))
      · replace hp := iq c23 hp
        refine ok (m_aload_n (q := 80) rfl rfl rfl rfl) ?_
        refine ok (m_gfc (q := 83) rfl rfl rfl r20 rfl rfl rfl) ?_
        refine ok (m_gfc (q := 86) rfl rfl rfl r20 rfl rfl rfl) ?_
        refine ok (m_iload_n (q := 87) rfl rfl rfl rfl) ?_
        have g24 := hp
        refine ok (m_ials (q := 88) rfl rfl rfl r20 rfl rfl g24 rfl) ?_
        exact ok (m_reti rfl rfl) (ok_i r20 (Rp_rg r20 69 (wr (a1 - 10))))
theorem fl_X11_chain (D : aD) (a1 : Int) (t : Nat) (i : Int) (ht : Nat.ble t 49 = true) : u_X11_chain D a1 (900 + t) i = D (900 + t) i := fl_if (fl_if (rfl) (fl_if ((fl_fill D (w_bookOf D (D 32 14)) (D 32 14) t i ht).trans (rfl)) (fl_if ((fl_fill D (w_bookOf D (D 32 14)) (D 32 14) t i ht).trans (rfl)) ((fl_fill D (w_bookOf D (D 32 14)) (D 32 14) t i ht).trans (rfl))))) (fl_if ((fl_fill D (w_bookOf D (D 32 14)) (D 32 14) t i ht).trans (rfl)) (fl_if ((fl_fill D (w_bookOf D (D 32 14)) (D 32 14) t i ht).trans (rfl)) ((fl_fill D (w_bookOf D (D 32 14)) (D 32 14) t i ht).trans (rfl))))
end Cf
