/-! The chain: the reference looks through all rows. -/
section Cr
variable {n : Nat} {A A' : aA} {D D' E : aD} {d : Nat} {s : am_S} {σ : Int → Int}
def Vd (E : aD) : Prop := E 70 70 = -1 ∨ ((0 ≤ E 70 70 ∧ E 70 70 ≤ 6) ∧ 0 ≤ E 70 71 ∧ E 70 71 ≤ 11994)
theorem K72 {P : Int} (hP : 0 ≤ P ∧ P ≤ 6) : ∀ (r : Nat) (j : Int) (F : aD), j + r = P → 0 ≤ j → F 70 68 = P → ∃ D', (∀ c, c ≠ 129 → D' c = F c) ∧ (∀ i, j ≤ i → i < P → D' 129 i = F 128 i) ∧ (∀ i, i < j → D' 129 i = F 129 i) ∧ ∀ c A, 42 ≤ c → K_X12_rows_72 1 c A F j D' := by
  intro r
  induction r with
  | zero =>
    intro j F hr j0 h
    refine ⟨F, fun _ _ => rfl, fun i a b => by omega, fun _ _ => rfl, fun c A hc => rl_X12_rows_72 hc _ (rgb (by omega) (by omega)) ?_⟩
    rw [if_pos (by omega)]
  | succ r ih =>
    intro j F hr j0 h
    obtain ⟨D', a, b, e, K⟩ := ih (j + 1) (up F 129 j (F 128 j)) (by omega) (by omega) (by rw [up_c (by decide)]; exact h)
    refine ⟨D', fun c hc => by rw [a c hc, up_cf hc], fun i i0 i1 => ?_, fun i i1 => by rw [e i (by omega), up_i (by omega)], fun c A hc => rl_X12_rows_72 hc _ (rgb (by omega) (by omega)) ?_⟩
    · by_cases z : i = j
      · rw [z, e j (by omega), up_eq]
      · rw [b i (by omega) i1, up_c (by decide)]
    · rw [if_neg (by omega), wr_id (by omega) (by omega)]
      exact ⟨by omega, K c A hc⟩
theorem rows_0 (hI : Inv D) (hR : Ru D E) (hV : Vd E) {u uM many days : Int} (hu : rg uM) (h1 : 0 ≤ many ∧ many ≤ D 62 7) (h2 : 0 ≤ days ∧ days ≤ 1999 * D 62 7) : ∃ D', Ru D D' ∧ Vd D' ∧ (∀ i, D' 128 i = E 128 i) ∧ Up (D 62 7) (con E) (cand D (E 128) 0 u many days) (con D') ∧ ∀ A, Ev 1 43 202 [am_r (some 70), am_i (wz (D 62 7)), am_i (wz uM), am_i (wz many), am_i (wz days)] A E rv A D' := by
  obtain ⟨⟨eP, hP⟩, _, _, _⟩ := cn_f hI
  have e68 : E 70 68 = D 62 7 := by rw [hR.2 68 (by decide) (by decide), eP]
  have hC : eqv (D 62 7) (cand D (E 128) 0 u many days) (many, days, E 128) := by
    refine ⟨?_, ?_, fun i a b => ?_⟩
    · show many + 0 = many; omega
    · show days + 0 = days; omega
    · show (if i < D 62 7 - ((0 : Nat) : Int) then E 128 i else _) = E 128 i
      rw [if_pos (by omega)]
  -- taken
  have tk : (E 70 70 = -1 ∨ bt (D 62 7) (many, days, E 128) (con E)) → ∃ D', Ru D D' ∧ Vd D' ∧ (∀ i, D' 128 i = E 128 i) ∧ Up (D 62 7) (con E) (cand D (E 128) 0 u many days) (con D') ∧ ∀ A, K_X12_rows_72 1 42 A (up (up E 70 70 many) 70 71 days) 0 D' := fun q => by
    obtain ⟨D', a, b, _, K⟩ := K72 hP (D 62 7).toNat 0 (up (up E 70 70 many) 70 71 days) (by omega) (by omega) (by rw [up_i (by decide), up_i (by decide)]; exact e68)
    have f0 : D' 70 70 = many := by rw [a 70 (by decide), up_i (by decide), up_eq]
    have f1 : D' 70 71 = days := by rw [a 70 (by decide), up_eq]
    refine ⟨D', ⟨fun c c1 c2 c3 => ?_, fun i i1 i2 => ?_⟩, Or.inr ?_, fun i => ?_, ?_, fun A => K 42 A (Nat.le_refl _)⟩
    · rw [a c c3, up_cf c1, up_cf c1]; exact hR.1 c c1 c2 c3
    · rw [a 70 (by decide), up_i i2, up_i i1]; exact hR.2 i i1 i2
    · rw [f0, f1]; omega
    · rw [a 128 (by decide), up_c (by decide), up_c (by decide)]
    · refine Up_eq (eqv.refl _) hC.symm (F := (many, days, E 128)) ⟨f0.symm, f1.symm, fun i i0 i1 => ?_⟩ ⟨fun _ => eqv.refl _, fun z => absurd q z⟩
      rw [show (con D').2.2 i = D' 129 i from rfl, b i i0 i1, up_c (by decide), up_c (by decide)]
  -- left
  have kp : ¬ (E 70 70 = -1 ∨ bt (D 62 7) (many, days, E 128) (con E)) → Up (D 62 7) (con E) (cand D (E 128) 0 u many days) (con E) := fun q => Up_eq (eqv.refl _) hC.symm (eqv.refl _) ⟨fun z => absurd z q, fun _ => eqv.refl _⟩
  have hl : w_less E ≠ 0 ↔ Lt (D 62 7) (E 128) (E 129) := by rw [← e68]; exact less_e
  have v1 : vl (many, days, E 128) = 20000 * many - days := rfl
  have v2 : vl (con E) = 20000 * E 70 70 - E 70 71 := rfl
  have fin : ∀ D', (∀ A, Ev 1 43 202 [am_r (some 70), am_i (wz (D 62 7)), am_i (wz uM), am_i (wz many), am_i (wz days)] A E rv A D') → Ru D D' ∧ Vd D' ∧ (∀ i, D' 128 i = E 128 i) ∧ Up (D 62 7) (con E) (cand D (E 128) 0 u many days) (con D') → ∃ D', Ru D D' ∧ Vd D' ∧ (∀ i, D' 128 i = E 128 i) ∧ Up (D 62 7) (con E) (cand D (E 128) 0 u many days) (con D') ∧ ∀ A, Ev 1 43 202 [am_r (some 70), am_i (wz (D 62 7)), am_i (wz uM), am_i (wz many), am_i (wz days)] A E rv A D' := fun D' a b => ⟨D', b.1, b.2.1, b.2.2.1, b.2.2.2, a⟩
  have ent : ∀ D', (∀ A, (if E 70 70 = (-1) then K_X12_rows_72 (1) 42 A (up (up E 70 70 many) 70 71 days) 0 D' else (if many < E 70 70 then (D' = E) else (if many = E 70 70 then (if E 70 71 < days then (D' = E) else (if days = E 70 71 then (p_less E) ∧ (if w_less E = 0 then (D' = E) else K_X12_rows_72 (1) 42 A (up (up E 70 70 many) 70 71 days) 0 D') else K_X12_rows_72 (1) 42 A (up (up E 70 70 many) 70 71 days) 0 D')) else K_X12_rows_72 (1) 42 A (up (up E 70 70 many) 70 71 days) 0 D')))) → ∀ A, Ev 1 43 202 [am_r (some 70), am_i (wz (D 62 7)), am_i (wz uM), am_i (wz many), am_i (wz days)] A E rv A D' := fun D' h A => by
    refine rl_X12_rows (c := 42) (Nat.le_refl _) _ _ _ _ (rgb (by omega) (by omega)) hu (rgb (by omega) (by omega)) (rgb (by omega) (by omega)) ?_
    rw [if_pos e68.symm]; exact h A
  by_cases c0 : E 70 70 = -1
  · obtain ⟨D', a, b, c, e, K⟩ := tk (Or.inl c0)
    exact fin D' (ent D' (fun A => by rw [if_pos c0]; exact K A)) ⟨a, b, c, e⟩
  have hV' : (0 ≤ E 70 70 ∧ E 70 70 ≤ 6) ∧ 0 ≤ E 70 71 ∧ E 70 71 ≤ 11994 := by rcases hV with q | q; exact absurd q c0; exact q
  have keep : ¬ bt (D 62 7) (many, days, E 128) (con E) → (∀ A, Ev 1 43 202 [am_r (some 70), am_i (wz (D 62 7)), am_i (wz uM), am_i (wz many), am_i (wz days)] A E rv A E) → ∃ D', Ru D D' ∧ Vd D' ∧ (∀ i, D' 128 i = E 128 i) ∧ Up (D 62 7) (con E) (cand D (E 128) 0 u many days) (con D') ∧ ∀ A, Ev 1 43 202 [am_r (some 70), am_i (wz (D 62 7)), am_i (wz uM), am_i (wz many), am_i (wz days)] A E rv A D' := fun q h => fin E h ⟨hR, hV, fun _ => rfl, kp (fun z => by rcases z with z | z; exact c0 z; exact q z)⟩
  by_cases c1 : many < E 70 70
  · exact keep (fun q => by rcases q with q | ⟨q, _⟩ <;> rw [v1, v2] at q <;> omega) (ent E (fun A => by rw [if_neg c0, if_pos c1]))
  by_cases c2 : many = E 70 70
  · by_cases c3 : E 70 71 < days
    · exact keep (fun q => by rcases q with q | ⟨q, _⟩ <;> rw [v1, v2] at q <;> omega) (ent E (fun A => by rw [if_neg c0, if_neg c1, if_pos c2, if_pos c3]))
    by_cases c4 : days = E 70 71
    · by_cases c5 : w_less E = 0
      · exact keep (fun q => by
          rcases q with q | ⟨_, q⟩
          · rw [v1, v2] at q; omega
          · exact hl.mpr q c5) (ent E (fun A => by rw [if_neg c0, if_neg c1, if_pos c2, if_neg c3, if_pos c4, if_pos c5]; exact ⟨⟨by omega, by omega⟩, rfl⟩))
      · obtain ⟨D', a, b, c, e, K⟩ := tk (Or.inr (Or.inr ⟨by rw [v1, v2]; omega, hl.mp c5⟩))
        exact fin D' (ent D' (fun A => by rw [if_neg c0, if_neg c1, if_pos c2, if_neg c3, if_pos c4, if_neg c5]; exact ⟨⟨by omega, by omega⟩, K A⟩)) ⟨a, b, c, e⟩
    · obtain ⟨D', a, b, c, e, K⟩ := tk (Or.inr (Or.inl (by rw [v1, v2]; omega)))
      exact fin D' (ent D' (fun A => by rw [if_neg c0, if_neg c1, if_pos c2, if_neg c3, if_neg c4]; exact K A)) ⟨a, b, c, e⟩
  · obtain ⟨D', a, b, c, e, K⟩ := tk (Or.inr (Or.inl (by rw [v1, v2]; omega)))
    exact fin D' (ent D' (fun A => by rw [if_neg c0, if_neg c1, if_neg c2]; exact K A)) ⟨a, b, c, e⟩
theorem rows_m (hI : Inv D) (hσ : Sg D σ) : ∀ (m : Nat) (E : aD) (u uM many days : Int), (m : Int) ≤ D 62 7 → Ru D E → (0 ≤ u ∧ u < 64) → (0 ≤ uM ∧ uM < 64) → (∀ f, 0 ≤ f → f < D 62 8 → tb uM f = tb u (σ f)) → (0 ≤ many ∧ many ≤ D 62 7 - m) → (0 ≤ days ∧ days ≤ 1999 * (D 62 7 - m)) → Vd E → ∃ D', Ru D D' ∧ Vd D' ∧ (∀ i, i < D 62 7 - m → D' 128 i = E 128 i) ∧ Up (D 62 7) (con E) (cand D (E 128) m u many days) (con D') ∧ ∀ A, Ev 1 (43 + m) 202 [am_r (some 70), am_i (wz (D 62 7 - m)), am_i (wz uM), am_i (wz many), am_i (wz days)] A E rv A D' := by
  have hc := hI.iv.ct; unfold I_ct at hc
  have hn := hI.iv.cn; unfold I_cn at hn
  obtain ⟨⟨eP, hP⟩, ⟨eS, hS⟩, hkk, hjj⟩ := cn_f hI
  have hcb := cst_b hI
  intro m
  induction m with
  | zero =>
    intro E u uM many days _ hR hu huM hmk h1 h2 hV
    obtain ⟨D', a, b, c, e, K⟩ := rows_0 (u := u) (uM := uM) (many := many) (days := days) hI hR hV (rgb (by omega) (by omega)) (by omega) (by omega)
    refine ⟨D', a, b, fun i _ => c i, e, fun A => ?_⟩
    have := K A
    rw [show D 62 7 - ((0 : Nat) : Int) = D 62 7 by omega]; exact this
  | succ m ih =>
    intro E u uM many days hm hR hu huM hmk h1 h2 hV
    obtain ⟨k, hk⟩ : ∃ k, k = D 62 7 - ((m : Int) + 1) := ⟨_, rfl⟩
    have emk : D 62 7 - ((m + 1 : Nat) : Int) = k := by omega
    have em1 : D 62 7 - (m : Int) = k + 1 := by omega
    have e68 : E 70 68 = D 62 7 := by rw [hR.2 68 (by decide) (by decide), eP]
    rw [emk] at h1 h2
    rw [emk]
    have hBc := best_c hI (r := E 128) (m := m) (u := u) (many := many) (days := days) (by omega)
    have k124 := hn.2.2.1 k (by omega) (by omega)
    have hb0 := bv_v (P := D 62 7) hS.1 hcb m u
    have hbj := fun j => bv_v (P := D 62 7) hS.1 hcb m (ad u j)
    have okj : ∀ j, cst D k j ≠ -1 → ok6 (cnd1 D (E 128) m u many days j) := fun j q => by
      have a := hcb k j
      have b := hbj j
      unfold ok6
      show 0 ≤ days + cst D (D 62 7 - ((m : Int) + 1)) j + ds (D 62 7) (D 62 8) (cst D) m (ad u j) ∧ days + cst D (D 62 7 - ((m : Int) + 1)) j + ds (D 62 7) (D 62 8) (cst D) m (ad u j) < 20000
      rw [← hk]; omega
    have ok0 : ok6 (cnd0 D (E 128) m u many days) := by
      unfold ok6
      show 0 ≤ days + ds (D 62 7) (D 62 8) (cst D) m u ∧ days + ds (D 62 7) (D 62 8) (cst D) m u < 20000
      omega
    have okE : (con E).1 ≠ -1 → ok6 (con E) := fun q => by
      rcases hV with z | z
      · exact absurd z q
      · unfold ok6; show 0 ≤ E 70 71 ∧ E 70 71 < 20000; omega
    have loop : ∀ (q : Nat) (f : Int) (F : aD), f + q = D 62 8 → 0 ≤ f → Ru D F → Vd F → (∀ i, i < k → F 128 i = E 128 i) → Op (D 62 7) (con E) (fun Z => ∃ f', 0 ≤ f' ∧ f' < f ∧ tb u (σ f') = 0 ∧ cst D k (σ f') ≠ -1 ∧ Z = cnd1 D (E 128) m u many days (σ f')) (con F) → ∃ D', Ru D D' ∧ Vd D' ∧ (∀ i, i < k → D' 128 i = E 128 i) ∧ Up (D 62 7) (con E) (cand D (E 128) (m + 1) u many days) (con D') ∧ ∀ A, K_X12_rows_105 1 (43 + m) A F k uM many days f D' := by
      intro q
      induction q with
      | zero =>
        intro f F hq f0 gR gV g1 gO
        have g69 : F 70 69 = D 62 8 := by rw [gR.2 69 (by decide) (by decide), eS]
        obtain ⟨D', a, b, c, e, K⟩ := ih (up F 128 k 24) u uM many days (by omega) ⟨fun c c1 c2 c3 => by rw [up_cf c2]; exact gR.1 c c1 c2 c3, fun i i1 i2 => by rw [up_c (by decide)]; exact gR.2 i i1 i2⟩ hu huM hmk (by omega) (by omega) (by unfold Vd; rw [up_c (by decide), up_c (by decide)]; exact gV)
        rw [em1] at c K
        have eC : eqv (D 62 7) (cand D (up F 128 k 24 128) m u many days) (cnd0 D (E 128) m u many days) := by
          refine ⟨rfl, rfl, fun i i0 i1 => ?_⟩
          show (if i < D 62 7 - (m : Int) then up F 128 k 24 128 i else rwo (D 62 7) (D 62 8) (cst D) (D 1201) 24 m u i) = (if i < D 62 7 - ((m : Int) + 1) then E 128 i else if i = D 62 7 - ((m : Int) + 1) then 24 else rwo (D 62 7) (D 62 8) (cst D) (D 1201) 24 m u i)
          rw [em1, ← hk]
          by_cases z1 : i < k
          · rw [if_pos (by omega), if_pos z1, up_i (by omega), g1 i z1]
          · rw [if_neg z1]
            by_cases z2 : i = k
            · rw [if_pos (by omega), if_pos z2, z2, up_eq]
            · rw [if_neg (by omega), if_neg z2]
        have eB : eqv (D 62 7) (con (up F 128 k 24)) (con F) := ⟨by show up F 128 k 24 70 70 = _; rw [up_c (by decide)], by show up F 128 k 24 70 71 = _; rw [up_c (by decide)], fun i _ _ => by show up F 128 k 24 129 i = _; rw [up_c (by decide)]⟩
        have O2 := Op_u (C := cnd0 D (E 128) m u many days) (by show many + cn (D 62 7) (D 62 8) (cst D) m u ≠ -1; omega) gO (Up_eq eB eC (eqv.refl _) e)
        have U : Up (D 62 7) (con E) (cand D (E 128) (m + 1) u many days) (con D') := by
          have okS : ∀ Z, ((∃ f', 0 ≤ f' ∧ f' < f ∧ tb u (σ f') = 0 ∧ cst D k (σ f') ≠ -1 ∧ Z = cnd1 D (E 128) m u many days (σ f')) ∨ Z = cnd0 D (E 128) m u many days) → ok6 Z := by
            rintro Z (⟨f', _, _, _, w, rfl⟩ | rfl)
            · exact okj _ w
            · exact ok0
          have nb : ∀ M, eqv (D 62 7) (cand D (E 128) (m + 1) u many days) M → ∀ Z, ((∃ f', 0 ≤ f' ∧ f' < f ∧ tb u (σ f') = 0 ∧ cst D k (σ f') ≠ -1 ∧ Z = cnd1 D (E 128) m u many days (σ f')) ∨ Z = cnd0 D (E 128) m u many days) → ¬ bt (D 62 7) Z M := by
            rintro M eM Z hZ z
            replace z := bt_eq (eqv.refl Z) eM.symm z
            rcases hZ with ⟨f', y0, y1, y2, y3, rfl⟩ | rfl
            · have yy := (hσ.1 f' y0 (by omega)).1
              exact hBc.2.2 (σ f') yy.1 yy.2 y2 (by rw [← hk]; exact y3) z
            · exact hBc.2.1 z
          rcases hBc.1 with eM | ⟨j, j0, j1, j2, j3, eM⟩
          · exact Up_eq (eqv.refl _) eM.symm (eqv.refl _) (Op_max okS okE O2 (Or.inr rfl) (nb _ eM))
          · obtain ⟨f', y0, y1, rfl⟩ := hσ.2.1 j j0 j1
            exact Up_eq (eqv.refl _) eM.symm (eqv.refl _) (Op_max okS okE O2 (Or.inl ⟨f', y0, by omega, j2, by rw [hk]; exact j3, rfl⟩) (nb _ eM))
        refine ⟨D', a, b, fun i i1 => by rw [c i (by omega), up_i (by omega)]; exact g1 i i1, U, fun A => rl_X12_rows_105 (c := 43 + m) (by omega) _ _ _ _ _ (rgb (by omega) (by omega)) (rgb (by omega) (by omega)) (rgb (by omega) (by omega)) (rgb (by omega) (by omega)) (rgb (by omega) (by omega)) ?_⟩
        rw [if_pos (by omega), wr_id (by omega) (by omega)]
        exact ⟨by omega, D', K A, rfl⟩
      | succ q ihq =>
        intro f F hq f0 gR gV g1 gO
        have g69 : F 70 69 = D 62 8 := by rw [gR.2 69 (by decide) (by decide), eS]
        have sf := hσ.1 f f0 (by omega)
        have tf := tb_f (u := uM) (j := f) huM ⟨f0, by omega⟩
        have tu := tb_f (u := u) (j := σ f) hu ⟨sf.1.1, by omega⟩
        have em := hmk f f0 (by omega)
        obtain ⟨gI, gF⟩ := Ru_f hI gR
        have f126 := hn.2.2.2.1 f f0 (by omega)
        have e126 : F 126 = D 126 := gR.1 126 (by decide) (by decide) (by decide)
        have e124 : F 124 = D 124 := gR.1 124 (by decide) (by decide) (by decide)
        have e127 : F 127 = D 127 := gR.1 127 (by decide) (by decide) (by decide)
        have e125 : F 125 = D 125 := gR.1 125 (by decide) (by decide) (by decide)
        have e700 : F 70 0 = D 70 0 := gR.2 0 (by decide) (by decide)
        have e701 : F 70 1 = D 70 1 := gR.2 1 (by decide) (by decide)
        have e703 : F 70 3 = D 70 3 := gR.2 3 (by decide) (by decide)
        have ec : cst D k (σ f) = if v_X12_fitOf D (D 126 f) (D 124 k) (D 70 0) = 0 then max 0 (D 127 f - D 125 k) else -1 := by
          unfold cst; rw [if_pos ⟨⟨by omega, by omega⟩, sf.1⟩, sf.2.1, sf.2.2, k124.1, k124.2.1]
        have skip : (¬ (tb u (σ f) = 0 ∧ cst D k (σ f) ≠ -1)) → ∃ D', Ru D D' ∧ Vd D' ∧ (∀ i, i < k → D' 128 i = E 128 i) ∧ Up (D 62 7) (con E) (cand D (E 128) (m + 1) u many days) (con D') ∧ ∀ A, K_X12_rows_105 1 (43 + m) A F k uM many days (f + 1) D' := fun z =>
          ihq (f + 1) F (by omega) (by omega) gR gV g1 (Op_n gO (fun Z => ⟨fun ⟨f', a, b, c⟩ => ⟨f', a, by omega, c⟩, fun ⟨f', a, b, c1, c2, c3⟩ => by
            by_cases y : f' = f
            · subst y; exact absurd ⟨c1, c2⟩ z
            · exact ⟨f', a, by omega, c1, c2, c3⟩⟩))
        have rrl : ∀ D', (∀ A, (if o_and (o_shr uM f) 1 = 1 then K_X12_rows_105 (1) (43 + m) A F k uM many days (wr (f + 1)) D' else (0 ≤ f ∧ f < 6) ∧ (0 ≤ k ∧ k < 6) ∧ (p_X12_fitOf F (F 126 f) (F 124 k) (F 70 0)) ∧ (if v_X12_fitOf F (F 126 f) (F 124 k) (F 70 0) = 0 then (∃ D52 : aD, Ev (1) (43 + m) 202 [am_r (some 70), am_i (wz (wr (k + 1))), am_i (wz (o_or uM (o_shl 1 f))), am_i (wz (wr (many + 1))), am_i (wz (wr (days + (max 0 (wr ((F 127 f) - (F 125 k)))))))] A (up F 128 k (F 126 f)) rv A D52 ∧ K_X12_rows_105 (1) (43 + m) A D52 k uM many days (wr (f + 1)) D') else K_X12_rows_105 (1) (43 + m) A F k uM many days (wr (f + 1)) D'))) → ∀ A, K_X12_rows_105 1 (43 + m) A F k uM many days f D' := fun D' h A => by
          refine rl_X12_rows_105 (c := 43 + m) (by omega) _ _ _ _ _ (rgb (by omega) (by omega)) (rgb (by omega) (by omega)) (rgb (by omega) (by omega)) (rgb (by omega) (by omega)) (rgb (by omega) (by omega)) ?_
          rw [if_neg (by omega)]; exact h A
        have pf : p_X12_fitOf F (F 126 f) (F 124 k) (F 70 0) := pfitM gI (by rw [e126, e701]; omega) (by rw [e124, e703]; omega) (by rw [e700]; omega)
        have ef : v_X12_fitOf F (F 126 f) (F 124 k) (F 70 0) = v_X12_fitOf D (D 126 f) (D 124 k) (D 70 0) := by rw [gF, e126, e124, e700]
        have wf : wr (f + 1) = f + 1 := wr_id (by omega) (by omega)
        by_cases c1 : o_and (o_shr uM f) 1 = 1
        · obtain ⟨D', a, b, c, e, K⟩ := skip (fun z => by rw [tf.2.1, em] at c1; omega)
          exact ⟨D', a, b, c, e, rrl D' (fun A => by rw [if_pos c1, wf]; exact K A)⟩
        have t0 : tb u (σ f) = 0 := by rw [tf.2.1] at c1; have := tf.1; omega
        by_cases c2 : v_X12_fitOf D (D 126 f) (D 124 k) (D 70 0) = 0
        · rw [if_pos c2] at ec
          have hcc := hcb k (σ f)
          obtain ⟨D1, a, b, c, e, K⟩ := ih (up F 128 k (D 126 f)) (ad u (σ f)) (ad uM f) (many + 1) (days + cst D k (σ f)) (by omega) ⟨fun c c1 c2 c3 => by rw [up_cf c2]; exact gR.1 c c1 c2 c3, fun i i1 i2 => by rw [up_c (by decide)]; exact gR.2 i i1 i2⟩ tu.2.2.2.1 tf.2.2.2.1 (fun f' y0 y1 => by
            by_cases z : f' = f
            · rw [z, tf.2.2.2.2.1, tu.2.2.2.2.1]
            · have s' := hσ.1 f' y0 y1
              rw [tf.2.2.2.2.2 f' y0 (by omega) z, tu.2.2.2.2.2 (σ f') s'.1.1 (by omega) (fun w => z (hσ.2.2 f' f y0 y1 f0 (by omega) w))]
              exact hmk f' y0 y1) (by omega) (by omega) (by unfold Vd; rw [up_c (by decide), up_c (by decide)]; exact gV)
          rw [em1] at c K
          have eC : eqv (D 62 7) (cand D (up F 128 k (D 126 f) 128) m (ad u (σ f)) (many + 1) (days + cst D k (σ f))) (cnd1 D (E 128) m u many days (σ f)) := by
            refine ⟨rfl, ?_, fun i i0 i1 => ?_⟩
            · show days + cst D k (σ f) + _ = days + cst D (D 62 7 - ((m : Int) + 1)) (σ f) + _
              rw [← hk]
            show (if i < D 62 7 - (m : Int) then up F 128 k (D 126 f) 128 i else rwo (D 62 7) (D 62 8) (cst D) (D 1201) 24 m (ad u (σ f)) i) = (if i < D 62 7 - ((m : Int) + 1) then E 128 i else if i = D 62 7 - ((m : Int) + 1) then D 1201 (σ f) else rwo (D 62 7) (D 62 8) (cst D) (D 1201) 24 m (ad u (σ f)) i)
            rw [em1, ← hk, sf.2.1]
            by_cases z1 : i < k
            · rw [if_pos (by omega), if_pos z1, up_i (by omega), g1 i z1]
            · rw [if_neg z1]
              by_cases z2 : i = k
              · rw [if_pos (by omega), if_pos z2, z2, up_eq]
              · rw [if_neg (by omega), if_neg z2]
          have eB : eqv (D 62 7) (con (up F 128 k (D 126 f))) (con F) := ⟨by show up F 128 k (D 126 f) 70 70 = _; rw [up_c (by decide)], by show up F 128 k (D 126 f) 70 71 = _; rw [up_c (by decide)], fun i _ _ => by show up F 128 k (D 126 f) 129 i = _; rw [up_c (by decide)]⟩
          have hbb := hbj (σ f)
          have O2 := Op_u (C := cnd1 D (E 128) m u many days (σ f)) (by show many + 1 + cn (D 62 7) (D 62 8) (cst D) m (ad u (σ f)) ≠ -1; omega) gO (Up_eq eB eC (eqv.refl _) e)
          obtain ⟨D', a', b', c', e', K'⟩ := ihq (f + 1) D1 (by omega) (by omega) a b (fun i i1 => by rw [c i (by omega), up_i (by omega)]; exact g1 i i1) (Op_n O2 (fun Z => by
            constructor
            · rintro (⟨f', y0, y1, y2⟩ | y)
              · exact ⟨f', y0, by omega, y2⟩
              · exact ⟨f, f0, by omega, t0, by omega, y⟩
            · rintro ⟨f', y0, y1, y2, y3, y4⟩
              by_cases z : f' = f
              · subst z; exact Or.inr y4
              · exact Or.inl ⟨f', y0, by omega, y2, y3, y4⟩))
          refine ⟨D', a', b', c', e', rrl D' (fun A => ?_)⟩
          rw [if_neg c1, ef, if_pos c2]
          refine ⟨by omega, by omega, pf, D1, ?_, by rw [wf]; exact K' A⟩
          have := K A
          rw [e126, e127, e125, wr_id (z := k + 1) (by omega) (by omega), wr_id (z := many + 1) (by omega) (by omega), wr_id (z := D 127 f - D 125 k) (by omega) (by omega), ← ec, wr_id (z := days + cst D k (σ f)) (by omega) (by omega)]
          exact this
        · rw [if_neg c2] at ec
          obtain ⟨D', a, b, c, e, K⟩ := skip (fun z => z.2 ec)
          refine ⟨D', a, b, c, e, rrl D' (fun A => ?_)⟩
          rw [if_neg c1, ef, if_neg c2, wf]
          exact ⟨by omega, by omega, pf, K A⟩
    obtain ⟨D', a, b, c, e, K⟩ := loop (D 62 8).toNat 0 E (by omega) (by omega) hR hV (fun _ _ => rfl) (Op_n Op_0 (fun Z => ⟨fun h => h.elim, fun ⟨f', y0, y1, _⟩ => by omega⟩))
    refine ⟨D', a, b, c, e, fun A => ?_⟩
    rw [show 43 + (m + 1) = (43 + m) + 1 by omega]
    refine rl_X12_rows (c := 43 + m) (by omega) _ _ _ _ (rgb (by omega) (by omega)) (rgb (by omega) (by omega)) (rgb (by omega) (by omega)) (rgb (by omega) (by omega)) ?_
    rw [if_neg (by omega)]; exact K A
end Cr
