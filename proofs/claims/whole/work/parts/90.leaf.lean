/-! A single comparison, as the class reads it. -/
section Lef
variable {n : Nat} {A : aA} {D D' : aD} {T : Int → Int} {N a : Int}
theorem tc_x (hT : Txt T N) (ht : Tok T N a) (h : Xst T N a D) : p_X6_takeComparison D ∧ (cix T N a ≠ -1 → v_X6_takeComparison D = cix T N a ∧ u_X6_takeComparison D = u_adv D) ∧ (cix T N a = -1 → v_X6_takeComparison D = -1 ∧ u_X6_takeComparison D = u_X6_refuse D) := by
  have ha := Xst_pa hT ht h
  obtain ⟨x1, x2, x3, x4, x5, x6⟩ := h
  have hN := hT.1
  have ht1 := ht.1
  unfold p_X6_takeComparison v_X6_takeComparison u_X6_takeComparison cix
  rw [if_pos x3, if_pos x3, if_pos x3, x5, x4, x1]
  by_cases g : tK T N a = 3
  · have g1 : a < N := by
      unfold tK at g
      by_cases z : a < N
      · exact z
      · rw [if_neg z] at g; omega
    have g2 : kc (T a) = 3 := by unfold tK at g; rw [if_pos g1] at g; exact g
    have g3 := kc3.mp g2
    have g4 := i2c_b ⟨(T a).toNat, by omega⟩
    simp only [Int.toNat_of_nonneg (show 0 ≤ T a by omega)] at g4
    simp only [if_pos g, if_pos g1]
    rw [g4]
    show (_ ∧ (p_J0_indexOf D 9 (T a)) ∧ (if 0 ≤ w_cmp (T a) then p_adv D else True)) ∧ (w_cmp (T a) ≠ -1 → (if 0 ≤ w_cmp (T a) then w_cmp (T a) else w_cmp (T a)) = w_cmp (T a) ∧ (if 0 ≤ w_cmp (T a) then u_adv D else u_X6_refuse D) = u_adv D) ∧ (w_cmp (T a) = -1 → (if 0 ≤ w_cmp (T a) then w_cmp (T a) else w_cmp (T a)) = -1 ∧ (if 0 ≤ w_cmp (T a) then u_adv D else u_X6_refuse D) = u_X6_refuse D)
    have hc : w_cmp (T a) = -1 ∨ 0 ≤ w_cmp (T a) := by unfold w_cmp; repeat' split <;> omega
    refine ⟨⟨⟨by omega, by omega⟩, ⟨rfl, by omega, by omega⟩, ?_⟩, fun q => ?_, fun q => ?_⟩
    · split
      · exact ha
      · trivial
    · rw [if_pos (by omega), if_pos (by omega)]; exact ⟨rfl, rfl⟩
    · rw [if_neg (by omega), if_neg (by omega)]; exact ⟨q, rfl⟩
  · have hz : (if a < N then w_cmp (T a) else -1) = -1 := by
      by_cases z : a < N
      · rw [if_pos z]
        unfold tK at g
        rw [if_pos z] at g
        have g3 : ¬ _ := fun q => g (kc3.mpr q)
        unfold w_cmp
        rw [if_neg (by omega), if_neg (by omega), if_neg (by omega)]
      · rw [if_neg z]
    rw [hz]
    simp only [if_neg g]
    exact ⟨trivial, fun q => absurd rfl q, fun _ => ⟨trivial, trivial⟩⟩
theorem tc_f (h : D 47 3 ≠ -1) : p_X6_takeComparison D ∧ v_X6_takeComparison D = -1 ∧ u_X6_takeComparison D = D := by
  unfold p_X6_takeComparison v_X6_takeComparison u_X6_takeComparison
  rw [if_neg h, if_neg h, if_neg h]
  exact ⟨trivial, rfl, ref_no h⟩
theorem ref_5 (h : Xst T N a D) : (u_X6_refuse D) 47 5 = D 47 5 := by
  unfold u_X6_refuse; rw [if_pos h.2.2.1, up_i (by decide)]
theorem em_f (h : D 47 3 ≠ -1) (c : Int) : p_X6_emit D c ∧ u_X6_emit D c = D := by
  unfold p_X6_emit u_X6_emit
  rw [if_neg h, if_neg h]
  exact ⟨trivial, rfl⟩
/-- what comes behind the codes that stand -/
def cod (D D' : aD) (cs : List Int) : Prop := D' 47 5 = D 47 5 + cs.length ∧ (∀ i, i < D 47 5 → D' 49 i = D 49 i) ∧ ∀ i : Nat, i < cs.length → D' 49 (D 47 5 + i) = cs.getD i 0
theorem cod.refl (D : aD) : cod D D [] := ⟨by simp, fun _ _ => rfl, fun i hi => absurd hi (by simp)⟩
theorem cod.trans {D1 D2 D3 : aD} {xs ys : List Int} (h : cod D1 D2 xs) (g : cod D2 D3 ys) : cod D1 D3 (xs ++ ys) := by
  obtain ⟨h1, h2, h3⟩ := h
  obtain ⟨g1, g2, g3⟩ := g
  refine ⟨by rw [g1, h1, List.length_append]; omega, fun i hi => by rw [g2 i (by omega), h2 i hi], fun i hi => ?_⟩
  rw [List.length_append] at hi
  by_cases q : i < xs.length
  · rw [g2 _ (by omega), h3 i q, List.getD_eq_getElem?_getD, List.getD_eq_getElem?_getD, List.getElem?_append_left q]
  · have := g3 (i - xs.length) (by omega)
    rw [show D2 47 5 + ((i - xs.length : Nat) : Int) = D1 47 5 + i by omega] at this
    rw [this, List.getD_eq_getElem?_getD, List.getD_eq_getElem?_getD, List.getElem?_append_right (by omega)]
theorem cod_eq {D1 D2 : aD} {cs : List Int} (h5 : D2 47 5 = D1 47 5) (h49 : D2 49 = D1 49) (h : cod D D1 cs) : cod D D2 cs := by
  obtain ⟨h1, h2, h3⟩ := h
  exact ⟨by rw [h5]; exact h1, fun i hi => by rw [h49]; exact h2 i hi, fun i hi => by rw [h49]; exact h3 i hi⟩
theorem em_x (h : Xst T N a D) (h0 : 0 ≤ D 47 5) (h1 : D 47 5 < 700) (c : Int) : p_X6_emit D c ∧ Xst T N a (u_X6_emit D c) ∧ Xfr D (u_X6_emit D c) ∧ cod D (u_X6_emit D c) [c] := by
  obtain ⟨x1, x2, x3, x4, x5, x6⟩ := h
  unfold p_X6_emit u_X6_emit
  rw [if_pos x3, if_pos x3, if_neg (by omega), if_neg (by omega), wr_id (by omega) (by omega)]
  refine ⟨⟨h0, h1⟩, ⟨?_, ?_, ?_, ?_, ?_, ?_⟩, ⟨fun c c1 c2 => ?_, fun i q => ?_⟩, ?_, fun i hi => ?_, fun i hi => ?_⟩
  · rw [up_cf (by decide), up_cf (by decide)]; exact x1
  · rw [up_i (by decide), up_c (by decide)]; exact x2
  · rw [up_i (by decide), up_c (by decide)]; exact x3
  · rw [up_i (by decide), up_c (by decide)]; exact x4
  · rw [up_i (by decide), up_c (by decide)]; exact x5
  · rw [up_i (by decide), up_c (by decide)]; exact x6
  · rw [up_cf c1, up_cf c2]
  · rw [up_i (by omega), up_c (by decide)]
  · rw [up_eq]; rfl
  · rw [up_c (by decide), up_i (by omega)]
  · have : i = 0 := by simp at hi; omega
    subst this
    rw [up_c (by decide), show D 47 5 + ((0 : Nat) : Int) = D 47 5 by omega, up_eq]
    rfl
/-- what a single comparison says -/
def lfs (s : Int) : Int := if s = 0 then 60 else if s = 1 then 62 else 61
def lfc (w s v : Int) : Int := (w * 3 + s) * 10000 + v
theorem lf_sem {w s v : Int} (hw : 0 ≤ w ∧ w < 6) (hs : 0 ≤ s ∧ s < 3) (hv : 0 ≤ v ∧ v ≤ 9999) : (-3 ≤ lfc w s v ∧ lfc w s v < 180000) ∧ 0 ≤ lfc w s v ∧ ∀ f, cmpv f (lfc w s v) = lfv f w (lfs s) v := by
  have e1 : lfc w s v / 30000 = w := by unfold lfc; omega
  have e2 : lfc w s v / 10000 % 3 = s := by unfold lfc; omega
  have e3 : lfc w s v % 10000 = v := by unfold lfc; omega
  refine ⟨by unfold lfc; omega, by unfold lfc; omega, fun f => ?_⟩
  unfold cmpv lfv lfs
  rw [e1, e2, e3]
  rcases (by omega : s = 0 ∨ s = 1 ∨ s = 2) with rfl | rfl | rfl
  · simp
  · simp
  · simp
theorem cix_b : cix T N a = -1 ∨ (0 ≤ cix T N a ∧ cix T N a < 3) := by
  unfold cix w_cmp
  repeat' split
  all_goals omega
theorem ixw_b : ∀ (ws : List (List Int)) (j : Int), 0 ≤ j → ixw T N a ws j = -1 ∨ (j ≤ ixw T N a ws j ∧ ixw T N a ws j < j + ws.length)
  | [], j, h => Or.inl rfl
  | w :: ws, j, h => by
    have := ixw_b ws (j + 1) (by omega)
    unfold ixw
    simp only [List.length_cons]
    split
    · right; omega
    · omega
theorem wix_b (k : Nat) : wix T N a k = -1 ∨ (0 ≤ wix T N a k ∧ wix T N a k < (wds k).length) := by
  unfold wix
  split
  · have := ixw_b (T := T) (N := N) (a := a) (wds k) 0 (Int.le_refl _)
    omega
  · exact Or.inl rfl
/-- a comparison stands at a: its end, or where it fails -/
def lfE (T : Int → Int) (N a : Int) : Int := if wix T N a 8 = -1 then a else if cix T N (tN T N a) = -1 then tN T N a else if tK T N (tN T N (tN T N a)) = 2 ∧ tE T N (tN T N (tN T N a)) - tN T N (tN T N a) ≤ 4 ∧ nv T (tN T N (tN T N a)) (tE T N (tN T N (tN T N a))) ≤ 9999 then tN T N (tN T N (tN T N a)) else tN T N (tN T N a)
def Lok (T : Int → Int) (N a : Int) : Prop := wix T N a 8 ≠ -1 ∧ cix T N (tN T N a) ≠ -1 ∧ Nm T N (tN T N (tN T N a)) 9999
def lfV (T : Int → Int) (N a : Int) : Int := nv T (tN T N (tN T N a)) (tE T N (tN T N (tN T N a)))
theorem leaf_x (hT : Txt T N) (ht : Tok T N a) (h : Xst T N a D) (h0 : 0 ≤ D 47 5) (h1 : D 47 5 ≤ a) : (p_X6_takeWord D 8) ∧ (p_X6_takeComparison (u_X6_takeWord D 8)) ∧ (p_num (u_X6_takeComparison (u_X6_takeWord D 8)) 9999) ∧ (p_X6_emit (u_num (u_X6_takeComparison (u_X6_takeWord D 8)) 9999) (wr ((wr ((wr ((wr ((v_X6_takeWord D 8) * 3)) + (v_X6_takeComparison (u_X6_takeWord D 8)))) * 10000)) + (w_num (u_X6_takeComparison (u_X6_takeWord D 8)) 9999)))) ∧ ∃ D', D' = (u_X6_emit (u_num (u_X6_takeComparison (u_X6_takeWord D 8)) 9999) (wr ((wr ((wr ((wr ((v_X6_takeWord D 8) * 3)) + (v_X6_takeComparison (u_X6_takeWord D 8)))) * 10000)) + (w_num (u_X6_takeComparison (u_X6_takeWord D 8)) 9999)))) ∧ Xfr D D' ∧ (Lok T N a → Xst T N (lfE T N a) D' ∧ cod D D' [lfc (wix T N a 8) (cix T N (tN T N a)) (lfV T N a)]) ∧ (¬ Lok T N a → D' 47 3 = lfE T N a ∧ D' 47 5 = D 47 5) := by
  have hN := hT.1
  obtain ⟨p1, y1, n1⟩ := tw_x hT ht h (k := 8) (by decide)
  refine ⟨p1, ?_⟩
  have hwb : wix T N a 8 = -1 ∨ (0 ≤ wix T N a 8 ∧ wix T N a 8 < 6) := wix_b 8
  by_cases q1 : wix T N a 8 = -1
  · obtain ⟨e1, e2⟩ := n1 q1
    obtain ⟨r1, r2⟩ := ref_x h
    have hf : (u_X6_refuse D) 47 3 ≠ -1 := by have := ht.1.1; omega
    have hl : ¬ Lok T N a := fun z => z.1 q1
    rw [e1, e2]
    obtain ⟨c1, c2, c3⟩ := tc_f hf
    rw [c2, c3]
    obtain ⟨m1, m2⟩ := num_f hf 9999
    rw [m1, m2]
    have x4 : D 47 7 = a := h.2.2.2.1
    refine ⟨c1, ?_, (em_f hf _).1, _, rfl, by rw [(em_f hf _).2]; exact r2, fun z => absurd z hl, fun _ => ⟨by rw [(em_f hf _).2, r1]; unfold lfE; rw [if_pos q1], by rw [(em_f hf _).2, ref_5 h]⟩⟩
    have hpn := Xst_pn hT ht h 9999
    have hpa := Xst_pa hT ht h
    have er : u_X6_refuse D = up D 47 3 (D 47 7) := by unfold u_X6_refuse; rw [if_pos h.2.2.1]
    rw [er]
    unfold p_num p_adv bys at *
    simp only [up_i (show (7 : Int) ≠ 3 by decide), up_i (show (8 : Int) ≠ 3 by decide), up_i (show (6 : Int) ≠ 3 by decide), up_i (show (4 : Int) ≠ 3 by decide), up_cf (show (48 : Nat) ≠ 47 by decide)]
    exact hpn
  · obtain ⟨e1, e2⟩ := y1 q1
    obtain ⟨a1, a2, a3, a4⟩ := adv_x ht h
    obtain ⟨t1, t2, t3, t4⟩ := tN_tok ht
    rw [e1, e2]
    generalize hE : u_adv D = E at *
    obtain ⟨p2, y2, n2⟩ := tc_x hT t1 a1
    refine ⟨p2, ?_⟩
    have hcb := cix_b (T := T) (N := N) (a := tN T N a)
    by_cases q2 : cix T N (tN T N a) = -1
    · obtain ⟨f1, f2⟩ := n2 q2
      obtain ⟨r1, r2⟩ := ref_x a1
      have hf : (u_X6_refuse E) 47 3 ≠ -1 := by have := ht.1.1; omega
      have hl : ¬ Lok T N a := fun z => z.2.1 q2
      rw [f1, f2]
      obtain ⟨m1, m2⟩ := num_f hf 9999
      rw [m1, m2]
      refine ⟨?_, (em_f hf _).1, _, rfl, by rw [(em_f hf _).2]; exact a2.trans r2, fun z => absurd z hl, fun _ => ⟨by rw [(em_f hf _).2, r1]; unfold lfE; rw [if_neg q1, if_pos q2], by rw [(em_f hf _).2, ref_5 a1, a3]⟩⟩
      have hpn := Xst_pn hT t1 a1 9999
      have er : u_X6_refuse E = up E 47 3 (E 47 7) := by unfold u_X6_refuse; rw [if_pos a1.2.2.1]
      rw [er]
      unfold p_num p_adv bys at *
      simp only [up_i (show (7 : Int) ≠ 3 by decide), up_i (show (8 : Int) ≠ 3 by decide), up_i (show (6 : Int) ≠ 3 by decide), up_i (show (4 : Int) ≠ 3 by decide), up_cf (show (48 : Nat) ≠ 47 by decide)]
      exact hpn
    · obtain ⟨f1, f2⟩ := y2 q2
      obtain ⟨b1, b2, b3, b4⟩ := adv_x t1 a1
      obtain ⟨s1, s2, s3, s4⟩ := tN_tok t1
      rw [f1, f2]
      generalize hF : u_adv E = F at *
      refine ⟨Xst_pn hT s1 b1 9999, ?_⟩
      obtain ⟨y3, n3⟩ := num_x s1 b1 9999
      by_cases q3 : Nm T N (tN T N (tN T N a)) 9999
      · obtain ⟨g1, g2⟩ := y3 q3
        obtain ⟨d1, d2, d3, d4⟩ := adv_x s1 b1
        obtain ⟨z1, z2, z3, z4⟩ := tN_tok s1
        rw [g1, g2]
        generalize hG : u_adv F = G at *
        have hv := Nm_b q3 s1.1.2
        have hle : a < N := by
          have : tK T N a = 1 := by
            by_cases k : tK T N a = 1
            · exact k
            · exact absurd (by unfold wix; rw [if_neg k]) q1
          exact (tE_let this).2.2
        have ha' := t4 hle
        have h5 : G 47 5 = D 47 5 := by rw [d3, b3, a3]
        have s12 := s1.1.2
        have e : wr (wr (wr (wr (wix T N a 8 * 3) + cix T N (tN T N a)) * 10000) + nv T (tN T N (tN T N a)) (tE T N (tN T N (tN T N a)))) = lfc (wix T N a 8) (cix T N (tN T N a)) (lfV T N a) := by
          unfold lfc lfV
          rw [wr_id (z := wix T N a 8 * 3) (by omega) (by omega), wr_id (z := wix T N a 8 * 3 + cix T N (tN T N a)) (by omega) (by omega), wr_id (z := (wix T N a 8 * 3 + cix T N (tN T N a)) * 10000) (by omega) (by omega), wr_id (by omega) (by omega)]
        rw [e]
        obtain ⟨m1, m2, m3, m4⟩ := em_x d1 (by omega) (by omega) (lfc (wix T N a 8) (cix T N (tN T N a)) (lfV T N a))
        have hE' : lfE T N a = tN T N (tN T N (tN T N a)) := by unfold lfE; rw [if_neg q1, if_neg q2]; exact if_pos q3
        have hl : Lok T N a := ⟨q1, q2, q3⟩
        refine ⟨m1, _, rfl, ((a2.trans b2).trans d2).trans m3, fun _ => ⟨by rw [hE']; exact m2, ?_⟩, fun z => absurd hl z⟩
        have c0 : cod D G [] := cod_eq h5 (by rw [d4, b4, a4]) (cod.refl D)
        exact c0.trans m4
      · obtain ⟨g1, g2⟩ := n3 q3
        obtain ⟨r1, r2⟩ := ref_x b1
        have hf : (u_X6_refuse F) 47 3 ≠ -1 := by have := ht.1.1; omega
        have hl : ¬ Lok T N a := fun z => q3 z.2.2
        rw [g1, g2]
        refine ⟨(em_f hf _).1, _, rfl, by rw [(em_f hf _).2]; exact (a2.trans b2).trans r2, fun z => absurd z hl, fun _ => ⟨?_, by rw [(em_f hf _).2, ref_5 b1, b3, a3]⟩⟩
        rw [(em_f hf _).2, r1]
        unfold lfE
        rw [if_neg q1, if_neg q2]
        exact (if_neg q3).symm
end Lef
