/-! The dealing: the reference asks, and both are the same. -/
section Dn
variable {n : Nat} {A A' : aA} {D D' E F : aD} {d : Nat} {s : am_S}
abbrev wM (D F : aD) (s : Int) : Int := if s < D 70 1 then F 117 s else -1
abbrev hM (D F : aD) (p : Int) : Int := if p < D 70 3 then F 118 p else -1
abbrev asM (D F : aD) (s p : Int) : Prop := alw D s p ∧ D 114 (30 * s + p) < F 119 s
def Jm (D F : aD) : Prop := Tk D F ∧ Qd (alw D) (rS D) (gP D) (wM D F) (hM D F) (asM D F) ∧ ∀ s, 0 ≤ s → s < D 70 1 → 1 ≤ F 119 s ∧ F 119 s ≤ 14
theorem Tk_u (h : Tk D F) {c : Nat} {i v : Int} (hc : c = 117 ∨ c = 118 ∨ c = 119) : Tk D (up F c i v) := by
  refine ⟨?_, fun p a b => ?_, fun s a b => ?_⟩
  · rcases hc with rfl | rfl | rfl <;> exact h.1.up rfl
  · rw [up_c (by omega)]; exact h.2.1 p a b
  · rw [up_c (by omega)]; exact h.2.2 s a b
theorem ask_e (hI : Inv D) (hJ : Jm D F) {s p : Int} (hs : 0 ≤ s ∧ s < D 70 1) (hp : 0 ≤ p ∧ p < D 70 3) (hw : F 117 s = -1) (hr : D 114 (30 * s + p) = F 119 s) : p_X12_asks F s p ∧ Jm D (up (u_X12_asks F s p) 119 s (F 119 s + 1)) ∧ u_X12_asks F s p 119 = F 119 ∧ F 119 s ≤ 13 := by
  obtain ⟨J0, Q, J3⟩ := hJ
  have hc := hI.iv.ct; unfold I_ct at hc
  have hm := J0.1
  have t0 := J3 s hs.1 hs.2
  have m := may_e hI J0 hs hp
  have a13 : F 119 s ≤ 13 := by
    obtain ⟨w1, w2, _, w4⟩ := hI.iv.ws.1 s hs.1 hs.2
    rcases w4 p hp.1 (by omega) with y | y <;> omega
  have eu : ∀ p', 0 ≤ p' → p' < D 70 3 → D 114 (30 * s + p') = F 119 s → p' = p := fun p' a b e => by
    obtain ⟨w1, w2, _, w4⟩ := hI.iv.ws.1 s hs.1 hs.2
    rcases w4 p hp.1 (by omega) with y | ⟨_, _, y⟩
    · omega
    · rcases w4 p' a (by omega) with x | ⟨_, _, x⟩
      · omega
      · rw [hr] at y; rw [e] at x; omega
  have hpq : hM D F p = F 118 p := if_pos hp.2
  have hws : wM D F s = -1 := by show (if s < D 70 1 then F 117 s else -1) = -1; rw [if_pos hs.2]; exact hw
  have e2 : ∀ o, 0 ≤ o → o < 24 → wr (wr (24 * p) + o) = 24 * p + o := fun o a b => by rw [wr_id (z := 24 * p) (by omega) (by omega), wr_id (by omega) (by omega)]
  have hb : F 118 p = -1 ∨ (0 ≤ F 118 p ∧ F 118 p < 24 ∧ wM D F (F 118 p) = p) := by
    have := Q.2.1 p hp.1 (by omega); rw [hpq] at this; exact this
  have hal : F 118 p ≠ -1 → alw D (F 118 p) p := fun q => by
    rcases hb with y | ⟨y1, y2, y3⟩
    · exact absurd y q
    · rcases Q.1 (F 118 p) y1 y2 with x | x
      · omega
      · rw [y3] at x; exact x.1
  by_cases ha : alw D s p
  · have nm : ¬ v_X12_mayBe F s p = 0 := fun q => m.2.1.mp q ha
    have hu : (∀ c, c ≠ 117 → c ≠ 118 → u_X12_asks F s p c = F c) ∧ ((F 118 p = -1 ∨ gP D p s < gP D p (F 118 p)) → u_X12_asks F s p 117 s = p ∧ u_X12_asks F s p 118 p = s ∧ (∀ s', s' ≠ s → u_X12_asks F s p 117 s' = if F 118 p ≠ -1 ∧ s' = F 118 p then -1 else F 117 s') ∧ ∀ p', p' ≠ p → u_X12_asks F s p 118 p' = F 118 p') ∧ (¬ (F 118 p = -1 ∨ gP D p s < gP D p (F 118 p)) → u_X12_asks F s p = F) ∧ p_X12_asks F s p ∧ Tk D (u_X12_asks F s p) := by
      unfold u_X12_asks p_X12_asks
      rw [if_neg nm, if_neg nm]
      by_cases c : F 118 p = -1
      · simp only [if_pos c]
        refine ⟨fun c' a b => by rw [up_cf a, up_cf b], fun _ => ⟨up_eq, by rw [up_c (by decide), up_eq], fun s' sn => ?_, fun p' pn => by rw [up_c (by decide), up_i pn]⟩, fun q => absurd (Or.inl c) q, ⟨m.1, by omega, by omega⟩, Tk_u (Tk_u J0 (Or.inr (Or.inl rfl))) (Or.inl rfl)⟩
        rw [up_i sn, up_c (by decide), if_neg (fun q => q.1 c)]
      · have y : 0 ≤ F 118 p ∧ F 118 p < 24 := by rcases hb with x | x; exact absurd x c; exact ⟨x.1, x.2.1⟩
        have nes : F 118 p ≠ s := fun q => by
          rcases hb with x | ⟨_, _, x⟩
          · exact c x
          · rw [q, hws] at x; omega
        simp only [if_neg c, e2 s hs.1 (by omega), e2 _ y.1 y.2, hm 115 rfl]
        by_cases k : D 115 (24 * p + s) ≤ D 115 (24 * p + F 118 p)
        · have lt : gP D p s < gP D p (F 118 p) := by
            show D 115 (24 * p + s) < D 115 (24 * p + F 118 p)
            rcases Int.lt_or_eq_of_le k with z | z
            · exact z
            · exact absurd ((alw_H hI).2.2 p s _ ha (hal c) z).symm nes
          simp only [if_pos k]
          refine ⟨fun c' a b => by rw [up_cf a, up_cf b, up_cf a], fun _ => ⟨up_eq, by rw [up_c (by decide), up_eq], fun s' sn => ?_, fun p' pn => by rw [up_c (by decide), up_i pn, up_c (by decide)]⟩, fun q => absurd (Or.inr lt) q, ⟨m.1, by omega, by omega, by omega, by omega, by omega⟩, Tk_u (Tk_u (Tk_u J0 (Or.inl rfl)) (Or.inr (Or.inl rfl))) (Or.inl rfl)⟩
          rw [up_i sn, up_c (by decide)]
          by_cases z : s' = F 118 p
          · rw [if_pos ⟨c, z⟩, z, up_eq]
          · rw [if_neg (fun q => z q.2), up_i z]
        · simp only [if_neg k]
          refine ⟨fun _ _ _ => trivial, fun q => ?_, fun _ => trivial, ⟨m.1, by omega, by omega, by omega, trivial⟩, J0⟩
          rcases q with q | q
          · exact absurd q c
          · replace q : D 115 (24 * p + s) < D 115 (24 * p + F 118 p) := q
            omega
    obtain ⟨u1, u2, u3, u4, u5⟩ := hu
    have e19 := u1 119 (by decide) (by decide)
    refine ⟨u4, ⟨Tk_u u5 (Or.inr (Or.inr rfl)), ?_, fun s' a b => ?_⟩, e19, a13⟩
    · refine Q_step (s0 := s) (p0 := p) (alw_H hI) Q ha hws (fun p' a b => ⟨a, ?_⟩) (fun q => by have := q.2; omega) (fun s' p' => ?_) (fun q => ?_) (fun q => ?_)
      · replace b : D 114 (30 * s + p') < D 114 (30 * s + p) := b
        omega
      · show (alw D s' p' ∧ D 114 (30 * s' + p') < up (u_X12_asks F s p) 119 s (F 119 s + 1) 119 s') ↔ ((alw D s' p' ∧ D 114 (30 * s' + p') < F 119 s') ∨ (s' = s ∧ p' = p))
        by_cases k : s' = s
        · subst k
          rw [up_eq]
          constructor
          · rintro ⟨q1, q2⟩
            by_cases y : D 114 (30 * s' + p') < F 119 s'
            · exact Or.inl ⟨q1, y⟩
            · exact Or.inr ⟨rfl, eu p' q1.2.1.1 q1.2.1.2 (by omega)⟩
          · rintro (⟨q1, q2⟩ | ⟨_, rfl⟩)
            · exact ⟨q1, by omega⟩
            · exact ⟨ha, by omega⟩
        · rw [up_i k, e19]
          exact ⟨fun q => Or.inl q, fun q => by rcases q with q | q; exact q; exact absurd q.1 k⟩
      · rw [hpq] at q
        obtain ⟨q1, q2, q3, q4⟩ := u2 q
        refine ⟨?_, ?_, fun s' a b sn => ?_, fun p' a b pn => ?_⟩
        · show (if s < D 70 1 then up (u_X12_asks F s p) 119 s (F 119 s + 1) 117 s else -1) = p
          rw [if_pos hs.2, up_c (by decide)]; exact q1
        · show (if p < D 70 3 then up (u_X12_asks F s p) 119 s (F 119 s + 1) 118 p else -1) = s
          rw [if_pos hp.2, up_c (by decide)]; exact q2
        · rw [hpq]
          show (if s' < D 70 1 then up (u_X12_asks F s p) 119 s (F 119 s + 1) 117 s' else -1) = if F 118 p ≠ -1 ∧ s' = F 118 p then -1 else (if s' < D 70 1 then F 117 s' else -1)
          rw [up_c (by decide)]
          by_cases z : s' < D 70 1
          · rw [if_pos z, if_pos z]; exact q3 s' sn
          · rw [if_neg z, if_neg z, ite_self]
        · show (if p' < D 70 3 then up (u_X12_asks F s p) 119 s (F 119 s + 1) 118 p' else -1) = (if p' < D 70 3 then F 118 p' else -1)
          rw [up_c (by decide), q4 p' pn]
      · rw [hpq] at q
        have e := u3 q
        refine ⟨fun s' a b => ?_, fun p' a b => ?_⟩
        · show (if s' < D 70 1 then up (u_X12_asks F s p) 119 s (F 119 s + 1) 117 s' else -1) = (if s' < D 70 1 then F 117 s' else -1)
          rw [up_c (by decide), e]
        · show (if p' < D 70 3 then up (u_X12_asks F s p) 119 s (F 119 s + 1) 118 p' else -1) = (if p' < D 70 3 then F 118 p' else -1)
          rw [up_c (by decide), e]
    · by_cases k : s' = s
      · rw [k, up_eq]; omega
      · rw [up_i k, e19]; exact J3 s' a b
  · have e0 : u_X12_asks F s p = F := by unfold u_X12_asks; rw [if_pos (m.2.1.mpr ha)]
    rw [e0]
    refine ⟨by unfold p_X12_asks; rw [if_pos (m.2.1.mpr ha)]; exact ⟨m.1, trivial⟩, ⟨Tk_u J0 (Or.inr (Or.inr rfl)), ?_, fun s' a b => ?_⟩, rfl, a13⟩
    · have ew : wM D (up F 119 s (F 119 s + 1)) = wM D F := by
        funext s'; show (if s' < D 70 1 then up F 119 s (F 119 s + 1) 117 s' else -1) = _; rw [up_c (by decide)]
      have eh : hM D (up F 119 s (F 119 s + 1)) = hM D F := by
        funext p'; show (if p' < D 70 3 then up F 119 s (F 119 s + 1) 118 p' else -1) = _; rw [up_c (by decide)]
      rw [ew, eh]
      refine Q_as (fun s' p' => ?_) Q
      show (alw D s' p' ∧ D 114 (30 * s' + p') < F 119 s') ↔ (alw D s' p' ∧ D 114 (30 * s' + p') < up F 119 s (F 119 s + 1) 119 s')
      by_cases k : s' = s
      · subst k
        rw [up_eq]
        refine ⟨fun q => ⟨q.1, by omega⟩, fun q => ⟨q.1, ?_⟩⟩
        have : D 114 (30 * s' + p') ≠ F 119 s' := fun z => ha (by rw [← eu p' q.1.2.1.1 q.1.2.1.2 z]; exact q.1)
        omega
      · rw [up_i k]
    · by_cases k : s' = s
      · rw [k, up_eq]; omega
      · rw [up_i k]; exact J3 s' a b
theorem C59 (hI : Inv D) : ∀ (R : Nat) (F : aD), Jm D F → sm (fun s => 14 - F 119 s) (D 70 1) ≤ R → ∃ D', Sm D' D ∧ Pst D (wM D D') ∧ ∀ A, K_X12_deals_59 1 A F 1 D' := by
  have hc := hI.iv.ct; unfold I_ct at hc
  have key : ∀ (R : Nat), (∀ F : aD, Jm D F → sm (fun s => 14 - F 119 s) (D 70 1) + 1 ≤ R → ∃ D', Sm D' D ∧ Pst D (wM D D') ∧ ∀ A, K_X12_deals_59 1 A F 1 D') → ∀ F : aD, Jm D F → sm (fun s => 14 - F 119 s) (D 70 1) ≤ R → ∃ D', Sm D' D ∧ Pst D (wM D D') ∧ ∀ A, K_X12_deals_59 1 A F 1 D' := by
    intro R ih F hJ hR
    have inner : ∀ (q : Nat) (s more : Int) (G : aD), s + q = D 70 1 → 0 ≤ s → Jm D G → ((more = 0 ∧ (∀ s', 0 ≤ s' → s' < s → G 117 s' = -1 → w_nth D s' (G 119 s') = -1) ∧ sm (fun s => 14 - G 119 s) (D 70 1) ≤ R) ∨ (more = 1 ∧ sm (fun s => 14 - G 119 s) (D 70 1) + 1 ≤ R)) → ∃ D', Sm D' D ∧ Pst D (wM D D') ∧ ∀ A, K_X12_deals_67 1 A G more s D' := by
      intro q
      induction q with
      | zero =>
        intro s more G hq s0 gJ gO
        have e70 : G 70 = D 70 := gJ.1.1 70 rfl
        rcases gO with ⟨rfl, g1, g2⟩ | ⟨rfl, g1⟩
        · refine ⟨G, gJ.1.1, ⟨hM D G, asM D G, gJ.2.1, fun s' a b c p hp => ⟨hp, ?_⟩⟩, fun A => rl_X12_deals_67 _ _ rg0 (by omega) (rgb (by omega) (by omega)) ?_⟩
          · have hb := alw_b hI hp
            have h1 := hp.1
            replace c : (if s' < D 70 1 then G 117 s' else -1) = -1 := c
            rw [if_pos h1.2] at c
            have z := g1 s' h1.1 (by omega) c
            have j3 := gJ.2.2 s' h1.1 h1.2
            obtain ⟨w1, w2, w3, w4⟩ := hI.iv.ws.1 s' h1.1 h1.2
            rcases Int.lt_or_le (D 114 (30 * s' + p)) (G 119 s') with y | y
            · exact y
            · exfalso
              have w := w3 (G 119 s' - 1) (by omega) (by omega)
              unfold w_nth at z
              rcases fsi_spec (p := fun p => decide (D 114 (30 * s' + p) = G 119 s')) (N := D 70 3) 0 with ⟨_, k2⟩ | ⟨k1, _⟩
              · have := of_decide_eq_false (k2 _ w.1 w.2.1)
                omega
              · omega
          · rw [if_pos (by rw [e70]; omega)]
            refine rl_X12_deals_59 _ rg0 (by omega) ?_
            rw [if_pos rfl]
        · obtain ⟨D', a, b, K⟩ := ih G gJ g1
          refine ⟨D', a, b, fun A => rl_X12_deals_67 _ _ ⟨by decide, by decide⟩ (by omega) (rgb (by omega) (by omega)) ?_⟩
          rw [if_pos (by rw [e70]; omega)]; exact K A
      | succ q ihq =>
        intro s more G hq s0 gJ gO
        have e70 : G 70 = D 70 := gJ.1.1 70 rfl
        have e114 : G 114 = D 114 := gJ.1.1 114 rfl
        have hmo : 0 ≤ more ∧ more ≤ 1 := by rcases gO with h | h <;> omega
        have en : w_nth G s (G 119 s) = w_nth D s (G 119 s) := by unfold w_nth; rw [e70, e114]
        have pn : p_nth G s (G 119 s) := by unfold p_nth; rw [e70]; omega
        by_cases c1 : G 117 s = -1
        · rcases fsi_spec (p := fun p => decide (D 114 (30 * s + p) = G 119 s)) (N := D 70 3) 0 with ⟨k1, k2⟩ | ⟨k1, k2, k3, k4⟩
          · have z : w_nth D s (G 119 s) = -1 := k1
            obtain ⟨D', a, b, K⟩ := ihq (s + 1) more G (by omega) (by omega) gJ (by
              rcases gO with ⟨h1, h2, h3⟩ | h
              · refine Or.inl ⟨h1, fun s' x y w => ?_, h3⟩
                by_cases e : s' = s
                · rw [e]; exact z
                · exact h2 s' x (by omega) w
              · exact Or.inr h)
            refine ⟨D', a, b, fun A => rl_X12_deals_67 _ _ (rgb (by omega) (by omega)) hmo (rgb (by omega) (by omega)) ?_⟩
            rw [if_neg (by rw [e70]; omega), if_pos c1, en, if_pos z, wr_id (by omega) (by omega)]
            exact ⟨by omega, pn, K A⟩
          · obtain ⟨p, hp⟩ : ∃ p, p = w_nth D s (G 119 s) := ⟨_, rfl⟩
            have k1' : 0 ≤ p := by rw [hp]; exact k1
            have k2' : p < D 70 3 := by rw [hp]; exact k2
            have k3' : D 114 (30 * s + p) = G 119 s := by rw [hp]; exact of_decide_eq_true k3
            obtain ⟨o1, o2, o3, o4⟩ := ask_e hI gJ ⟨s0, by omega⟩ ⟨k1', k2'⟩ c1 k3'
            have su : sm (fun t => 14 - up (u_X12_asks G s p) 119 s (G 119 s + 1) 119 t) (D 70 1) = sm (fun t => 14 - G 119 t) (D 70 1) + -1 := sm_u (s0 := s) s0 (by omega) (fun s' _ _ sn => by show 14 - up (u_X12_asks G s p) 119 s (G 119 s + 1) 119 s' = 14 - G 119 s'; rw [up_i sn, o3]) (by show 14 - up (u_X12_asks G s p) 119 s (G 119 s + 1) 119 s = 14 - G 119 s + -1; rw [up_eq]; omega)
            obtain ⟨D', a, b, K⟩ := ihq (s + 1) 1 _ (by omega) (by omega) o2 (Or.inr ⟨rfl, by rw [su]; rcases gO with ⟨_, _, h⟩ | ⟨_, h⟩ <;> omega⟩)
            refine ⟨D', a, b, fun A => rl_X12_deals_67 _ _ (rgb (by omega) (by omega)) hmo (rgb (by omega) (by omega)) ?_⟩
            have j3 := gJ.2.2 s s0 (by omega)
            rw [if_neg (by rw [e70]; omega), if_pos c1, en, ← hp, if_neg (by omega), o3, wr_id (z := G 119 s + 1) (by omega) (by omega), wr_id (z := s + 1) (by omega) (by omega)]
            exact ⟨by omega, pn, o1, K A⟩
        · obtain ⟨D', a, b, K⟩ := ihq (s + 1) more G (by omega) (by omega) gJ (by
            rcases gO with ⟨h1, h2, h3⟩ | h
            · refine Or.inl ⟨h1, fun s' x y w => ?_, h3⟩
              by_cases e : s' = s
              · rw [e] at w; exact absurd w c1
              · exact h2 s' x (by omega) w
            · exact Or.inr h)
          refine ⟨D', a, b, fun A => rl_X12_deals_67 _ _ (rgb (by omega) (by omega)) hmo (rgb (by omega) (by omega)) ?_⟩
          rw [if_neg (by rw [e70]; omega), if_neg c1, wr_id (by omega) (by omega)]
          exact ⟨by omega, K A⟩
    obtain ⟨D', a, b, K⟩ := inner (D 70 1).toNat 0 0 F (by omega) (by omega) hJ (Or.inl ⟨rfl, fun s' x y => by omega, hR⟩)
    refine ⟨D', a, b, fun A => rl_X12_deals_59 _ ⟨by decide, by decide⟩ (by omega) ?_⟩
    rw [if_neg (by decide)]; exact K A
  intro R
  induction R with
  | zero =>
    exact key 0 (fun F hJ h => by
      exfalso
      have := (sm_b (f := fun s => 14 - F 119 s) (lo := 0) (hi := 14) (N := D 70 1) (fun s a b => by have := hJ.2.2 s a b; show 0 ≤ 14 - F 119 s ∧ 14 - F 119 s ≤ 14; omega) (D 70 1) (by omega) (Int.le_refl _)).1
      omega)
  | succ R ih => exact key (R + 1) (fun F hJ h => ih F hJ (by omega))
end Dn
