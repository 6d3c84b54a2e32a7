/-! The reference's statement: least, fee, bar, step, and the whole. -/
section Stl
variable {n c : Nat} {A : aA} {D D' Z : aD} {T : Int → Int} {N a b k : Int} {r : Option (Option Itm)} {f : Int}
def leL (n c : Nat) (A : aA) (Z : aD) (k x : Int) (D' : aD) : Prop := (p_X12_ofPost Z k) ∧ (if v_X12_ofPost Z k = 0 then K_X12_statement_377 (n + 1) c A (u_X12_ofPost Z k) 0 x D' else (∃ x88 : Int, ∃ D89 : aD, (Ev (n + 1) c 165 [am_r (some 70), am_i (wz k)] A (u_X12_ofPost Z k) (ri x88) A D89 ∧ 0 ≤ x88 ∧ x88 ≤ 1) ∧ (if x88 = 0 then K_X12_statement_377 (n + 1) c A D89 0 x D' else K_X12_statement_377 (n + 1) c A D89 1 x D')))
theorem lf_l (hc : 37 ≤ c) (hT : Txt T N) (hk : 0 ≤ k ∧ k < 270) (hm : Mst T N b Z) (h4 : Z 94 k = 4) (h27 : 0 ≤ Z 70 27) (hp : 25 * Z 70 27 ≤ 104000 + 21 * b - 50) (hr : Crk T N 4 (gN T N (atm 4) b) r f) : ∃ y E, (0 ≤ y ∧ y ≤ 1) ∧ (∀ x D', K_X12_statement_377 (n + 1) c A E y x D' → leL n c A Z k x D') ∧ Sfr k (Z 70 27) Z E ∧ Lpp T N k 4 b Z E y f r := by
  have hr2 : Cr T N (tN T N (tN T N b)) r f := hr
  obtain ⟨p, _, s, y, z, w⟩ := ofp_m hT hk hm (c0 := Z 70 27)
  unfold leL
  by_cases q : wix T N b 3 = -1
  · obtain ⟨y1, y2⟩ := y q
    refine ⟨0, _, ⟨by decide, by decide⟩, fun x D' h => ⟨p, ?_⟩, s, fun g hg => ?_, fun hg => absurd q hg.1⟩
    · rw [if_pos y1]; exact h
    · rcases hg with ⟨_, g2⟩ | ⟨g1, _⟩
      · exact ⟨rfl, by rw [y2, g2]⟩
      · exact absurd q g1
  · by_cases q2 : Nm T N (tN T N b) 9999
    · obtain ⟨w1, w2, w3, w4, w5, w6⟩ := w q q2
      have tb := Mst_tok hT hm
      obtain ⟨t1, t2, _, _⟩ := tN_tok tb
      obtain ⟨t3, t4, _, _⟩ := tN_tok t1
      obtain ⟨x1, E, v1, v2, v3, v4, v5⟩ := Cr_m (n := n) (A := A) hT hr2 hk w2 (by omega) (by omega)
      rw [w6] at v3
      refine ⟨x1, E, v1, fun x D' h => ⟨p, ?_⟩, s.trans v3, fun g hg => ?_, fun hg => ⟨⟨?_, ?_, fun _ => ?_, fun g => absurd g (by decide)⟩, ?_⟩⟩
      · rw [w1, if_neg (by decide)]
        refine ⟨x1, E, ⟨Ev_le v2 hc, v1⟩, ?_⟩
        by_cases d : x1 = 0
        · rw [if_pos d]; rw [d] at h; exact h
        · rw [if_neg d]; rw [show x1 = 1 by omega] at h; exact h
      · rcases hg with ⟨g1, _⟩ | ⟨_, ⟨g1, _⟩ | ⟨_, g1⟩⟩
        · exact absurd q g1
        · exact absurd q2 g1
        · exact g1.elim
      · rw [v4 94 (by decide) (by decide), w3]; exact h4
      · rw [v4 95 (by decide) (by decide), w4]; rfl
      · rw [v4 96 (by decide) (by decide), w5]; rfl
      · show CrM T N k Z E (tN T N (tN T N b)) x1 f r
        cases r with
        | none => exact v5
        | some o =>
          cases o with
          | none => exact ⟨v5.1, v5.2.1, v5.2.2.1, by rw [v5.2.2.2, w6]⟩
          | some v =>
            obtain ⟨d1, d2, d3, d4, d5, d6⟩ := v5
            rw [w6] at d3 d4 d5 d6
            exact ⟨d1, d2, d3, d4, d5, d6⟩
    · obtain ⟨z1, z2⟩ := z q q2
      refine ⟨0, _, ⟨by decide, by decide⟩, fun x D' h => ⟨p, ?_⟩, s, fun g hg => ?_, fun hg => absurd hg.2.1 q2⟩
      · rw [if_pos z1]; exact h
      · rcases hg with ⟨g1, _⟩ | ⟨_, ⟨_, g2⟩ | ⟨g1, _⟩⟩
        · exact absurd q g1
        · exact ⟨rfl, by rw [z2, g2]⟩
        · exact absurd g1 q2
theorem lf_f (hT : Txt T N) (hk : 0 ≤ k ∧ k < 270) (hm : Mst T N b Z) (h4 : Z 94 k = 0) (h27 : 0 ≤ Z 70 27) (hp : 25 * Z 70 27 ≤ 104000 + 21 * b - 50) (hr : Crk T N 0 (gN T N (atm 0) b) r f) : ∃ y E, (0 ≤ y ∧ y ≤ 1) ∧ Ev (n + 1) 38 166 [am_r (some 70), am_i (wz k)] A Z (ri y) A E ∧ Sfr k (Z 70 27) Z E ∧ Lpp T N k 0 b Z E y f r := by
  have hr2 : Cr T N (tN T N (tN T N (tN T N b))) r f := hr
  obtain ⟨x, E, e1, e2, e3, e4, e5⟩ := fee_m (n := n) (A := A) hT hk hm h27 hp hr2
  refine ⟨x, E, e2, e1, e3, fun g hg => ?_, fun hg => ?_⟩
  · rcases hg with ⟨g1, g2⟩ | ⟨g1, ⟨g2, g3⟩ | ⟨g2, ⟨g3, g4⟩ | ⟨_, g3⟩⟩⟩
    · subst g2; exact e4 (Decidable.not_not.mp g1)
    · subst g3; exact (e5 g1).1 g2
    · subst g4; exact (e5 g1).2.1 g2 g3
    · exact g3.elim
  · obtain ⟨v1, v2, v3, v4, v5⟩ := (e5 hg.1).2.2 hg.2.1 hg.2.2.1
    exact ⟨⟨by rw [v2]; exact h4, v3, fun _ => v4, fun _ => v5⟩, v1⟩
theorem lf_c (hT : Txt T N) (hm : Mst T N b Z) (h4 : Z 94 k = 5) (h5 : Z 95 k = 0) (hr : Crk T N 5 (gN T N (atm 5) b) r f) : p_X12_takes Z (109300298179432 : Int64) ∧ (0 ≤ w_tk Z (109300298179432 : Int64) ∧ w_tk Z (109300298179432 : Int64) ≤ 1) ∧ Sfr k (Z 70 27) Z (u_tk Z (109300298179432 : Int64)) ∧ Lpp T N k 5 b Z (u_tk Z (109300298179432 : Int64)) (w_tk Z (109300298179432 : Int64)) f r := by
  have hr2 : f = tN T N b := hr.2
  obtain ⟨w1, w2⟩ := tk_m hT hm (l := 109300298179432) (w := [99, 104, 117, 114, 99, 104]) (by decide) (by decide)
  have hx : wix T N b 4 ≠ -1 ↔ Wd T N b [99, 104, 117, 114, 99, 104] := wix1 rfl
  refine ⟨Mfl.p hT hm _, ?_⟩
  by_cases q : Wd T N b [99, 104, 117, 114, 99, 104]
  · obtain ⟨v1, v2, v3⟩ := w1 q
    rw [v1]
    refine ⟨⟨by decide, by decide⟩, v3.sfr, fun g hg => ?_, fun hg => ⟨⟨by rw [v3.1 94 (by decide)]; exact h4, by rw [v3.1 95 (by decide)]; exact h5, fun g => absurd rfl g, fun g => absurd g (by decide)⟩, rfl, by rw [hr2]; exact v2, v3.2 27 (by decide) (by decide) (by decide)⟩⟩
    rcases hg with ⟨g1, _⟩ | ⟨_, g1⟩
    · exact absurd (hx.2 q) g1
    · exact g1.elim
  · obtain ⟨v1, v2, v3, v4⟩ := w2 q
    rw [v1]
    refine ⟨⟨by decide, by decide⟩, v3.sfr, fun g hg => ?_, fun hg => absurd (hx.1 hg.1) q⟩
    rcases hg with ⟨_, g2⟩ | ⟨g1, _⟩
    · exact ⟨rfl, by rw [v4, g2]⟩
    · exact absurd (hx.1 g1) q
def haL (n c : Nat) (A : aA) (V : aD) (k x : Int) (D' : aD) : Prop := (p_X12_plain V k) ∧ (if v_X12_plain V k = 0 then K_X12_statement_377 (n + 1) c A (u_X12_plain V k) 0 x D' else K_X12_statement_377 (n + 1) c A (u_X12_plain V k) 1 x D')
def spM (n c : Nat) (A : aA) (X : aD) (k x : Int) (D' : aD) : Prop := (p_X12_takes X (418330731890 : Int64)) ∧ (if w_tk X (418330731890 : Int64) = 0 then K_X12_statement_377 (n + 1) c A (u_tk X (418330731890 : Int64)) 0 x D' else haL n c A (u_tk X (418330731890 : Int64)) k x D')
def spL (n c : Nat) (A : aA) (Z : aD) (k x : Int) (D' : aD) : Prop := (p_X12_postHere Z) ∧ (if v_X12_postHere Z = (-1) then K_X12_statement_377 (n + 1) c A (up (up (u_X12_postHere Z) 95 k (v_X12_postHere Z)) 97 k (-1)) 0 x D' else (p_X12_postHere (up (u_X12_postHere Z) 95 k (v_X12_postHere Z))) ∧ (if v_X12_postHere (up (u_X12_postHere Z) 95 k (v_X12_postHere Z)) = (-1) then K_X12_statement_377 (n + 1) c A (up (u_X12_postHere (up (u_X12_postHere Z) 95 k (v_X12_postHere Z))) 97 k (v_X12_postHere (up (u_X12_postHere Z) 95 k (v_X12_postHere Z)))) 0 x D' else spM n c A (up (u_X12_postHere (up (u_X12_postHere Z) 95 k (v_X12_postHere Z))) 97 k (v_X12_postHere (up (u_X12_postHere Z) 95 k (v_X12_postHere Z)))) k x D'))
theorem haL_i {V : aD} (h : p_X12_plain V k) (h2 : 0 ≤ v_X12_plain V k ∧ v_X12_plain V k ≤ 1) {x : Int} (g : K_X12_statement_377 (n + 1) c A (u_X12_plain V k) (v_X12_plain V k) x D') : haL n c A V k x D' := by
  refine ⟨h, ?_⟩
  by_cases d : v_X12_plain V k = 0
  · rw [if_pos d]; rw [d] at g; exact g
  · rw [if_neg d]; rw [show v_X12_plain V k = 1 by omega] at g; exact g
theorem lf_s (hT : Txt T N) (hk : 0 ≤ k ∧ k < 270) (hm : Mst T N b Z) (h4 : Z 94 k = 6) (hr : Crk T N 6 (gN T N (atm 6) b) r f) : ∃ y E, (0 ≤ y ∧ y ≤ 1) ∧ (∀ x D', K_X12_statement_377 (n + 1) c A E y x D' → spL n c A Z k x D') ∧ Sfr k (Z 70 27) Z E ∧ Lpp T N k 6 b Z E y f r := by
  have hr2 : f = tN T N (tN T N (tN T N (tN T N b))) := hr.2
  obtain ⟨p, e1, e2, e3, e4⟩ := post_m hT hm
  unfold spL
  rw [e1]
  by_cases q : wix T N b 3 = -1
  · obtain ⟨y1, y2⟩ := e4 q
    refine ⟨0, _, ⟨by decide, by decide⟩, fun x D' h => ⟨p, ?_⟩, (e2.sfr.ups (c := 95) (v := wix T N b 3) ⟨by decide, by decide⟩).ups (c := 97) (v := -1) ⟨by decide, by decide⟩, fun g hg => ?_, fun hg => absurd q hg.1⟩
    · rw [if_pos q]; exact h
    · rcases hg with ⟨_, g2⟩ | ⟨g1, _⟩
      · exact ⟨rfl, by rw [up_c (by decide), up_c (by decide), y2, g2]⟩
      · exact absurd q g1
  · have m1 : Mst T N (tN T N b) (up (u_X12_postHere Z) 95 k (wix T N b 3)) := Mst_cg (e3 q) (up_cf (by decide)) (up_c (by decide)) (up_c (by decide))
    have f1 : Sfr k (Z 70 27) Z (up (u_X12_postHere Z) 95 k (wix T N b 3)) := e2.sfr.ups ⟨by decide, by decide⟩
    have e94 : (up (u_X12_postHere Z) 95 k (wix T N b 3)) 94 = Z 94 := by rw [up_cf (by decide), e2.1 94 (by decide)]
    have e95 : (up (u_X12_postHere Z) 95 k (wix T N b 3)) 95 k = wix T N b 3 := up_eq
    have e27 : (up (u_X12_postHere Z) 95 k (wix T N b 3)) 70 27 = Z 70 27 := by rw [up_c (by decide), e2.2 27 (by decide) (by decide) (by decide)]
    simp only [if_neg q]
    generalize up (u_X12_postHere Z) 95 k (wix T N b 3) = Y at *
    obtain ⟨p', i1, i2, i3, i4⟩ := post_m hT m1
    rw [i1]
    by_cases q1 : wix T N (tN T N b) 3 = -1
    · obtain ⟨y1, y2⟩ := i4 q1
      refine ⟨0, _, ⟨by decide, by decide⟩, fun x D' h => ⟨p, p', ?_⟩, (f1.trans i2.sfr).ups (c := 97) (v := wix T N (tN T N b) 3) ⟨by decide, by decide⟩, fun g hg => ?_, fun hg => absurd q1 hg.2.1⟩
      · rw [if_pos q1]; exact h
      · rcases hg with ⟨g1, _⟩ | ⟨_, ⟨_, g2⟩ | ⟨g1, _⟩⟩
        · exact absurd q g1
        · exact ⟨rfl, by rw [up_c (by decide), y2, g2]⟩
        · exact absurd q1 g1
    · have m2 : Mst T N (tN T N (tN T N b)) (up (u_X12_postHere Y) 97 k (wix T N (tN T N b) 3)) := Mst_cg (i3 q1) (up_cf (by decide)) (up_c (by decide)) (up_c (by decide))
      have f2 : Sfr k (Z 70 27) Z (up (u_X12_postHere Y) 97 k (wix T N (tN T N b) 3)) := (f1.trans i2.sfr).ups ⟨by decide, by decide⟩
      have g94 : (up (u_X12_postHere Y) 97 k (wix T N (tN T N b) 3)) 94 = Z 94 := by rw [up_cf (by decide), i2.1 94 (by decide), e94]
      have g95 : (up (u_X12_postHere Y) 97 k (wix T N (tN T N b) 3)) 95 k = wix T N b 3 := by rw [up_cf (by decide), i2.1 95 (by decide), e95]
      have g97 : (up (u_X12_postHere Y) 97 k (wix T N (tN T N b) 3)) 97 k = wix T N (tN T N b) 3 := up_eq
      have g27 : (up (u_X12_postHere Y) 97 k (wix T N (tN T N b) 3)) 70 27 = Z 70 27 := by rw [up_c (by decide), i2.2 27 (by decide) (by decide) (by decide), e27]
      simp only [if_neg q1]
      generalize up (u_X12_postHere Y) 97 k (wix T N (tN T N b) 3) = X at *
      obtain ⟨w1, w2⟩ := tk_m hT m2 (l := 418330731890) (w := [97, 102, 116, 101, 114]) (by decide) (by decide)
      have hx : wix T N (tN T N (tN T N b)) 5 ≠ -1 ↔ Wd T N (tN T N (tN T N b)) [97, 102, 116, 101, 114] := wix1 rfl
      have p2 := Mfl.p hT m2 418330731890
      by_cases q2 : Wd T N (tN T N (tN T N b)) [97, 102, 116, 101, 114]
      · obtain ⟨v1, v2, v3⟩ := w1 q2
        obtain ⟨p3, y', z'⟩ := plain_m hT v2 hk
        obtain ⟨s1, s2⟩ := plain_s hT v2 (k := k) (c0 := Z 70 27)
        refine ⟨_, _, s2, fun x D' h => ⟨p, p', p2, ?_⟩, (f2.trans v3.sfr).trans s1, fun g hg => ?_, fun hg => ?_⟩
        · rw [v1, if_neg (by decide)]; exact haL_i p3 s2 h
        · rcases hg with ⟨g1, _⟩ | ⟨_, ⟨g1, _⟩ | ⟨_, ⟨g1, _⟩ | ⟨_, ⟨g1, g2⟩ | ⟨_, g1⟩⟩⟩⟩
          · exact absurd q g1
          · exact absurd q1 g1
          · exact absurd (hx.2 q2) g1
          · subst g2; exact z' g1
          · exact g1.elim
        · obtain ⟨t1, t2, t3, t4, t5⟩ := y' hg.2.2.2.1
          refine ⟨⟨?_, ?_, fun _ => t3, fun _ => ?_⟩, t1, by rw [hr2]; exact t2, ?_⟩
          · rw [t4 94 (by decide) (by decide), v3.1 94 (by decide), g94]; exact h4
          · rw [t4 95 (by decide) (by decide), v3.1 95 (by decide), g95]; rfl
          · rw [t4 97 (by decide) (by decide), v3.1 97 (by decide), g97]; rfl
          · rw [t5, v3.2 27 (by decide) (by decide) (by decide), g27]
      · obtain ⟨v1, v2, v3, v4⟩ := w2 q2
        refine ⟨0, _, ⟨by decide, by decide⟩, fun x D' h => ⟨p, p', p2, ?_⟩, f2.trans v3.sfr, fun g hg => ?_, fun hg => absurd (hx.1 hg.2.2.1) q2⟩
        · rw [v1, if_pos rfl]; exact h
        · rcases hg with ⟨g1, _⟩ | ⟨_, ⟨g1, _⟩ | ⟨_, ⟨_, g2⟩ | ⟨g1, _⟩⟩⟩
          · exact absurd q g1
          · exact absurd q1 g1
          · exact ⟨rfl, by rw [v4, g2]⟩
          · exact absurd (hx.1 g1) q2
end Stl
