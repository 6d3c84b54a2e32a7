/-! The reference's rules. -/
section Ml2
variable {n : Nat} {A A' : aA} {D D' E D0 : aD} {T : Int → Int} {N a b e g k nd : Int} {s f : Nat → Int} {w : Nat → Option Itm} {M : Nat} {o : Option Int} {r : Int}
theorem m88_f (hn : rg nd) : K_X12_rules_88 (n + 1) 39 A D nd 0 (-1) (up (up D 70 32 (D 70 30)) 70 27 nd) := by
  refine rl_X12_rules_88 (by decide) nd 0 hn ⟨by decide, by decide⟩ ⟨by decide, by decide⟩ ?_
  rw [if_pos rfl, if_pos rfl, if_pos rfl]; exact ⟨rfl, rfl⟩
def MFin (T : Int → Int) (N : Int) (s : Nat → Int) (w : Nat → Option Itm) (M : Nat) (o : Option Int) (r nd : Int) (D0 : aD) (x : Int) (D' : aD) : Prop := (o = none → x = r ∧ ∃ E, ML T N s w r D0 M E ∧ D' = up (up (up E 70 32 (-1)) 93 r (E 70 0)) 70 26 (r + 1)) ∧ (∀ g, o = some g → x = -1 ∧ ∃ E, MF r D0 E ∧ D' = up (up E 70 32 g) 70 27 nd)
theorem ml_loop (hT : Txt T N) (hr : 0 ≤ r ∧ r < 8) (t0 : Tok T N (s 0)) (h26 : D0 70 26 = r) (h27 : 0 ≤ D0 70 27 ∧ 25 * D0 70 27 ≤ 103000) (hn : rg nd) (hS : Sts T N M s w f o) : ∀ (q j : Nat) (D : aD), j + q = M → ML T N s w r D0 j D → ∃ x D', K_X12_rules_88 (n + 1) 39 A D nd 1 x D' ∧ MFin T N s w M o r nd D0 x D' := by
  intro q
  have hN := hT.1
  induction q with
  | zero =>
    intro j D hj h
    have ej : j = M := by omega
    subst ej
    obtain ⟨h1, h2, h3, h4⟩ := hS
    have hml := h
    obtain ⟨c1, c2, c3, c4, c6, c7⟩ := h
    have d26 : D 70 26 = r := by rw [c6.2.1 26 (by decide) (by decide) (by decide) (by decide) (by decide)]; exact h26
    have d29 : D 70 29 = N := c1.2.1
    cases o with
    | none =>
      have hz := h3 rfl
      refine ⟨r, _, rl_X12_rules_88 (by decide) nd 1 hn ⟨by decide, by decide⟩ ⟨by decide, by decide⟩ ?_, fun _ => ⟨rfl, D, hml, rfl⟩, fun g z => (nomatch z)⟩
      rw [if_neg (by decide), if_pos (by omega), if_neg (by decide), if_neg (by decide), d26, wr_id (z := r + 1) (by omega) (by omega), wr_id (by omega) (by omega)]
      exact ⟨⟨by omega, by omega⟩, by omega, rfl⟩
    | some g =>
      obtain ⟨hz, hg⟩ := h4 g rfl
      rcases hg with ⟨g1, g2⟩ | ⟨g1, g2⟩
      · refine ⟨-1, up (up D 70 32 g) 70 27 nd, rl_X12_rules_88 (by decide) nd 1 hn ⟨by decide, by decide⟩ ⟨by decide, by decide⟩ ?_, fun z => (nomatch z), fun g' z => ⟨rfl, D, c6, by rw [Option.some.inj z]⟩⟩
        rw [if_neg (by decide), if_neg (by omega), d26]
        refine ⟨⟨by omega, by omega⟩, ?_⟩
        rw [if_pos (by omega)]
        have := m88_f (n := n) (A := A) (D := D) hn
        rw [c2, ← g2] at this
        exact this
      · have ta := Mst_tok hT c1
        have tm := ta.1
        have tz := t0.1
        obtain ⟨D1, e1, e2, e3⟩ := mst_fl (n := n) (A := A) (k := 30 * r + j) hT (by omega) c1 (by omega) (by omega) g2
        refine ⟨-1, up (up D1 70 32 g) 70 27 nd, rl_X12_rules_88 (by decide) nd 1 hn ⟨by decide, by decide⟩ ⟨by decide, by decide⟩ ?_, fun z => (nomatch z), fun g' z => ⟨rfl, D1, c6.sfr e2 ⟨by omega, by omega⟩ c4.1, by rw [Option.some.inj z]⟩⟩
        rw [if_neg (by decide), if_neg (by omega), d26]
        refine ⟨⟨by omega, by omega⟩, ?_⟩
        rw [if_neg (by omega), c3, wr_id (z := 30 * r) (by omega) (by omega), wr_id (by omega) (by omega)]
        refine ⟨0, D1, ⟨e1, by decide, by decide⟩, ?_⟩
        rw [if_pos rfl]
        have := m88_f (n := n) (A := A) (D := D1) hn
        rw [e3] at this
        exact this
  | succ q ih =>
    intro j D hj h
    obtain ⟨h1, h2, h3, h4⟩ := hS
    obtain ⟨p1, p2, p3⟩ := h2 j (by omega)
    obtain ⟨D1, e1, e2, e3, e4, e5⟩ := ml_step (n := n) (A := A) (f := f) (by omega) hT hr t0 h26 h27 h p2 p3
    obtain ⟨x, D', i1, i2⟩ := ih (j + 1) _ (by omega) e5
    obtain ⟨c1, c2, c3, c4, c6, c7⟩ := h
    have d26 : D 70 26 = r := by rw [c6.2.1 26 (by decide) (by decide) (by decide) (by decide) (by decide)]; exact h26
    have d29 : D 70 29 = N := c1.2.1
    refine ⟨x, D', rl_X12_rules_88 (by decide) nd 1 hn ⟨by decide, by decide⟩ ⟨by decide, by decide⟩ ?_, i2⟩
    rw [if_neg (by decide), if_neg (by omega), d26]
    refine ⟨⟨by omega, by omega⟩, ?_⟩
    rw [if_neg (by omega), c3, wr_id (z := 30 * r) (by omega) (by omega), wr_id (z := 30 * r + (j : Int)) (by omega) (by omega)]
    refine ⟨1, D1, ⟨e1, by decide, by decide⟩, ?_⟩
    rw [if_neg (by decide), e2, e3, wr_id (by omega) (by omega)]
    exact ⟨⟨by omega, by omega⟩, e4, i1⟩
def stD (F : aD) (N r : Int) : aD := up (up (up (up F 70 29 N) 70 28 0) 70 30 0) 92 r 0
theorem cpy (hN : 0 ≤ N ∧ N ≤ 700) (hr : D 70 26 = r ∧ 0 ≤ r ∧ r < 8) (hb : ∀ i, 0 ≤ i → i < N → -128 ≤ D 106 i ∧ D 106 i ≤ 127) : ∀ (q j : Nat) (E : aD), (j : Int) + q = N → (∀ c, c ≠ 107 → E c = D c) → (∀ i : Int, 0 ≤ i → i < j → E 107 i = D 106 i) → ∃ F : aD, (∀ c, c ≠ 107 → F c = D c) ∧ (∀ i, 0 ≤ i → i < N → F 107 i = D 106 i) ∧ ∀ x D', K_X12_rules_88 (n + 1) 39 A (u_blk (stD F N r)) (D 70 27) 1 x D' → K_X12_rules_29 (n + 1) 39 A E N j x D' := by
  intro q
  induction q with
  | zero =>
    intro j E hj h1 h2
    refine ⟨E, h1, fun i i0 i1 => h2 i i0 (by omega), fun x D' K => rl_X12_rules_29 (by decide) N j (rgb (by omega) (by omega)) (rgb (by omega) (by omega)) ?_⟩
    rw [if_pos (by omega), h1 70 (by decide), hr.1]
    refine ⟨⟨by omega, by omega⟩, ?_, K⟩
    unfold p_blk
    rw [up_c (by decide), up_eq, up_c (by decide), up_i (by decide), up_i (by decide), up_eq]
    omega
  | succ q ih =>
    intro j E hj h1 h2
    obtain ⟨F, f1, f2, f3⟩ := ih (j + 1) (up E 107 j (E 106 j)) (by omega) (fun c hc => by rw [up_cf hc]; exact h1 c hc) (fun i i0 i1 => by
      by_cases z : i = j
      · rw [z, up_eq, h1 106 (by decide)]
      · rw [up_i z]; exact h2 i i0 (by omega))
    refine ⟨F, f1, f2, fun x D' K => rl_X12_rules_29 (by decide) N j (rgb (by omega) (by omega)) (rgb (by omega) (by omega)) ?_⟩
    rw [if_neg (by omega)]
    refine ⟨⟨by omega, by omega⟩, ?_, ?_⟩
    · rw [h1 106 (by decide)]; exact hb j (by omega) (by omega)
    · rw [wr_id (by omega) (by omega)]
      exact f3 x D' K
/-- the reference's state as its reading begins -/
def M0 (r : Int) (D D0 : aD) : Prop := (∀ c, c ≠ 70 → c ≠ 92 → c ≠ 107 → D0 c = D c) ∧ (∀ i, i ≠ 28 → i ≠ 29 → i ≠ 30 → D0 70 i = D 70 i) ∧ D0 70 28 = 0 ∧ ∀ i, i ≠ r → D0 92 i = D 92 i
theorem ev_mr (hT : Txt T N) (hq : N ≤ D 70 28) (hb : ∀ i, 0 ≤ i → i < N → T i = D 106 i) (hr : D 70 26 = r ∧ 0 ≤ r ∧ r < 8) (h27 : 0 ≤ D 70 27 ∧ 25 * D 70 27 ≤ 103000) (hs : s 0 = tS T N 0) (hS : Sts T N M s w f o) : ∃ D0 x D', Ev (n + 1) 40 170 [am_r (some 70), am_i (wz N)] A D (ri x) A D' ∧ M0 r D D0 ∧ MFin T N s w M o r (D 70 27) D0 x D' := by
  have hN := hT.1
  obtain ⟨F, f1, f2, f3⟩ := cpy (n := n) (A := A) (D := D) (r := r) hN hr (fun i i0 i1 => by rw [← hb i i0 i1]; exact hT.2 i i0 i1) N.toNat 0 D (by omega) (fun _ _ => rfl) (fun i i0 i1 => absurd i1 (by omega))
  have m0 : M0 r D (u_blk (stD F N r)) := by
    unfold u_blk stD
    refine ⟨fun c c1 c2 c3 => ?_, fun i i1 i2 i3 => ?_, ?_, fun i hi => ?_⟩
    · rw [up_cf c1, up_cf c2, up_cf c1, up_cf c1, up_cf c1]; exact f1 c c3
    · rw [up_i i3, up_c (by decide), up_i i3, up_i i1, up_i i2, f1 70 (by decide)]
    · rw [up_i (by decide), up_c (by decide), up_i (by decide), up_eq]
    · rw [up_c (by decide), up_i hi, up_c (by decide), up_c (by decide), up_c (by decide), f1 92 (by decide)]
  have ms : Mst T N (s 0) (stD F N r) := by
    unfold stD
    refine ⟨fun i i0 i1 => ?_, ?_, ?_, ?_⟩
    · rw [up_cf (by decide), up_cf (by decide), up_cf (by decide), up_cf (by decide), f2 i i0 i1, hb i i0 i1]
    · rw [up_c (by decide), up_i (by decide), up_i (by decide), up_eq]
    · rw [up_c (by decide), up_eq]; omega
    · rw [up_c (by decide), up_eq, hs]
  obtain ⟨b1, b2, b3⟩ := blk_m hT ms
  have e27 : (u_blk (stD F N r)) 70 27 = D 70 27 := m0.2.1 27 (by decide) (by decide) (by decide)
  have ml : ML T N s w r (u_blk (stD F N r)) 0 (u_blk (stD F N r)) := by
    refine ⟨b1, b3, ?_, ⟨Int.le_refl _, by omega⟩, MF.refl _ _, fun p hp => absurd hp (by omega)⟩
    rw [b2.1 92 (by decide)]; unfold stD; rw [up_eq]; rfl
  have hnd : rg (D 70 27) := rgb (by omega) (by omega)
  have t0 : Tok T N (s 0) := by rw [hs]; exact tS_tok hN.1
  obtain ⟨x, D', l1, l2⟩ := ml_loop (n := n) (A := A) hT hr.2 t0 (by rw [m0.2.1 26 (by decide) (by decide) (by decide)]; exact hr.1) (by rw [e27]; exact h27) hnd hS M 0 _ (by omega) ml
  refine ⟨_, x, D', rl_X12_rules (n := n) (c := 39) (by decide) N (rgb (by omega) (by omega)) ?_, m0, l2⟩
  have hi : v_X12_isIn D N 0 (D 70 28) = 1 := by
    unfold v_X12_isIn
    rw [if_neg (by omega), if_neg (by omega)]
  rw [hi, if_neg (by decide), if_neg (by omega)]
  exact f3 x D' l1
end Ml2
