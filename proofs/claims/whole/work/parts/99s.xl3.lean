/-! The class's loop over statements, and readInto. -/
section Xl3
variable {n : Nat} {A A' : aA} {D D' E D0 : aD} {T : Int → Int} {N a b e g k : Int} {s f : Nat → Int} {w : Nat → Option Itm} {M : Nat} {o : Option Int}
theorem sqn_b {j : Nat} (h : j ≤ 30) : sqn j ≤ 1350 := by
  have : ∀ i : Fin 31, sqn i.val ≤ 1350 := by decide
  exact this ⟨j, by omega⟩
theorem k37_f {a3 : Int} (f1 : D 914 k = 1) (h3 : rg a3) (h : D 47 3 ≠ -1) : K_X6_readInto_37 (n + 1) 29 A D k a3 0 A D := by
  refine rl_X6_readInto_37 (by decide) k a3 f1 h3 ?_
  by_cases q : 30 < a3
  · rw [if_pos q, if_neg h]; exact ⟨rfl, rfl, rfl⟩
  rw [if_neg q]
  by_cases q2 : D 47 6 = 0
  · rw [if_pos q2, if_neg h]; exact ⟨rfl, rfl, rfl⟩
  rw [if_neg q2, if_neg h, if_neg h]; exact ⟨rfl, rfl, rfl⟩
/-- how the reading into book k ends -/
def Cfin (T : Int → Int) (N : Int) (s : Nat → Int) (w : Nat → Option Itm) (M : Nat) (o : Option Int) (k : Int) (D0 : aD) (x : Int) (D' : aD) : Prop := LF k D0 D' ∧ ((D0 950 0 ≤ D' 950 0 ∧ D' 950 0 ≤ D0 950 0 + 92) ∧ (D0 951 0 ≤ D' 951 0 ∧ D' 951 0 ≤ D0 951 0 + 2756)) ∧ (∀ l, D' 901 l = 1 → D' 900 l = 1 ∧ 0 < D' 1100 l) ∧ (o = none → x = 1 ∧ D' 47 3 = -1 ∧ CL T N s w k D0 M D') ∧ (∀ g, o = some g → x = 0 ∧ D' 47 3 = g)
theorem lf914 (h : LF k D0 D) : D 914 = D0 914 := h.1 914 (by decide) (by decide) (by decide) (by decide) (by decide) (by decide) (by decide) (by decide) (by decide) (by decide) (by decide) (by decide) (by decide) (by decide) (by decide)
theorem kcg1 (c : Int) : 1 ≤ kc c := by
  unfold kc
  split
  · decide
  split
  · decide
  split <;> decide
theorem cl_end (hT : Txt T N) (h0 : CL0 k D0) (hS : Sts T N M s w f o) (t0 : Tok T N (s 0)) (h : CL T N s w k D0 M D) : ∃ x A' D', K_X6_readInto_37 (n + 1) 29 A D k M x A' D' ∧ A' 14 k = A 14 k ∧ Cfin T N s w M o k D0 x D' := by
  obtain ⟨h1, h2, h3, h4⟩ := hS
  have tM := Sts_tok hT t0 h2 M (Nat.le_refl _)
  have f1 : D 914 k = 1 := by rw [lf914 h.2.2.2.1]; exact h0.2.1
  have hM : rg (M : Int) := rgb (by omega) (by omega)
  have hsq := sqn_b h1
  have tm := tM.1
  have tz := t0.1
  have hN := hT.1
  have hcl := h
  obtain ⟨c1, c2, c3, c4, ⟨⟨r1, r2⟩, r3, r4⟩, c6, c7, c8⟩ := h
  have x3 : D 47 3 = -1 := c1.2.2.1
  have x6 : D 47 6 = tK T N (s M) := c1.2.2.2.2.1
  have x7 : D 47 7 = s M := c1.2.2.2.1
  cases o with
  | none =>
    have hz := h3 rfl
    refine ⟨1, A, D, rl_X6_readInto_37 (by decide) k M f1 hM ?_, rfl, c4, ⟨⟨by omega, by omega⟩, by omega, by omega⟩, c3, fun _ => ⟨rfl, x3, hcl⟩, fun g z => (nomatch z)⟩
    have hk : D 47 6 = 0 := by rw [x6]; unfold tK; rw [if_neg hz]
    rw [if_neg (by omega), if_pos hk, if_pos x3]; exact ⟨rfl, rfl, rfl⟩
  | some g =>
    obtain ⟨hz, hg⟩ := h4 g rfl
    have hk : ¬ D 47 6 = 0 := by
      rw [x6]; unfold tK; rw [if_pos hz]
      have := kcg1 (T (s M)); omega
    rcases hg with ⟨g1, g2⟩ | ⟨g1, g2⟩
    · have u3 : (up D 47 3 (s M)) 47 3 = s M := up_eq
      have u914 : (up D 47 3 (s M)) 914 k = 1 := by rw [up_c (by decide)]; exact f1
      have lfu : LF k D (up D 47 3 (s M)) := ⟨fun c a1 _ _ _ _ _ _ _ _ _ _ _ _ _ _ => up_cf a1, fun c hc i _ => up_c (by omega), fun j _ => up_c (by decide), fun i hi => up_i (by omega), fun c hc i _ => up_c (by omega), fun c c1 c2 i _ => up_c (by omega), fun j _ => up_c (by decide)⟩
      refine ⟨0, A, up D 47 3 (s M), rl_X6_readInto_37 (by decide) k M f1 hM ?_, rfl, c4.trans lfu, ⟨⟨by rw [up_c (by decide)]; omega, by rw [up_c (by decide)]; omega⟩, by rw [up_c (by decide)]; omega, by rw [up_c (by decide)]; omega⟩, ?_, fun z => (nomatch z), fun g' z => ⟨rfl, by rw [u3, ← Option.some.inj z, g2]⟩⟩
      · rw [if_neg (by omega), if_neg hk, if_pos x3, if_pos (by omega), x7]
        refine rl_X6_readInto_80 (by decide) k M u914 hM ?_
        rw [wr_id (by omega) (by omega)]
        exact k37_f u914 (rgb (by omega) (by omega)) (by rw [u3]; omega)
      · rw [up_cf (by decide), up_cf (by decide), up_cf (by decide)]; exact c3
    · obtain ⟨A1, E, e1, e2, e3, e4, e5⟩ := xst_fl (n := n) (A := A) hT tM hcl.1 (CL_pr (by omega) h0 hcl (by omega) (by omega)) g2
      have tg := StF_tok hT tM g2
      have lfE : LF k D E := e3.lf ⟨by omega, by omega⟩
      have e914 : E 914 k = 1 := by rw [lf914 lfE]; exact f1
      obtain ⟨⟨m1, m2⟩, m3, m4⟩ := e4
      have a14 : A1 14 k = A 14 k := e2 14 k (by omega) (by omega)
      refine ⟨0, A1, E, rl_X6_readInto_37 (by decide) k M f1 hM ?_, a14, c4.trans lfE, ⟨⟨by omega, by omega⟩, by omega, by omega⟩, ?_, fun z => (nomatch z), fun g' z => ⟨rfl, by rw [e5, ← Option.some.inj z]⟩⟩
      · rw [if_neg (by omega), if_neg hk, if_pos x3, if_neg (by omega)]
        refine K_ri75 (m := 29) (by decide) e1 a14 (rl_X6_readInto_80 (by decide) k M e914 hM ?_)
        rw [wr_id (by omega) (by omega)]
        exact k37_f e914 (rgb (by omega) (by omega)) (by rw [e5]; have := tg.1.1; omega)
      · intro l
        rw [e3.1 901 (by decide) (by decide) (by decide) (by decide) (by decide) (by decide) (by decide) (by decide) (by decide), e3.1 900 (by decide) (by decide) (by decide) (by decide) (by decide) (by decide) (by decide) (by decide) (by decide), e3.1 1100 (by decide) (by decide) (by decide) (by decide) (by decide) (by decide) (by decide) (by decide) (by decide)]
        exact c3 l
theorem cl_loop (hT : Txt T N) (h0 : CL0 k D0) (hS : Sts T N M s w f o) (t0 : Tok T N (s 0)) : ∀ (r j : Nat) (A : aA) (D : aD), j + r = M → CL T N s w k D0 j D → ∃ x A' D', K_X6_readInto_37 (n + 1) 29 A D k j x A' D' ∧ A' 14 k = A 14 k ∧ Cfin T N s w M o k D0 x D' := by
  intro r
  induction r with
  | zero =>
    intro j A D hj h
    have : j = M := by omega
    subst this
    exact cl_end hT h0 hS t0 h
  | succ r ih =>
    intro j A D hj h
    obtain ⟨h1, h2, h3, h4⟩ := hS
    have tj := Sts_tok hT t0 h2 j (by omega)
    obtain ⟨p1, p2, p3⟩ := h2 j (by omega)
    have tm := tj.1
    have tz := t0.1
    have hN := hT.1
    have hsq := sqn_b (show j ≤ 30 by omega)
    obtain ⟨A1, D1, e1, e2, e3⟩ := cl_step (n := n) (A := A) (f := f) (by omega) hT tj h0 h (by omega) (by omega) (fun p x hp hx => by
      have := StOk_len hT (Sts_tok hT t0 h2 p (by omega)) (by rw [← hx]; exact (h2 p (by omega)).2.1)
      omega) p2 p3
    obtain ⟨x, A', D', i1, i2, i3⟩ := ih (j + 1) A1 D1 (by omega) e3
    have f1 : D 914 k = 1 := by rw [lf914 h.2.2.2.1]; exact h0.2.1
    have f1' : D1 914 k = 1 := by rw [lf914 e3.2.2.2.1]; exact h0.2.1
    have hjr : rg (j : Int) := rgb (by omega) (by omega)
    have x3 : D 47 3 = -1 := h.1.2.2.1
    have x6 : D 47 6 = tK T N (s j) := h.1.2.2.2.2.1
    have hk : ¬ D 47 6 = 0 := by
      rw [x6]; unfold tK; rw [if_pos p1]
      have := kcg1 (T (s j)); omega
    refine ⟨x, A', D', rl_X6_readInto_37 (by decide) k j f1 hjr ?_, i2.trans e2, i3⟩
    rw [if_neg (by omega), if_neg hk, if_pos x3, if_neg (by omega)]
    refine K_ri75 (m := 29) (by decide) e1 e2 (rl_X6_readInto_80 (by decide) k j f1' hjr ?_)
    rw [wr_id (by omega) (by omega)]
    exact i1
/-- the state as readInto sets out -/
def riD (D : aD) (q : Int) : aD := up (up (up (up D 47 4 q) 47 2 0) 47 3 (-1)) 47 8 0
theorem riD_x (h0 : 0 ≤ N) : Xst (D 48) N (tS (D 48) N 0) (u_adv (riD D N)) ∧ Xfr (riD D N) (u_adv (riD D N)) := by
  have e : u_adv (riD D N) = up (up (up (riD D N) 47 7 (tS (D 48) N 0)) 47 6 (tK (D 48) N (tS (D 48) N 0))) 47 8 (tE (D 48) N (tS (D 48) N 0)) := by
    have e8 : (riD D N) 48 = D 48 := by unfold riD; rw [up_cf (by decide), up_cf (by decide), up_cf (by decide), up_cf (by decide)]
    have e4 : (riD D N) 47 4 = N := by unfold riD; rw [up_i (by decide), up_i (by decide), up_i (by decide), up_eq]
    have e9 : (riD D N) 47 8 = 0 := by unfold riD; rw [up_eq]
    unfold u_adv advS
    rw [e8, e4, e9]
  rw [e]
  refine ⟨⟨?_, ?_, ?_, ?_, ?_, ?_⟩, fun c c1 c2 => ?_, fun i q => ?_⟩
  · unfold riD; rw [up_cf (by decide), up_cf (by decide), up_cf (by decide), up_cf (by decide), up_cf (by decide), up_cf (by decide), up_cf (by decide)]
  · unfold riD; rw [up_i (by decide), up_i (by decide), up_i (by decide), up_i (by decide), up_i (by decide), up_i (by decide), up_eq]
  · unfold riD; rw [up_i (by decide), up_i (by decide), up_i (by decide), up_i (by decide), up_eq]
  · rw [up_i (by decide), up_i (by decide), up_eq]
  · rw [up_i (by decide), up_eq]
  · rw [up_eq]
  · rw [up_cf c1, up_cf c1, up_cf c1]
  · rw [up_i (by omega), up_i (by omega), up_i (by omega)]
end Xl3
