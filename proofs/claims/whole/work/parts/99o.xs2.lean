/-! The class reads one statement. -/
section Xss
variable {n : Nat} {A A' : aA} {D D' E F : aD} {T : Int → Int} {N a b e g k : Int} {r : Option (Option Itm)} {f : Int}
def Xw (T : Int → Int) (N i b e : Int) (E : aD) : Prop := E 2600 e = i ∧ E 2601 e = vOf T N i b ∧ (i ≠ 2 → i ≠ 5 → E 2603 e = vA T N i b) ∧ (i = 2 → E 2604 e = vA T N i b ∧ E 2603 e = vB T N i b) ∧ (i = 0 → E 2604 e = vB T N i b) ∧ (i = 6 → E 2602 e = vB T N i b)
theorem x283_f (f1 : F 914 k = 1) (f2 : F 916 e = 1) (h : F 47 3 ≠ -1) : K_X6_readStatement_283 (n + 1) 28 A F k e A F := by
  refine rl_X6_readStatement_283 (by decide) k e f1 f2 ?_
  obtain ⟨p, q⟩ := tsg_f h 59
  refine ⟨p, ?_⟩
  rw [q, if_neg h]
  exact rl_X6_readStatement_302 (by decide) ⟨rfl, rfl⟩
theorem x283_n (hT : Txt T N) (tf : Tok T N f) (hx : Xst T N f F) (f1 : F 914 k = 1) (f2 : F 916 e = 1) (h : ¬ Sgn T N f 59) : K_X6_readStatement_283 (n + 1) 28 A F k e A (u_X6_refuse F) := by
  refine rl_X6_readStatement_283 (by decide) k e f1 f2 ?_
  obtain ⟨p, _, q⟩ := tsg_x hT tf hx (c := 59) (by decide)
  have r1 := (ref_x hx).1
  have := tf.1
  refine ⟨p, ?_⟩
  rw [q h, if_neg (by omega)]
  exact rl_X6_readStatement_302 (by decide) ⟨rfl, rfl⟩
theorem x283_y (hT : Txt T N) (tf : Tok T N f) (hx : Xst T N f F) (f1 : F 914 k = 1) (f2 : F 916 e = 1) (h : Sgn T N f 59) (H : Ev (n + 1) 9 58 [am_r (some (A 14 k)), am_r (some (A 16 e))] A (u_adv F) rv A' D') : K_X6_readStatement_283 (n + 1) 28 A F k e A' D' := by
  refine rl_X6_readStatement_283 (by decide) k e f1 f2 ?_
  obtain ⟨p, q, _⟩ := tsg_x hT tf hx (c := 59) (by decide)
  obtain ⟨a1, a2, _, _⟩ := adv_x tf hx
  refine ⟨p, ?_⟩
  rw [q h, if_pos a1.2.2.1]
  exact K_rs297 (by decide) (by rw [a2.1 914 (by decide) (by decide)]; exact f1) H
theorem Crk_tok {i : Int} (hT : Txt T N) (tb : Tok T N b) (h : Crk T N i b r f) : Tok T N f := by
  unfold Crk at h
  split at h
  · rcases h with ⟨_, _, h⟩ | ⟨_, s, h, _⟩
    · rw [h]; exact tb
    · exact h.1
  · rw [h.2]; exact tb
/-- how it ends: A' D' against the state A1 E before the add -/
def XEnd (T : Int → Int) (N k e a i : Int) (r : Option (Option Itm)) (f : Int) (A1 : aA) (E : aD) (A' : aA) (D' : aD) : Prop := (i = -1 → A' = A1 ∧ D' = E ∧ E 47 3 = a) ∧ (i ≠ -1 → (∀ g, Gf T N (atm i) (tN T N a) g → A' = A1 ∧ D' = E ∧ E 47 3 = g) ∧ (Gok T N (atm i) (tN T N a) → (r = none → A' = A1 ∧ D' = E ∧ E 47 3 = f) ∧ ∀ w, r = some w → (¬ Sgn T N f 59 → A' = A1 ∧ D' = E ∧ E 47 3 = f) ∧ (Sgn T N f 59 → A' = addA A1 E (8 + k) ∧ D' = adF (addD E (8 + k)) k e ∧ Xst T N (tN T N f) E ∧ Xw T N i (tN T N a) e E ∧ XCd e E w)))
theorem xstm {i : Int} (hT : Txt T N) (ta : Tok T N a) (hx : Xst T N a D) (hi : i = wix T N a 0) (hr : i ≠ -1 → Crk T N i (gN T N (atm i) (tN T N a)) r f) (k0 : 0 ≤ k) (f1 : D 914 k = 1) (h9 : ∀ l, D 901 l = 1 → D 900 l = 1) (hn : D 916 e ≠ 1) (he : e = 64 * k + D 1002 (8 + k)) (hs : D 1002 (8 + k) < 1000) (hp : D 901 (8 + k) = 1 → 0 < D 1100 (8 + k)) (hh : D 950 0 ≤ 900000000 ∧ D 951 0 ≤ 900000000) (h6 : D 3300 k = 6) :
    ∃ A1 E A' D', Ev (n + 1) 29 43 [am_r (some 47), am_r (some (A 14 k))] A D rv A' D' ∧ Ado A A1 e ∧ XG e D E ∧ (Rm 2 706 D E ∧ (i ≠ -1 → r ≠ none → Rm 2 (6 + (f - tN T N a)) D E)) ∧ E 916 e = 1 ∧ XEnd T N k e a i r f A1 E A' D' := by
  obtain ⟨tb, tb2, _, _⟩ := tN_tok ta
  have hta := ta.1
  have hx0 : Xst T N a (smD D e 0 0 0 0 0 0) := Xst_cg hx (funext fun j => smD_o (by decide)) (fun j _ _ _ => smD_o (by decide))
  have s916 : (smD D e 0 0 0 0 0 0) 916 e = 1 := by rw [smD_916, if_pos rfl]
  have s914 : (smD D e 0 0 0 0 0 0) 914 k = 1 := by rw [smD_o (by decide)]; exact f1
  have s950 : (smD D e 0 0 0 0 0 0) 950 0 = D 950 0 + 1 := by unfold smD; rw [up_c (by decide), up_eq]
  have s951 : (smD D e 0 0 0 0 0 0) 951 0 = D 951 0 + 6 := by unfold smD; rw [up_eq]
  have s2601 : (smD D e 0 0 0 0 0 0) 2601 e = 0 := by unfold smD; rw [up_c (by decide), up_c (by decide), up_c (by decide), up_c (by decide), up_c (by decide), up_c (by decide), up_c (by decide), up_eq]
  have s2605 : (smD D e 0 0 0 0 0 0) 2605 e = 0 := by unfold smD; rw [up_c (by decide), up_c (by decide), up_c (by decide), up_eq]
  have A0 : Ado A (upA A 16 e (D 950 0).toNat) e := fun t j c1 _ => if_neg (fun z => c1 z)
  have xg0 : XG e D (smD D e 0 0 0 0 0 0) := XG_sm
  -- once the first word is read
  have top : ∀ {A' D'}, K_X6_readStatement_3 (n + 1) 28 (upA A 16 e (D 950 0).toNat) (smD D e 0 0 0 0 0 0) k e A' D' → Ev (n + 1) 29 43 [am_r (some 47), am_r (some (A 14 k))] A D rv A' D' := fun H => rl_X6_readStatement (n := n + 1) (c := 28) (by decide) k f1 (K_rs0 h9 hn ⟨by omega, by omega⟩ H)
  obtain ⟨p, y, z⟩ := tw_x hT ta hx0 (k := 0) (by decide)
  generalize hG : smD D e 0 0 0 0 0 0 = G at *
  generalize upA A 16 e (D 950 0).toNat = AG at *
  by_cases q : i = -1
  · have q' : wix T N a 0 = -1 := by omega
    obtain ⟨z1, z2⟩ := z q'
    have hR : RS T N [(1, 0)] a (up (u_X6_refuse G) 2600 e (-1)) := RS_up (Or.inr ⟨a, Or.inl ⟨fun w => w q', rfl⟩, Xft_ref hx0⟩) (by decide)
    obtain ⟨p1, r1, x1, c1, u1, v1⟩ := st_n (e := e) hT ta hR 9999 (k := 2603) ⟨by decide, by decide⟩
    have hX : XF e G (up (u_X6_refuse G) 2600 e (-1)) := (Xfr.xf (ref_x hx0).2).up ⟨by decide, by decide⟩
    have hXE := hX.trans x1
    have e3 : (nS (up (u_X6_refuse G) 2600 e (-1)) 9999 2603 e) 47 3 = a := by
      rcases r1 with ⟨g1, _⟩ | ⟨f', g1, g2⟩
      · exact absurd q' g1.1
      · rw [g2.1]
        rcases g1 with ⟨_, g1⟩ | ⟨g1, _⟩
        · exact g1
        · exact absurd q' g1
    have e914 : (nS (up (u_X6_refuse G) 2600 e (-1)) 9999 2603 e) 914 k = 1 := by rw [hXE.1 914 (by decide) (by decide) (by decide)]; exact s914
    have e916 : (nS (up (u_X6_refuse G) 2600 e (-1)) 9999 2603 e) 916 e = 1 := by rw [hXE.1 916 (by decide) (by decide) (by decide)]; exact s916
    refine ⟨AG, nS (up (u_X6_refuse G) 2600 e (-1)) 9999 2603 e, AG, nS (up (u_X6_refuse G) 2600 e (-1)) 9999 2603 e, top (rl_X6_readStatement_3 (by decide) k e s914 s916 ⟨p, ?_⟩), A0, xg0.trans hXE.xg, ?_, e916, fun _ => ⟨rfl, rfl, e3⟩, fun w => absurd q w⟩
    · have ex : u_X9_init (u_X6_takeWord G 0) e (v_X6_takeWord G 0) = up (u_X6_refuse G) 2600 e (-1) := by unfold u_X9_init; rw [z1, z2]
      rw [ex]
      have k26 : (up (u_X6_refuse G) 2600 e (-1)) 2600 e = -1 := up_eq
      have B : xB1 (n + 1) 28 AG (up (u_X6_refuse G) 2600 e (-1)) k e AG (nS (up (u_X6_refuse G) 2600 e (-1)) 9999 2603 e) := by
        refine ⟨p1, sel_i (i := -1) (by rw [u1 2600 (by decide)]; exact k26) ?_⟩
        refine rl_X6_readStatement_232 (by decide) k e (mf (-1)) e914 e916 ⟨by decide, by decide⟩ ⟨by decide, by decide⟩ ?_
        rw [show mf (-1) = 0 from rfl, if_pos rfl]
        exact x283_f e914 e916 (by omega)
      have B2 : xBr (n + 1) 28 AG (up (u_X6_refuse G) 2600 e (-1)) k e AG (nS (up (u_X6_refuse G) 2600 e (-1)) 9999 2603 e) := by
        unfold xBr
        rw [k26]
        simp only [show ¬ (-1 : Int) = 0 by decide, show ¬ (-1 : Int) = 1 by decide, show ¬ (-1 : Int) = 2 by decide, show ¬ (-1 : Int) = 3 by decide, show ¬ (-1 : Int) = 4 by decide, show ¬ (-1 : Int) = 5 by decide, show ¬ (-1 : Int) = 6 by decide, if_false]
        exact B
      exact B2
    · unfold Rm
      rw [hXE.1 950 (by decide) (by decide) (by decide), hXE.1 951 (by decide) (by decide) (by decide)]
      exact ⟨by omega, fun w => absurd q w⟩
  · have q' : wix T N a 0 ≠ -1 := by omega
    obtain ⟨y1, y2⟩ := y q'
    have hib := (wix_b (T := T) (N := N) (a := a) 0).resolve_left q'
    have hib2 : wix T N a 0 < 9 := hib.2
    obtain ⟨a1, a2, _, _⟩ := adv_x ta hx0
    have hXs : Xst T N (tN T N a) (up (u_adv G) 2600 e i) := Xst_cg a1 (up_cf (by decide)) (fun j _ _ _ => up_c (by decide))
    have hX : XF e G (up (u_adv G) 2600 e i) := (Xfr.xf a2).up ⟨by decide, by decide⟩
    have h0 : X0 i e (up (u_adv G) 2600 e i) := ⟨up_eq, by rw [up_c (by decide), a2.1 2601 (by decide) (by decide)]; exact s2601, by rw [up_c (by decide), a2.1 2605 (by decide) (by decide)]; exact s2605⟩
    have ex : u_X9_init (u_X6_takeWord G 0) e (v_X6_takeWord G 0) = up (u_adv G) 2600 e i := by unfold u_X9_init; rw [y1, y2, hi]
    obtain ⟨E, b1, b2, b3, b4⟩ := xk_all (e := e) (i := i) ⟨by omega, by omega⟩ hT tb hXs h0
    have hXE := hX.trans b2
    have e914 : E 914 k = 1 := by rw [hXE.1 914 (by decide) (by decide) (by decide)]; exact s914
    have e916 : E 916 e = 1 := by rw [hXE.1 916 (by decide) (by decide) (by decide)]; exact s916
    have e950 : E 950 0 = D 950 0 + 1 := by rw [hXE.1 950 (by decide) (by decide) (by decide)]; exact s950
    have e951 : E 951 0 = D 951 0 + 6 := by rw [hXE.1 951 (by decide) (by decide) (by decide)]; exact s951
    have hr' := hr q
    have tg := (gN_tok (atm i) (tN T N a) tb).1
    have tf := Crk_tok hT tg hr'
    obtain ⟨A1, F, c1, c2, c3, c4, c5, c6, c7, c8⟩ := x232 (n := n) (A := AG) (k := k) hT tb b1 b3.2.1 e914 e916 ⟨by omega, by omega⟩ hr'
    have F914 : F 914 k = 1 := by rw [c3.1 914 (by decide) (by decide) (by decide) (by decide) (by decide) (by decide) (by decide) (by decide) (by decide)]; exact e914
    have F916 : F 916 e = 1 := by rw [c6]; exact e916
    have A1A : Ado A A1 e := fun t j d1 d2 => (c2 t j d1 d2).trans (A0 t j d1 d2)
    have xgF : XG e D F := (xg0.trans hXE.xg).trans c3
    have rmF : Rm 2 706 D F ∧ (i ≠ -1 → r ≠ none → Rm 2 (6 + (f - tN T N a)) D F) := by
      obtain ⟨⟨⟨m1, m2⟩, m3, m4⟩, m5⟩ := c4
      refine ⟨⟨⟨by omega, by omega⟩, by omega, by omega⟩, fun _ hn => ?_⟩
      obtain ⟨⟨n1, n2⟩, n3, n4⟩ := m5 hn
      exact ⟨⟨by omega, by omega⟩, by omega, by omega⟩
    have go : ∀ {A' D'}, K_X6_readStatement_283 (n + 1) 28 A1 F k e A' D' → Ev (n + 1) 29 43 [am_r (some 47), am_r (some (A 14 k))] A D rv A' D' := by
      intro A' D' K
      refine top (rl_X6_readStatement_3 (by decide) k e s914 s916 ⟨p, ?_⟩)
      rw [ex]
      exact b4 (n + 1) 28 AG k A' D' (c1 A' D' K)
    have fail : F 47 3 ≠ -1 → (Gok T N (atm i) (tN T N a) → r = none) → ∃ A1 E A' D', Ev (n + 1) 29 43 [am_r (some 47), am_r (some (A 14 k))] A D rv A' D' ∧ Ado A A1 e ∧ XG e D E ∧ (Rm 2 706 D E ∧ (i ≠ -1 → r ≠ none → Rm 2 (6 + (f - tN T N a)) D E)) ∧ E 916 e = 1 ∧ XEnd T N k e a i r f A1 E A' D' := by
      intro h hrn
      refine ⟨A1, F, A1, F, go (x283_f F914 F916 h), A1A, xgF, rmF, F916, fun w => absurd w q, fun _ => ⟨fun g hg => ⟨rfl, rfl, c7 g hg⟩, fun hg => ⟨fun hr0 => ⟨rfl, rfl, (c8 hg).1 hr0⟩, fun w hw => ?_⟩⟩⟩
      rw [hrn hg] at hw
      exact (nomatch hw)
    rcases G_ex (T := T) (N := N) (atm i) (tN T N a) with hg | ⟨g, hg⟩
    · cases r with
      | none =>
        have := (c8 hg).1 rfl
        have tf0 := tf.1
        exact fail (by omega) (fun _ => rfl)
      | some w =>
        obtain ⟨hxF, hcd⟩ := (c8 hg).2 w rfl
        by_cases hsg : Sgn T N f 59
        · obtain ⟨d1, d2, _, _⟩ := adv_x tf hxF
          have u26 : ∀ c, 50 ≤ c → (u_adv F) c = F c := fun c hc => d2.1 c (by omega) (by omega)
          have hsz : (u_adv F) 1002 (8 + k) = D 1002 (8 + k) := by
            rw [u26 1002 (by decide), xgF.1 1002 (by decide) (by decide) (by decide) (by decide) (by decide) (by decide) (by decide) (by decide) (by decide)]
          have hu950 : (u_adv F) 950 0 = F 950 0 := by rw [u26 950 (by decide)]
          have hu951 : (u_adv F) 951 0 = F 951 0 := by rw [u26 951 (by decide)]
          have xw : Xw T N i (tN T N a) e (u_adv F) := by
            obtain ⟨k1, k2, k3⟩ := b3
            obtain ⟨k4, k5, k6, k7, k8⟩ := k3 hg
            unfold Xw
            rw [u26 2600 (by decide), u26 2601 (by decide), u26 2602 (by decide), u26 2603 (by decide), u26 2604 (by decide), c5 2600 (by decide) (by decide), c5 2601 (by decide) (by decide), c5 2602 (by decide) (by decide), c5 2603 (by decide) (by decide), c5 2604 (by decide) (by decide)]
            exact ⟨k1, k4, k5, k6, k7, k8⟩
          have hak : adK (u_adv F) (8 + k) e := by
            refine ⟨by rw [hsz, ebs_8 k0]; exact he, by rw [hsz]; exact hs, ?_, by have := rmF.1.1; omega, by have := rmF.1.2; omega⟩
            rw [u26 901 (by decide), u26 1100 (by decide), xgF.1 901 (by decide) (by decide) (by decide) (by decide) (by decide) (by decide) (by decide) (by decide) (by decide), xgF.1 1100 (by decide) (by decide) (by decide) (by decide) (by decide) (by decide) (by decide) (by decide) (by decide)]
            exact hp
          have h3 : (u_adv F) 2600 e = 3 → 0 ≤ (u_adv F) 2601 e ∧ (u_adv F) 2601 e < (u_adv F) 3300 k := by
            intro w3
            have i3 : i = 3 := by rw [← xw.1]; exact w3
            rw [xw.2.1, u26 3300 (by decide), xgF.1 3300 (by decide) (by decide) (by decide) (by decide) (by decide) (by decide) (by decide) (by decide) (by decide), h6, i3]
            subst i3
            have hgw : wix T N (tN T N a) 3 ≠ -1 := hg.1
            have := (wix_b (T := T) (N := N) (a := tN T N a) 3).resolve_left hgw
            exact this
          have ev := ev_ad58 (n := n + 1) (A := A1) (D := u_adv F) k0 (by rw [u26 914 (by decide)]; exact F914) (by rw [u26 916 (by decide)]; exact F916) hak h3
          refine ⟨A1, u_adv F, _, _, go (x283_y hT tf hxF F914 F916 hsg ev), A1A, xgF.trans (Xfr.xf d2).xg, ?_, by rw [u26 916 (by decide)]; exact F916, fun w => absurd w q, fun _ => ⟨fun g' hg' => (Gok_Gf _ _ _ hg hg').elim, fun _ => ⟨fun z => (nomatch z), fun w' hw' => ⟨fun z => absurd hsg z, fun _ => ⟨rfl, rfl, d1, xw, ?_⟩⟩⟩⟩⟩
          · unfold Rm
            rw [hu950, hu951]; exact rmF
          · have ew : w = w' := Option.some.inj hw'
            subst ew
            cases w with
            | none => show (u_adv F) 2605 e = 0; rw [u26 2605 (by decide)]; exact hcd
            | some v =>
              show (u_adv F) 2605 e = 1 ∧ (u_adv F) 3200 e = v.2.length ∧ ∀ k : Nat, k < v.2.length → (u_adv F) 3201 (1024 * e + k) = v.2.getD k 0
              rw [u26 2605 (by decide), u26 3200 (by decide), u26 3201 (by decide)]; exact hcd
        · obtain ⟨r1, r2⟩ := ref_x hxF
          refine ⟨A1, u_X6_refuse F, A1, u_X6_refuse F, go (x283_n hT tf hxF F914 F916 hsg), A1A, xgF.trans (Xfr.xf r2).xg, ?_, by rw [r2.1 916 (by decide) (by decide)]; exact F916, fun w => absurd w q, fun _ => ⟨fun g' hg' => (Gok_Gf _ _ _ hg hg').elim, fun _ => ⟨fun z => (nomatch z), fun w' hw' => ⟨fun _ => ⟨rfl, rfl, r1⟩, fun z => absurd z hsg⟩⟩⟩⟩
          unfold Rm
          rw [r2.1 950 (by decide) (by decide), r2.1 951 (by decide) (by decide)]; exact rmF
    · have := c7 g hg
      have := (Gf_tok _ _ _ tb hg).2
      have := tb.1
      exact fail (by omega) (fun hg' => (Gok_Gf _ _ _ hg' hg).elim)
end Xss
