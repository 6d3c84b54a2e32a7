/-! The class's statement, whole. -/
section Xsw
variable {n : Nat} {A A' : aA} {D D' E F : aD} {T : Int → Int} {N a b e g : Int} {r : Option (Option Itm)} {f : Int}
/-- what Rulebook.add writes, once the statement stands in the list -/
def adF (E : aD) (b e : Int) : aD := if E 2600 e = 1 then up E 2406 b (E 2603 e) else if E 2600 e = 2 then up (up E 2407 b (E 2604 e)) 2408 b (E 2603 e) else if E 2600 e = 3 then up E 3301 (1024 * b + E 2601 e) (E 2603 e) else if E 2600 e = 5 then up E 2411 b 1 else if E 2600 e = 7 then up E 2409 b (E 2603 e) else if E 2600 e = 8 then up E 2410 b (E 2603 e) else E
theorem K_ad9 (f0 : E 914 b = 1) (f1 : E 916 e = 1) (h3 : E 2600 e = 3 → 0 ≤ E 2601 e ∧ E 2601 e < E 3300 b) : K_X7_add_9 n A E b e A (adF E b e) := by
  refine rl_X7_add_9 b e f0 f1 ?_
  unfold adF
  by_cases q1 : E 2600 e = 1
  · rw [if_pos q1, if_pos q1]; exact ⟨rfl, rfl⟩
  rw [if_neg q1, if_neg q1]
  by_cases q2 : E 2600 e = 2
  · rw [if_pos q2, if_pos q2]; exact ⟨rfl, rfl⟩
  rw [if_neg q2, if_neg q2]
  by_cases q3 : E 2600 e = 3
  · rw [if_pos q3, if_pos q3]; exact ⟨h3 q3, rfl, rfl⟩
  rw [if_neg q3, if_neg q3]
  by_cases q4 : E 2600 e = 4
  · rw [if_pos q4, if_neg (by omega), if_neg (by omega), if_neg (by omega)]; exact ⟨rfl, rfl⟩
  rw [if_neg q4]
  by_cases q5 : E 2600 e = 5
  · rw [if_pos q5, if_pos q5]; exact ⟨rfl, rfl⟩
  rw [if_neg q5, if_neg q5]
  by_cases q6 : E 2600 e = 6
  · rw [if_pos q6, if_neg (by omega), if_neg (by omega)]; exact ⟨rfl, rfl⟩
  rw [if_neg q6]
  by_cases q7 : E 2600 e = 7
  · rw [if_pos q7, if_pos q7]; exact ⟨rfl, rfl⟩
  rw [if_neg q7, if_neg q7]
  by_cases q8 : E 2600 e = 8
  · rw [if_pos q8, if_pos q8]; exact ⟨rfl, rfl⟩
  rw [if_neg q8, if_neg q8]; exact ⟨rfl, rfl⟩
theorem ev_ad58 (h0 : 0 ≤ b) (f0 : D 914 b = 1) (f1 : D 916 e = 1) (hk : adK D (8 + b) e) (h3 : D 2600 e = 3 → 0 ≤ D 2601 e ∧ D 2601 e < D 3300 b) : Ev n 9 58 [am_r (some (A 14 b)), am_r (some (A 16 e))] A D rv (addA A D (8 + b)) (adF (addD D (8 + b)) b e) := by
  refine rl_X7_add b e f0 f1 ⟨h0, hk, K_ad9 ?_ ?_ ?_⟩
  · rw [addD_f (by decide)]; exact f0
  · rw [addD_f (by decide)]; exact f1
  · rw [addD_f (by decide), addD_f (by decide), addD_f (by decide)]; exact h3
/-- what the reading of statement e changes in all, but for the add -/
def XG (e : Int) (D E : aD) : Prop := (∀ c, c ≠ 47 → c ≠ 49 → c ≠ 916 → c ≠ 922 → c ≠ 3200 → c ≠ 3201 → c ≠ 950 → c ≠ 951 → (c < 2600 ∨ 2605 < c) → E c = D c) ∧ (∀ c, 2600 ≤ c → c ≤ 2605 → ∀ j, j ≠ e → E c j = D c j) ∧ (∀ j, j ≠ e → E 916 j = D 916 j ∧ E 922 j = D 922 j ∧ E 3200 j = D 3200 j) ∧ (∀ j, j < 1024 * e ∨ 1024 * e + 1024 ≤ j → E 3201 j = D 3201 j) ∧ (∀ i, i < 3 ∨ i = 4 ∨ 8 < i → E 47 i = D 47 i) ∧ (∀ j, j ≠ 0 → E 950 j = D 950 j ∧ E 951 j = D 951 j)
theorem XG.trans {D1 D2 D3 : aD} (h : XG e D1 D2) (k : XG e D2 D3) : XG e D1 D3 :=
  ⟨fun c a1 a2 a3 a4 a5 a6 a7 a8 a9 => (k.1 c a1 a2 a3 a4 a5 a6 a7 a8 a9).trans (h.1 c a1 a2 a3 a4 a5 a6 a7 a8 a9), fun c a1 a2 j hj => (k.2.1 c a1 a2 j hj).trans (h.2.1 c a1 a2 j hj), fun j hj => ⟨(k.2.2.1 j hj).1.trans (h.2.2.1 j hj).1, (k.2.2.1 j hj).2.1.trans (h.2.2.1 j hj).2.1, (k.2.2.1 j hj).2.2.trans (h.2.2.1 j hj).2.2⟩, fun j hj => (k.2.2.2.1 j hj).trans (h.2.2.2.1 j hj), fun i q => (k.2.2.2.2.1 i q).trans (h.2.2.2.2.1 i q), fun j hj => ⟨(k.2.2.2.2.2 j hj).1.trans (h.2.2.2.2.2 j hj).1, (k.2.2.2.2.2 j hj).2.trans (h.2.2.2.2.2 j hj).2⟩⟩
theorem XF.xg (h : XF e D E) : XG e D E :=
  ⟨fun c a1 a2 _ _ _ _ _ _ a9 => h.1 c a1 a2 a9, h.2.1, fun j _ => ⟨by rw [h.1 916 (by decide) (by decide) (by decide)], by rw [h.1 922 (by decide) (by decide) (by decide)], by rw [h.1 3200 (by decide) (by decide) (by decide)]⟩, fun j _ => by rw [h.1 3201 (by decide) (by decide) (by decide)], h.2.2, fun j _ => ⟨by rw [h.1 950 (by decide) (by decide) (by decide)], by rw [h.1 951 (by decide) (by decide) (by decide)]⟩⟩
theorem XG_sm : XG e D (smD D e 0 0 0 0 0 0) := by
  refine ⟨fun c a1 a2 a3 a4 a5 a6 a7 a8 a9 => funext fun j => smD_o ⟨a7, a8, a3, a9⟩, fun c a1 a2 j hj => smD_j ⟨by omega, by omega⟩ hj, fun j hj => ⟨smD_j (by decide) hj, smD_j (by decide) hj, smD_j (by decide) hj⟩, fun j _ => smD_o (by decide), fun i _ => smD_o (by decide), fun j hj => ?_⟩
  unfold smD
  refine ⟨?_, ?_⟩
  · rw [up_c (by decide), up_i hj, up_c (by decide), up_c (by decide), up_c (by decide), up_c (by decide), up_c (by decide), up_c (by decide), up_c (by decide)]
  · rw [up_i hj, up_c (by decide), up_c (by decide), up_c (by decide), up_c (by decide), up_c (by decide), up_c (by decide), up_c (by decide), up_c (by decide)]
theorem XG_row {m : Nat} {src : Int → Int} : XG e D (up (rwD D 22 e m src) 2605 e 1) := by
  refine ⟨fun c a1 a2 a3 a4 a5 a6 a7 a8 a9 => ?_, fun c a1 a2 j hj => ?_, fun j hj => ⟨?_, ?_, ?_⟩, fun j hj => ?_, fun i _ => ?_, fun j hj => ⟨?_, ?_⟩⟩
  · rw [up_cf (by omega), rwD_f ⟨a7, a8, a4, a5, a6⟩]
  · rw [up_i hj, rwD_f ⟨by omega, by omega, by omega, by omega, by omega⟩]
  · rw [up_c (by decide), rwD_f (by decide)]
  · rw [up_c (by decide)]; exact (rwD_k (by decide)).2.2.2 j hj
  · rw [up_c (by decide)]; exact (rwD_k (by decide)).2.1 j hj
  · rw [up_c (by decide)]
    refine (rwD_r (by decide)).trans (if_neg (by omega))
  · rw [up_c (by decide), rwD_f (by decide)]
  · rw [up_c (by decide)]; unfold rwD; rw [up_c (by decide), up_i hj, up_c (by decide), up_c (by decide), rw0_n (by omega)]
  · rw [up_c (by decide)]; unfold rwD; rw [up_i hj, up_c (by decide), up_c (by decide), up_c (by decide), rw0_n (by omega)]
/-- the condition that stands in statement e -/
def XCd (e : Int) (E : aD) : Option Itm → Prop
  | none => E 2605 e = 0
  | some v => E 2605 e = 1 ∧ E 3200 e = v.2.length ∧ ∀ k : Nat, k < v.2.length → E 3201 (1024 * e + k) = v.2.getD k 0
/-- what new cells and slots a statement takes -/
def Rm (k l : Int) (D E : aD) : Prop := (D 950 0 ≤ E 950 0 ∧ E 950 0 ≤ D 950 0 + k) ∧ (D 951 0 ≤ E 951 0 ∧ E 951 0 ≤ D 951 0 + l)
def Ado (A A1 : aA) (e : Int) : Prop := ∀ t j, ¬ (t = 16 ∧ j = e) → ¬ (t = 22 ∧ j = e) → A1 t j = A t j
theorem Ado.refl (A : aA) (e : Int) : Ado A A e := fun _ _ _ _ => rfl
theorem x232 {i : Int} (hT : Txt T N) (tb : Tok T N b) {k : Int} (hR : RS T N (atm i) b E) (h5 : E 2605 e = 0) (f1 : E 914 k = 1) (f2 : E 916 e = 1) (hh : E 950 0 ≤ 1000000000 ∧ E 951 0 ≤ 1000000000) (hr : Crk T N i (gN T N (atm i) b) r f) :
    ∃ A1 F, (∀ A' D', K_X6_readStatement_283 (n + 1) 28 A1 F k e A' D' → K_X6_readStatement_232 (n + 1) 28 A E k e (mf i) A' D') ∧ Ado A A1 e ∧ XG e E F ∧ (Rm 1 700 E F ∧ (r ≠ none → Rm 1 (f - b) E F)) ∧ (∀ c, 2600 ≤ c → c ≤ 2604 → F c = E c) ∧ F 916 = E 916 ∧ (∀ g, Gf T N (atm i) b g → F 47 3 = g) ∧ (Gok T N (atm i) b → (r = none → F 47 3 = f) ∧ ∀ w, r = some w → Xst T N f F ∧ XCd e F w) := by
  have hmf : rg (mf i) ∧ (0 ≤ mf i ∧ mf i ≤ 1) := by unfold mf; split <;> exact ⟨⟨by decide, by decide⟩, by decide, by decide⟩
  obtain ⟨tg, tgb⟩ := gN_tok (atm i) b tb
  have hN := hT.1
  have hfb : b ≤ f := by
    unfold Crk at hr
    split at hr
    · rcases hr with ⟨_, _, h⟩ | ⟨_, s, h, _⟩
      · omega
      · have := h.2.1
        have := (tN_tok tg).2.1
        omega
    · omega
  -- it goes on as it stands
  have stay : (K_X6_readStatement_283 (n + 1) 28 A E k e = K_X6_readStatement_283 (n + 1) 28 A E k e) → (∀ A' D', K_X6_readStatement_283 (n + 1) 28 A E k e A' D' → K_X6_readStatement_232 (n + 1) 28 A E k e (mf i) A' D') → (∀ g, Gf T N (atm i) b g → E 47 3 = g) → (Gok T N (atm i) b → (r = none → E 47 3 = f) ∧ ∀ w, r = some w → Xst T N f E ∧ XCd e E w) → ∃ A1 F, (∀ A' D', K_X6_readStatement_283 (n + 1) 28 A1 F k e A' D' → K_X6_readStatement_232 (n + 1) 28 A E k e (mf i) A' D') ∧ Ado A A1 e ∧ XG e E F ∧ (Rm 1 700 E F ∧ (r ≠ none → Rm 1 (f - b) E F)) ∧ (∀ c, 2600 ≤ c → c ≤ 2604 → F c = E c) ∧ F 916 = E 916 ∧ (∀ g, Gf T N (atm i) b g → F 47 3 = g) ∧ (Gok T N (atm i) b → (r = none → F 47 3 = f) ∧ ∀ w, r = some w → Xst T N f F ∧ XCd e F w) :=
    fun _ h1 h2 h3 => ⟨A, E, h1, Ado.refl A e, (XF.refl e E).xg, ⟨⟨⟨by omega, by omega⟩, by omega, by omega⟩, fun _ => ⟨⟨by omega, by omega⟩, by omega, by omega⟩⟩, fun _ _ _ => rfl, rfl, h2, h3⟩
  have hfa : ∀ g, Gf T N (atm i) b g → E 47 3 = g := by
    intro g hg
    rcases hR with ⟨h, _⟩ | ⟨g', h, x⟩
    · exact (Gok_Gf _ _ _ h hg).elim
    · rw [x.1]; exact Gf_fun _ _ _ _ h hg
  by_cases q : i = 0 ∨ i = 4
  · have hm1 : mf i = 1 := if_pos q
    unfold Crk at hr
    rw [if_pos q] at hr
    rcases hR with ⟨h, hx⟩ | ⟨g, h, hx⟩
    · have x3 : E 47 3 = -1 := hx.2.2.1
      obtain ⟨p6, y6, n6⟩ := isw_x hT tg hx (k := 6) (w := wIf) (by decide) rfl
      rcases hr with ⟨w1, w2, w3⟩ | ⟨w1, s, w2, w3⟩
      · subst w2; subst w3
        refine stay rfl (fun A' D' K => ?_) hfa (fun _ => ⟨fun z => (nomatch z), fun w z => ?_⟩)
        · refine rl_X6_readStatement_232 (by decide) k e (mf i) f1 f2 hmf.1 hmf.2 ?_
          rw [hm1, if_neg (by decide), if_pos x3]
          refine ⟨p6, ?_⟩
          rw [n6 w1, if_pos rfl]; exact K
        · have e : none = w := Option.some.inj z
          subst e
          exact ⟨hx, h5⟩
      · obtain ⟨t1, t2, t3, x1, _⟩ := w2
        obtain ⟨a1, a2, a3, a4⟩ := adv_x tg hx
        have a5 : Xst T N (tN T N (gN T N (atm i) b)) (up (u_adv E) 47 5 0) := Xst_cg a1 (up_cf (by decide)) (fun j _ _ j5 => up_i j5)
        have tt := (tN_tok tg).1.1
        obtain ⟨G, v1, v2, v3⟩ := x1 n A (up (u_adv E) 47 5 0) a5 (by rw [up_eq]; exact Int.le_refl _) (by rw [up_eq]; omega)
        have hb5 : 0 ≤ G 47 5 ∧ G 47 5 ≤ 700 := by
          cases s with
          | none => exact v3.2
          | some v =>
            obtain ⟨_, z⟩ := v3
            have z1 := z.1
            rw [up_eq] at z1
            have t3' := t3.2.1
            have t1' := t1.1
            omega
        have xg1 : XF e E G := ((Xfr.xf a2).trans (show XF e (u_adv E) (up (u_adv E) 47 5 0) from ⟨fun c c1 _ _ => up_cf c1, fun c c1 c2 j hj => up_c (by omega), fun j q => up_i (by omega)⟩)).trans (Xfr.xf v2)
        have g26 : ∀ c, 50 ≤ c → G c = E c := fun c c1 => by
          rw [v2.1 c (by omega) (by omega), up_cf (by omega), a2.1 c (by omega) (by omega)]
        have gh : G 950 0 ≤ 1000000000 ∧ G 951 0 ≤ 1000000000 := by rw [g26 950 (by decide), g26 951 (by decide)]; exact hh
        have hm : G 47 5 = ((G 47 5).toNat : Int) := by omega
        refine ⟨upA A 22 e (G 950 0).toNat, up (rwD G 22 e (G 47 5).toNat (G 49)) 2605 e 1, fun A' D' K => ?_, fun t j c1 c2 => if_neg (fun z => c2 z), xg1.xg.trans XG_row, ?_, fun c c1 c2 => ?_, ?_, fun g' hg' => (Gok_Gf _ _ _ h hg').elim, fun _ => ⟨fun z => ?_, fun w z => ?_⟩⟩
        · refine rl_X6_readStatement_232 (by decide) k e (mf i) f1 f2 hmf.1 hmf.2 ?_
          rw [hm1, if_neg (by decide), if_pos x3]
          refine ⟨p6, ?_⟩
          rw [y6 w1, if_neg (by decide)]
          refine ⟨Xst_pa hT tg hx, G, v1, ?_⟩
          exact K_rs268 (by decide) hm (by omega) (by rw [g26 916 (by decide)]; exact f2) gh K
        · have r1 := rwD_h (D := G) (u := 22) (i := e) (m := (G 47 5).toNat) (src := G 49) (by decide)
          unfold Rm
          rw [up_c (by decide), up_c (by decide), r1.1, r1.2, g26 950 (by decide), g26 951 (by decide)]
          refine ⟨by omega, fun hn => ?_⟩
          cases s with
          | none => exact absurd (by rw [w3]; rfl) hn
          | some v =>
            obtain ⟨_, z⟩ := v3
            have z1 := z.1
            rw [up_eq] at z1
            have t3' := t3.2.1
            have := (tN_tok tg).2.1
            omega
        · rw [up_cf (by omega), rwD_f ⟨by omega, by omega, by omega, by omega, by omega⟩, g26 c (by omega)]
        · rw [up_cf (by decide), rwD_f (by decide), g26 916 (by decide)]
        · cases s with
          | none =>
            rw [up_c (by decide), rwD_f (by decide)]; exact v3.1
          | some v => rw [w3] at z; exact (nomatch z)
        · cases s with
          | none => rw [w3] at z; exact (nomatch z)
          | some v =>
            rw [w3] at z
            have ew : some v = w := Option.some.inj z
            subst ew
            obtain ⟨z1, z2⟩ := v3
            have z3 := z2.1
            rw [up_eq] at z3
            refine ⟨Xst_cg z1 (by rw [up_cf (by decide), rwD_f (by decide)]) (fun j _ _ _ => by rw [up_c (by decide), rwD_f (by decide)]), up_eq, ?_, fun j hj => ?_⟩
            · rw [up_c (by decide)]
              refine ((rwD_k (D := G) (u := 22) (by decide)).1).trans ?_
              omega
            · rw [up_c (by decide)]
              refine (rwD_r (D := G) (u := 22) (by decide)).trans ?_
              have t3' := t3.2.1
              have t1' := t1.1
              rw [if_pos ⟨by omega, by omega⟩, if_pos (by omega), show 1024 * e + (j : Int) - 1024 * e = (j : Int) by omega]
              have := z2.2.2 j hj
              rw [up_eq, Int.zero_add] at this
              exact this
    · have x3 := Xft_ne tb h hx
      refine stay rfl (fun A' D' K => ?_) hfa (fun z => (Gok_Gf _ _ _ z h).elim)
      refine rl_X6_readStatement_232 (by decide) k e (mf i) f1 f2 hmf.1 hmf.2 ?_
      rw [hm1, if_neg (by decide), if_neg x3]; exact K
  · have hm0 : mf i = 0 := if_neg q
    unfold Crk at hr
    rw [if_neg q] at hr
    refine stay rfl (fun A' D' K => ?_) hfa (fun hg => ⟨fun z => by rw [hr.1] at z; exact (nomatch z), fun w z => ?_⟩)
    · refine rl_X6_readStatement_232 (by decide) k e (mf i) f1 f2 hmf.1 hmf.2 ?_
      rw [hm0, if_pos rfl]; exact K
    · rw [hr.1] at z
      have ew : none = w := Option.some.inj z
      subst ew
      refine ⟨?_, h5⟩
      rw [hr.2]
      rcases hR with ⟨_, hx⟩ | ⟨g, h, _⟩
      · exact hx
      · exact (Gok_Gf _ _ _ hg h).elim
end Xsw
