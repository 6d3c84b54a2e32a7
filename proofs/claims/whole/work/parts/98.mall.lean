/-! The reference reads joined conditions: all. -/
section Mal
variable {n : Nat} {A : aA} {D D' D7 : aD} {T : Int → Int} {N a : Int}
/-- below node o stand the trees P, the last of them at l -/
def St (k : Int) (D : aD) (o l : Int) (P : List (Int × Tf)) (h : Nat) : Prop := (AI0 k D o ∧ l = -1 ∧ P = []) ∨ ∃ L y, AI1 k D o L y h ∧ l = y.1 ∧ P = L ++ [y]
def nxt (D7 : aD) (o l c : Int) : aD := if l = -1 then up D7 100 o c else up D7 101 l c
theorem St_o {k o l : Int} {P : List (Int × Tf)} {h : Nat} (s : St k D o l P h) : (0 ≤ o ∧ o < D 70 27) ∧ (l = -1 ∨ (o < l ∧ l < D 70 27)) := by
  rcases s with ⟨s1, s2, s3⟩ | ⟨L, y, s1, s2, s3⟩
  · exact ⟨s1.1, Or.inl s2⟩
  · obtain ⟨g, g1, g2, g3⟩ := s1.2.2.2.2.2
    have := HN_b g3
    exact ⟨s1.1, Or.inr ⟨by omega, by omega⟩⟩
theorem St_s {k o l : Int} {P : List (Int × Tf)} {h : Nat} {ψ : Tf} (s : St k D o l P h) (hc : Chd D D7 h ψ) : AI1 k (nxt D7 o l (D 70 27)) o P (D 70 27, ψ) h ∧ Mfr o D7 (nxt D7 o l (D 70 27)) ∧ (nxt D7 o l (D 70 27)) 70 = D7 70 ∧ (nxt D7 o l (D 70 27)) 107 = D7 107 := by
  have so := St_o s
  unfold nxt
  rcases s with ⟨s1, s2, s3⟩ | ⟨L, y, s1, s2, s3⟩
  · rw [if_pos s2, s3]
    exact ⟨AI_first s1 hc, (Mfr.refl _ _).upn ⟨by decide, by decide⟩ (Int.le_refl _), up_cf (by decide), up_cf (by decide)⟩
  · obtain ⟨g, g1, g2, g3⟩ := s1.2.2.2.2.2
    have hl : ¬ l = -1 := by omega
    rw [if_neg hl, s3, s2]
    exact ⟨AI_next s1 hc, (Mfr.refl _ _).upn ⟨by decide, by decide⟩ (by omega), up_cf (by decide), up_cf (by decide)⟩
theorem al_rule {c : Nat} (hc : 3 ≤ c) {o l : Int} (ho : 0 ≤ o ∧ o < 5200) (hl : l = -1 ∨ (0 ≤ l ∧ l < 5200)) {x x6 : Int} (h : Ev (n + 1) c 163 [am_r (some 70)] A D (ri x6) A D7) (hq : if x6 = (-1) then (x = (-1) ∧ D' = D7) else (p_X12_takes (nxt D7 o l x6) (6385252 : Int64)) ∧ (if w_tk (nxt D7 o l x6) (6385252 : Int64) = 0 then (x = o ∧ D' = (u_tk (nxt D7 o l x6) (6385252 : Int64))) else K_X12_all_8 (n + 1) c A (u_tk (nxt D7 o l x6) (6385252 : Int64)) o x6 x D')) : K_X12_all_8 (n + 1) c A D o l x D' := by
  refine rl_X12_all_8 hc o l (rgb (by omega) (by omega)) (rgb (by omega) (by omega)) ⟨x6, D7, h, ?_⟩
  by_cases q : x6 = -1
  · rw [if_pos q] at hq ⊢; exact hq
  · rw [if_neg q] at hq ⊢
    unfold nxt at hq
    by_cases g : l = -1
    · simp only [if_pos g] at hq ⊢; exact ⟨ho, hq⟩
    · simp only [if_neg g] at hq ⊢; exact ⟨by omega, hq⟩
theorem an_rule {c : Nat} (hc : 3 ≤ c) {o l : Int} (ho : 0 ≤ o ∧ o < 5200) (hl : l = -1 ∨ (0 ≤ l ∧ l < 5200)) {x x6 : Int} (h : Ev (n + 1) c 161 [am_r (some 70)] A D (ri x6) A D7) (hq : if x6 = (-1) then (x = (-1) ∧ D' = D7) else (p_X12_takes (nxt D7 o l x6) (28530 : Int64)) ∧ (if w_tk (nxt D7 o l x6) (28530 : Int64) = 0 then (x = o ∧ D' = (u_tk (nxt D7 o l x6) (28530 : Int64))) else K_X12_any_8 (n + 1) c A (u_tk (nxt D7 o l x6) (28530 : Int64)) o x6 x D')) : K_X12_any_8 (n + 1) c A D o l x D' := by
  refine rl_X12_any_8 hc o l (rgb (by omega) (by omega)) (rgb (by omega) (by omega)) ⟨x6, D7, h, ?_⟩
  by_cases q : x6 = -1
  · rw [if_pos q] at hq ⊢; exact hq
  · rw [if_neg q] at hq ⊢
    unfold nxt at hq
    by_cases g : l = -1
    · simp only [if_pos g] at hq ⊢; exact ⟨ho, hq⟩
    · simp only [if_neg g] at hq ⊢; exact ⟨by omega, hq⟩
def drA : List (Bool × Itm) → List (Bool × Itm)
  | [] => []
  | (k, v) :: its => if k = true then drA its else (k, v) :: its
def tkA : List (Bool × Itm) → List Tf
  | [] => []
  | (k, v) :: its => if k = true then v.1 :: tkA its else []
def Gs (T : Int → Int) (N : Int) (d h : Nat) (D D' : aD) (o a : Int) (P : List (Int × Tf)) (v : Itm) (its : List (Bool × Itm)) (e : Option Bool) (a' : Int) : Prop := ∃ b2, Tok T N b2 ∧ a < b2 ∧ Sq T N d b2 (drA its) e a' ∧ ¬ Wd T N b2 (cnn true) ∧ Mst T N b2 D' ∧ D' 70 31 = d ∧ D' 101 o = -1 ∧ D 70 27 < D' 70 27 ∧ 25 * (D' 70 27 - D 70 27) ≤ 21 * (b2 - a) - 8 * d ∧ ∃ φ : Tf, HN D' (h + 1) o (D' 70 27) φ ∧ ∀ f, φ f = (P.all (fun x => x.2 f) && (v.1 f && (tkA its).all (fun y => y f)))
theorem K_all_m {d : Nat} (hd : d ≤ 10) (hT : Txt T N) : ∀ (its : List (Bool × Itm)) (a : Int) (v : Itm) (b : Int) (e : Option Bool) (a' : Int) (D : aD) (P : List (Int × Tf)) (l o : Int), St 1 D o l P (2 * (10 - d) + 1) → Sd T N d a (some v) b → Sq T N d b its e a' → Mst T N a D → 25 * D 70 27 ≤ 104000 + 21 * a + 60 * d → D 70 31 = d → ∃ x D', K_X12_all_8 (n + 1) (4 + 3 * (10 - d)) A D o l x D' ∧ Mfr o D D' ∧ ((drA its = [] ∧ e = some true) → x = -1 ∧ D' 70 30 = a') ∧ (¬ (drA its = [] ∧ e = some true) → x = o ∧ Gs T N d (2 * (10 - d) + 1) D D' o a P v its e a') := by
  have hN := hT.1
  have hw : wlt (cnn true) = true := by decide
  have hl : (6385252 : Int64) = Int64.ofNat (pw (cnn true)) := by decide
  intro its
  induction its with
  | nil =>
    intro a v b e a' D P l o hs h1 h2 hm hp h31
    obtain ⟨so, sl⟩ := St_o hs
    have ha := (Mst_tok hT hm).1
    obtain ⟨t1, t2, ⟨o1, o2, o3⟩, _, x1⟩ := h1
    have tb := t1.1
    obtain ⟨x6, D7, v1, v2, z1, z2, z3, z4, z5, z6, z7⟩ := x1 n A D hm (by omega) (by omega) h31
    obtain ⟨s1, s2, s3, s4⟩ := St_s hs (ψ := v.1) ⟨v2, z4, z6, z7⟩
    have m8 : Mst T N b (nxt D7 o l (D 70 27)) := Mst_cg z2 s4 (by rw [s3]) (by rw [s3])
    obtain ⟨y1, y2⟩ := tk_m hT m8 hw hl
    have ptk : p_X12_takes (nxt D7 o l (D 70 27)) (6385252 : Int64) := Mst_p hT m8
    have fr : Mfr o D (nxt D7 o l (D 70 27)) := (v2.low (by omega)).trans s2
    have k1 : ¬ x6 = -1 := by omega
    by_cases q : Wd T N b (cnn true)
    · obtain ⟨g1, g2, g3⟩ := y1 q
      cases e with
      | none => exact absurd q h2.2.1
      | some k =>
        cases k with
        | false =>
          have q1 := q.2.2
          have q2 := h2.1.2.2
          have q3 : ((cnn true).length : Int) = 3 := rfl
          have q4 : ((cnn false).length : Int) = 2 := rfl
          omega
        | true =>
          obtain ⟨_, _, _, _, x2⟩ := h2.2
          obtain ⟨u1, u2, u3, u4⟩ := tN_tok t1
          have e27 : (u_tk (nxt D7 o l (D 70 27)) (6385252 : Int64)) 70 27 = D7 70 27 := by rw [g3.2 27 (by decide) (by decide) (by decide), s3]
          obtain ⟨x7, D9, w1, w2, w3, w4⟩ := x2 n A _ g2 (by omega) (by omega) (by rw [g3.2 31 (by decide) (by decide) (by decide), s3, z3, h31])
          refine ⟨-1, D9, al_rule (by omega) ⟨by omega, by omega⟩ (by omega) v1 ?_, (fr.trans (g3.fr _)).trans (w2.low (by omega)), fun _ => ⟨rfl, w4⟩, fun z => absurd ⟨rfl, rfl⟩ z⟩
          rw [if_neg k1, z1]
          refine ⟨ptk, ?_⟩
          rw [g1, if_neg (by decide)]
          exact al_rule (by omega) ⟨by omega, by omega⟩ (Or.inr ⟨by omega, by omega⟩) w1 (by rw [if_pos w3]; exact ⟨rfl, rfl⟩)
    · obtain ⟨g1, g2, g3, g4⟩ := y2 q
      have hne : ¬ (drA [] = [] ∧ e = some true) := fun z => by
        have := z.2
        subst this
        exact q h2.1
      have e27 : (u_tk (nxt D7 o l (D 70 27)) (6385252 : Int64)) 70 27 = D7 70 27 := by rw [g3.2 27 (by decide) (by decide) (by decide), s3]
      have ai := AI_lex s1 g3
      refine ⟨o, u_tk (nxt D7 o l (D 70 27)) (6385252 : Int64), al_rule (by omega) ⟨by omega, by omega⟩ (by omega) v1 ?_, fr.trans (g3.fr _), fun z => absurd z hne, fun _ => ⟨rfl, b, t1, o1, h2, q, g2, by rw [g3.2 31 (by decide) (by decide) (by decide), s3, z3, h31], ai.2.2.1, by rw [e27]; exact z4, by rw [e27]; omega, _, AI_all ai, fun f => ?_⟩⟩
      · rw [if_neg k1, z1]
        refine ⟨ptk, ?_⟩
        rw [g1, if_pos rfl]
        exact ⟨rfl, rfl⟩
      · simp [tkA, List.all_append]
  | cons kv its ih =>
    obtain ⟨k, v'⟩ := kv
    intro a v b e a' D P l o hs h1 h2 hm hp h31
    obtain ⟨so, sl⟩ := St_o hs
    have ha := (Mst_tok hT hm).1
    obtain ⟨t1, t2, ⟨o1, o2, o3⟩, _, x1⟩ := h1
    have tb := t1.1
    obtain ⟨x6, D7, v1, v2, z1, z2, z3, z4, z5, z6, z7⟩ := x1 n A D hm (by omega) (by omega) h31
    obtain ⟨s1, s2, s3, s4⟩ := St_s hs (ψ := v.1) ⟨v2, z4, z6, z7⟩
    have m8 : Mst T N b (nxt D7 o l (D 70 27)) := Mst_cg z2 s4 (by rw [s3]) (by rw [s3])
    obtain ⟨y1, y2⟩ := tk_m hT m8 hw hl
    have ptk : p_X12_takes (nxt D7 o l (D 70 27)) (6385252 : Int64) := Mst_p hT m8
    have fr : Mfr o D (nxt D7 o l (D 70 27)) := (v2.low (by omega)).trans s2
    have k1 : ¬ x6 = -1 := by omega
    cases k with
    | true =>
      obtain ⟨q, b', q2, q3⟩ := h2
      obtain ⟨g1, g2, g3⟩ := y1 q
      obtain ⟨u1, u2, u3, u4⟩ := tN_tok t1
      have e27 : (u_tk (nxt D7 o l (D 70 27)) (6385252 : Int64)) 70 27 = D7 70 27 := by rw [g3.2 27 (by decide) (by decide) (by decide), s3]
      have ai := AI_lex s1 g3
      obtain ⟨x, D', r1, r2, r3, r4⟩ := ih (tN T N b) v' b' e a' (u_tk (nxt D7 o l (D 70 27)) (6385252 : Int64)) (P ++ [(D 70 27, v.1)]) (D 70 27) o (Or.inr ⟨P, (D 70 27, v.1), ai, rfl, rfl⟩) q2 q3 g2 (by omega) (by rw [g3.2 31 (by decide) (by decide) (by decide), s3, z3, h31])
      refine ⟨x, D', al_rule (by omega) ⟨by omega, by omega⟩ (by omega) v1 ?_, (fr.trans (g3.fr _)).trans r2, r3, fun z => ?_⟩
      · rw [if_neg k1, z1]
        refine ⟨ptk, ?_⟩
        rw [g1, if_neg (by decide)]
        exact r1
      · obtain ⟨j1, b2, j2, j3, j4, j5, j6, j7, j8, j9, j10, φ, j11, j12⟩ := r4 z
        refine ⟨j1, b2, j2, by omega, j4, j5, j6, j7, j8, by omega, by omega, φ, j11, fun f => ?_⟩
        rw [j12 f]
        simp [tkA, List.all_append, Bool.and_assoc]
    | false =>
      have q : ¬ Wd T N b (cnn true) := fun q => by
        have q1 := q.2.2
        have q2 := h2.1.2.2
        have q3 : ((cnn true).length : Int) = 3 := rfl
        have q4 : ((cnn false).length : Int) = 2 := rfl
        omega
      obtain ⟨g1, g2, g3, g4⟩ := y2 q
      have e27 : (u_tk (nxt D7 o l (D 70 27)) (6385252 : Int64)) 70 27 = D7 70 27 := by rw [g3.2 27 (by decide) (by decide) (by decide), s3]
      have ai := AI_lex s1 g3
      refine ⟨o, u_tk (nxt D7 o l (D 70 27)) (6385252 : Int64), al_rule (by omega) ⟨by omega, by omega⟩ (by omega) v1 ?_, fr.trans (g3.fr _), fun z => absurd z.1 (by simp [drA]), fun _ => ⟨rfl, b, t1, o1, h2, q, g2, by rw [g3.2 31 (by decide) (by decide) (by decide), s3, z3, h31], ai.2.2.1, by rw [e27]; exact z4, by rw [e27]; omega, _, AI_all ai, fun f => ?_⟩⟩
      · rw [if_neg k1, z1]
        refine ⟨ptk, ?_⟩
        rw [g1, if_pos rfl]
        exact ⟨rfl, rfl⟩
      · simp [tkA, List.all_append]
end Mal
