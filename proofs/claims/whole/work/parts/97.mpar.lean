/-! The reference: a condition in brackets; what hangs below an any or an all. -/
section Mpa
variable {n : Nat} {A : aA} {D D' D7 : aD} {T : Int → Int} {N a : Int}
theorem sin_par {d : Nat} (hd : d < 10) (hT : Txt T N) (hw : ¬ Wd T N a wNot) (hs : Sgn T N a 40) {r : Option Itm} {b : Int} (h : Ad T N (d + 1) (tN T N a) r b) : (r = none → MR T N 163 (4 + 3 * (10 - d)) (2 * (10 - d) + 1) d 0 (8 * d) a none b) ∧ (Sgn T N b 41 → MR T N 163 (4 + 3 * (10 - d)) (2 * (10 - d) + 1) d 0 (8 * d) a r (if r = none then b else tN T N b)) ∧ (¬ Sgn T N b 41 → MR T N 163 (4 + 3 * (10 - d)) (2 * (10 - d) + 1) d 0 (8 * d) a none b) := by
  have hN := hT.1
  obtain ⟨t1, t2, ho, _, x1⟩ := h
  have tb := t1.1
  have main : ∀ (n : Nat) (A : aA) (D : aD), Mst T N a D → 0 ≤ D 70 27 → 25 * D 70 27 ≤ 104000 + 21 * a + 60 * d - 0 → D 70 31 = d → ∃ x D', Ev (n + 1) (4 + 3 * (10 - d)) 163 [am_r (some 70)] A D (ri x) A D' ∧ Mfr (D 70 27) D D' ∧ (r = none → Mo T N (2 * (10 - d) + 1) D D' a (8 * d) x b none) ∧ (Sgn T N b 41 → Mo T N (2 * (10 - d) + 1) D D' a (8 * d) x (if r = none then b else tN T N b) r) ∧ (¬ Sgn T N b 41 → Mo T N (2 * (10 - d) + 1) D D' a (8 * d) x b none) := by
    intro n A D hm h27 hpre h31
    have ht := Mst_tok hT hm
    have ta := ht.1
    have s1 := hs.1
    obtain ⟨u1, u2, u3, u4⟩ := tN_tok ht
    have u5 := u4 s1
    have eE := (Sgn_e hs (by decide)).1
    obtain ⟨w1, w2, w3, w4⟩ := uword_m hT hm
    have e31 : (u_word D) 70 31 = d := by rw [w2.2 31 (by decide) (by decide) (by decide), h31]
    have e27 : (u_word D) 70 27 = D 70 27 := w2.2 27 (by decide) (by decide) (by decide)
    have hp := Mst_p hT hm
    have rule := @rl_X12_single n A D
    rw [e31, w3] at rule
    generalize hW : u_word D = W at *
    have hne : ¬ ((d : Int) = 10) := by omega
    have hwd : wr ((d : Int) + 1) = (d : Int) + 1 := wr_id (by omega) (by omega)
    have hwa : wr (a + 1) = a + 1 := wr_id (by omega) (by omega)
    rw [hwd, hwa] at rule
    have m3 : Mst T N (tN T N a) (up (up W 70 31 ((d : Int) + 1)) 70 30 (a + 1)) := by
      have q : Mst T N (tN T N a) (up W 70 30 (a + 1)) := Mst_of (b := tE T N a) w1 ((Mfl.refl W).up (Or.inl rfl)) (by rw [up_eq, eE]) (by omega) (by omega)
      exact Mst_cg q (by rw [up_cf (by decide), up_cf (by decide), up_cf (by decide)]) (by rw [up_i (by decide), up_i (by decide), up_i (by decide)]) (by rw [up_eq, up_eq])
    have f1 : Mfr (D 70 27) D (up (up W 70 31 ((d : Int) + 1)) 70 30 (a + 1)) := ((w2.fr _).upf (by omega)).upf (by omega)
    have e27' : (up (up W 70 31 ((d : Int) + 1)) 70 30 (a + 1)) 70 27 = D 70 27 := by rw [up_i (by decide), up_i (by decide)]; exact e27
    have e31' : (up (up W 70 31 ((d : Int) + 1)) 70 30 (a + 1)) 70 31 = ((d + 1 : Nat) : Int) := by rw [up_i (by decide), up_eq]; omega
    generalize hE : up (up W 70 31 ((d : Int) + 1)) 70 30 (a + 1) = E at *
    obtain ⟨x, G, v1, v2, v3⟩ := x1 n A E m3 (by omega) (by omega) e31'
    rw [e27'] at v2
    have f2 : Mfr (D 70 27) D G := f1.trans v2
    have fin : ∀ x' D', (if x = (-1) then (x' = (-1) ∧ D' = (up G 70 31 (wr ((G 70 31) - 1)))) else (p_X12_takesSign (up G 70 31 (wr ((G 70 31) - 1))) 41) ∧ (if w_sg (up G 70 31 (wr ((G 70 31) - 1))) 41 = 0 then (x' = (-1) ∧ D' = (u_sg (up G 70 31 (wr ((G 70 31) - 1))) 41)) else (x' = x ∧ D' = (u_sg (up G 70 31 (wr ((G 70 31) - 1))) 41)))) → Ev (n + 1) (4 + 3 * (10 - d)) 163 [am_r (some 70)] A D (ri x') A D' := by
      intro x' D' q
      have := rule (D' := D') (c := 3 + 3 * (10 - d)) (by omega) (x := x') ⟨hp, by
        rw [if_neg (fun z => hw ((not_iff hT hm).mp z)), w1.2.1, if_neg (by omega)]
        refine ⟨⟨by omega, by omega⟩, ?_⟩
        rw [w1.1 a (by omega) s1, if_pos hs.2, if_neg hne]
        exact ⟨x, G, Ev_le v1 (by omega), q⟩⟩
      exact Ev_le this (by omega)
    cases r with
    | none =>
      obtain ⟨z1, z2⟩ := v3
      have e : (up G 70 31 (wr ((G 70 31) - 1))) 70 30 = b := by rw [up_i (by decide)]; exact z2
      exact ⟨-1, _, fin (-1) _ (by rw [if_pos z1]; exact ⟨rfl, rfl⟩), f2.upf (by omega), fun _ => ⟨rfl, e⟩, fun _ => ⟨rfl, e⟩, fun _ => ⟨rfl, e⟩⟩
    | some v =>
      obtain ⟨z1, z2, z3, z4, z5, z6, z7⟩ := v3
      rw [e27'] at z1 z4 z5 z6 z7
      have k1 : ¬ x = -1 := by omega
      have hwr : wr (G 70 31 - 1) = (d : Int) := by rw [z3, e31', wr_id (by omega) (by omega)]; omega
      rw [hwr] at fin
      have g2 : Mst T N b (up G 70 31 (d : Int)) := Mst_cg z2 (by rw [up_cf (by decide)]) (by rw [up_i (by decide)]) (by rw [up_i (by decide)])
      have f3 : Mfr (D 70 27) D (up G 70 31 (d : Int)) := f2.upf (by omega)
      obtain ⟨s1', s2', s3'⟩ := sg_m hT g2 (c := 41) (by decide)
      by_cases q : Sgn T N b 41
      · obtain ⟨y1, y2, y3⟩ := s2' q
        obtain ⟨b1, b2, b3, b4⟩ := tN_tok t1
        have b5 := b4 q.1
        have q27 : (u_sg (up G 70 31 (d : Int)) 41) 70 27 = G 70 27 := by rw [y3.2 27 (by decide) (by decide) (by decide), up_i (by decide)]
        have qc : ∀ c, c ≠ 70 → (u_sg (up G 70 31 (d : Int)) 41) c = G c := fun c hc => by rw [y3.1 c hc, up_cf hc]
        refine ⟨x, _, fin x _ (by rw [if_neg k1]; exact ⟨s1', by rw [y1, if_neg (by decide)]; exact ⟨rfl, rfl⟩⟩), f3.trans (y3.fr _), fun z => (nomatch z), fun _ => ⟨z1, ?_, ?_, ?_, ?_, ?_, ?_⟩, fun z => absurd q z⟩
        · rw [if_neg (fun z => nomatch z)]; exact y2
        · rw [y3.2 31 (by decide) (by decide) (by decide), up_eq, h31]
        · rw [q27]; omega
        · rw [q27, if_neg (fun z => nomatch z)]; omega
        · rw [qc 101 (by decide)]; exact z6
        · rw [q27]
          refine HN_le (by omega) (HN_cg _ _ _ _ (fun i _ _ => ⟨?_, ?_, ?_, ?_, ?_⟩) (fun i _ _ => ?_) z7)
          · rw [qc 99 (by decide)]
          · rw [qc 100 (by decide)]
          · rw [qc 102 (by decide)]
          · rw [qc 103 (by decide)]
          · rw [qc 104 (by decide)]
          · rw [qc 101 (by decide)]
      · obtain ⟨y1, y2, y3, y4⟩ := s3' q
        exact ⟨-1, _, fin (-1) _ (by rw [if_neg k1]; exact ⟨s1', by rw [y1, if_pos rfl]; exact ⟨rfl, rfl⟩⟩), f3.trans (y3.fr _), fun z => (nomatch z), fun z => absurd z q, fun _ => ⟨rfl, y4⟩⟩
  refine ⟨fun q n A D h1 h2 h3 h4 => ?_, fun q n A D h1 h2 h3 h4 => ?_, fun q n A D h1 h2 h3 h4 => ?_⟩
  all_goals obtain ⟨x, D', m1, m2, m3, m4, m5⟩ := main n A D h1 h2 h3 h4
  · exact ⟨x, D', m1, m2, m3 q⟩
  · exact ⟨x, D', m1, m2, m4 q⟩
  · exact ⟨x, D', m1, m2, m5 q⟩
/-- below node o: nothing yet / some, the last of them y -/
def AI0 (k : Int) (D : aD) (o : Int) : Prop := (0 ≤ o ∧ o < D 70 27) ∧ D 99 o = k ∧ D 100 o = -1 ∧ D 101 o = -1
def AI1 (k : Int) (D : aD) (o : Int) (L : List (Int × Tf)) (y : Int × Tf) (h : Nat) : Prop := (0 ≤ o ∧ o < D 70 27) ∧ D 99 o = k ∧ D 101 o = -1 ∧ chN D o (D 70 27) (D 100 o) (L.map Prod.fst ++ [y.1]) ∧ (∀ z ∈ L, ∃ g, o < z.1 ∧ g ≤ y.1 ∧ HN D h z.1 g z.2) ∧ ∃ g, o < y.1 ∧ g ≤ D 70 27 ∧ HN D h y.1 g y.2
/-- a tree made at the nodes' end -/
def Chd (D D7 : aD) (h : Nat) (ψ : Tf) : Prop := Mfr (D 70 27) D D7 ∧ D 70 27 < D7 70 27 ∧ D7 101 (D 70 27) = -1 ∧ HN D7 h (D 70 27) (D7 70 27) ψ
theorem HN_b {d : Nat} {k e : Int} {φ : Tf} (h : HN D d k e φ) : 0 ≤ k ∧ k < e := by
  cases d with
  | zero => exact absurd h (fun q => q)
  | succ d => exact h.1
theorem HN_x {d : Nat} {k e : Int} {φ : Tf} (h : HN D d k e φ) (h1 : ∀ c, 99 ≤ c → c ≤ 104 → c ≠ 101 → ∀ i, k ≤ i → i < e → D' c i = D c i) (h2 : ∀ i, k < i → i < e → D' 101 i = D 101 i) : HN D' d k e φ :=
  HN_cg d k e φ (fun i i1 i2 => ⟨h1 99 (by decide) (by decide) (by decide) i i1 i2, h1 100 (by decide) (by decide) (by decide) i i1 i2, h1 102 (by decide) (by decide) (by decide) i i1 i2, h1 103 (by decide) (by decide) (by decide) i i1 i2, h1 104 (by decide) (by decide) (by decide) i i1 i2⟩) h2 h
theorem AI_first {k o : Int} {h : Nat} {ψ : Tf} (h0 : AI0 k D o) (hc : Chd D D7 h ψ) : AI1 k (up D7 100 o (D 70 27)) o [] (D 70 27, ψ) h := by
  obtain ⟨⟨o0, o1⟩, k1, k2, k3⟩ := h0
  obtain ⟨c1, c2, c3, c4⟩ := hc
  have e27 : (up D7 100 o (D 70 27)) 70 27 = D7 70 27 := up_c (by decide)
  refine ⟨⟨o0, by rw [e27]; omega⟩, ?_, ?_, ?_, fun z hz => absurd hz (by simp), D7 70 27, o1, by rw [e27]; exact Int.le_refl _, ?_⟩
  · rw [up_c (by decide), c1.2.2 99 (by decide) (by decide) o o1]; exact k1
  · rw [up_c (by decide), c1.2.2 101 (by decide) (by decide) o o1]; exact k3
  · rw [up_eq]
    exact ⟨rfl, ⟨o1, by rw [e27]; exact c2⟩, by rw [up_c (by decide)]; exact c3⟩
  · refine HN_x c4 (fun c q1 q2 q3 i i1 i2 => ?_) (fun i i1 i2 => by rw [up_c (by decide)])
    by_cases g : c = 100
    · rw [g, up_i (by omega)]
    · rw [up_c g]
theorem chN_snoc {k e e' l c : Int} (he : e ≤ e') (hc : k < c ∧ c < e') (h1 : D' 101 c = -1) (h2 : D' 101 l = c) (h3 : ∀ i, i ≠ l → k < i → i < e → D' 101 i = D 101 i) : ∀ (xs : List Int) (b : Int), (∀ y ∈ xs, y ≠ l) → chN D k e b (xs ++ [l]) → chN D' k e' b ((xs ++ [l]) ++ [c])
  | [], b, _, q => ⟨q.1, ⟨by have := q.2.1; omega, by have := q.2.1; omega⟩, h2, hc, h1⟩
  | x :: xs, b, hx, q => by
    obtain ⟨q1, q2, q3⟩ := q
    refine ⟨q1, ⟨by omega, by omega⟩, ?_⟩
    rw [h3 x (hx x (by simp)) q2.1 q2.2]
    exact chN_snoc he hc h1 h2 h3 xs _ (fun y hy => hx y (List.mem_cons_of_mem _ hy)) q3
theorem AI_next {k o : Int} {L : List (Int × Tf)} {y : Int × Tf} {h : Nat} {ψ : Tf} (h0 : AI1 k D o L y h) (hc : Chd D D7 h ψ) : AI1 k (up D7 101 y.1 (D 70 27)) o (L ++ [y]) (D 70 27, ψ) h := by
  obtain ⟨⟨o0, o1⟩, k1, k2, k3, k4, g, k5, k6, k7⟩ := h0
  obtain ⟨c1, c2, c3, c4⟩ := hc
  have yb := HN_b k7
  have e27 : (up D7 101 y.1 (D 70 27)) 70 27 = D7 70 27 := up_c (by decide)
  have eo : ∀ c i, 99 ≤ c → c ≤ 104 → c ≠ 101 → i < D 70 27 → (up D7 101 y.1 (D 70 27)) c i = D c i := fun c i q1 q2 q3 q4 => by rw [up_c q3, c1.2.2 c q1 q2 i q4]
  have e1 : ∀ i, i ≠ y.1 → i < D 70 27 → (up D7 101 y.1 (D 70 27)) 101 i = D 101 i := fun i q1 q2 => by rw [up_i q1, c1.2.2 101 (by decide) (by decide) i q2]
  have hz : ∀ z ∈ L, z.1 < y.1 := fun z hz => by
    obtain ⟨g', g1, g2, g3⟩ := k4 z hz
    have := HN_b g3
    omega
  refine ⟨⟨o0, by rw [e27]; omega⟩, ?_, ?_, ?_, fun z hz' => ?_, D7 70 27, o1, by rw [e27]; exact Int.le_refl _, ?_⟩
  · rw [eo 99 o (by decide) (by decide) (by decide) o1]; exact k1
  · rw [e1 o (by omega) o1]; exact k2
  · rw [eo 100 o (by decide) (by decide) (by decide) o1, e27, List.map_append]
    refine chN_snoc (e := D 70 27) (by omega) ⟨o1, c2⟩ (by rw [up_i (by omega)]; exact c3) up_eq (fun i q1 q2 q3 => e1 i q1 q3) _ _ (fun x hx => ?_) k3
    obtain ⟨z, z1, z2⟩ := List.mem_map.mp hx
    have := hz z z1
    rw [← z2]; omega
  · rcases List.mem_append.mp hz' with q | q
    · obtain ⟨g', g1, g2, g3⟩ := k4 z q
      exact ⟨g', g1, by show g' ≤ D 70 27; omega, HN_x g3 (fun c q1 q2 q3 i i1 i2 => eo c i q1 q2 q3 (by omega)) (fun i i1 i2 => e1 i (by omega) (by omega))⟩
    · have : z = y := by simpa using q
      rw [this]
      exact ⟨g, k5, k6, HN_x k7 (fun c q1 q2 q3 i i1 i2 => eo c i q1 q2 q3 (by omega)) (fun i i1 i2 => e1 i (by omega) (by omega))⟩
  · refine HN_x c4 (fun c q1 q2 q3 i i1 i2 => by rw [up_c q3]) (fun i i1 i2 => by rw [up_i (by omega)])
theorem AI_lex {k o : Int} {L : List (Int × Tf)} {y : Int × Tf} {h : Nat} (h0 : AI1 k D o L y h) (hf : Mfl D D') : AI1 k D' o L y h := by
  obtain ⟨o0, k1, k2, k3, k4, g, k5, k6, k7⟩ := h0
  have e27 : D' 70 27 = D 70 27 := hf.2 27 (by decide) (by decide) (by decide)
  have ec : ∀ c, 99 ≤ c → c ≤ 104 → D' c = D c := fun c q1 q2 => hf.1 c (by omega)
  have hx : ∀ {z e : Int} {φ : Tf}, HN D h z e φ → HN D' h z e φ := fun q => HN_x q (fun c q1 q2 _ i _ _ => by rw [ec c q1 q2]) (fun i _ _ => by rw [ec 101 (by decide) (by decide)])
  refine ⟨by rw [e27]; exact o0, by rw [ec 99 (by decide) (by decide)]; exact k1, by rw [ec 101 (by decide) (by decide)]; exact k2, ?_, fun z hz => ?_, g, k5, by rw [e27]; exact k6, hx k7⟩
  · rw [e27, ec 100 (by decide) (by decide)]
    exact chN_cg (Int.le_refl _) (Int.le_refl _) (fun i _ _ => by rw [ec 101 (by decide) (by decide)]) _ _ k3
  · obtain ⟨g', g1, g2, g3⟩ := k4 z hz
    exact ⟨g', g1, g2, hx g3⟩
theorem AI_L {k o : Int} {L : List (Int × Tf)} {y : Int × Tf} {h : Nat} (h0 : AI1 k D o L y h) : chN D o (D 70 27) (D 100 o) ((L ++ [y]).map Prod.fst) ∧ ∀ x ∈ L ++ [y], ∃ g, o < x.1 ∧ g ≤ D 70 27 ∧ HN D h x.1 g x.2 := by
  obtain ⟨o0, k1, k2, k3, k4, g, k5, k6, k7⟩ := h0
  refine ⟨by rw [List.map_append]; exact k3, fun x hx => ?_⟩
  rcases List.mem_append.mp hx with q | q
  · obtain ⟨g', g1, g2, g3⟩ := k4 x q
    have := HN_b k7
    exact ⟨g', g1, by omega, g3⟩
  · have : x = y := by simpa using q
    rw [this]; exact ⟨g, k5, k6, k7⟩
theorem AI_any {o : Int} {L : List (Int × Tf)} {y : Int × Tf} {h : Nat} (h0 : AI1 0 D o L y h) : HN D (h + 1) o (D 70 27) (fun f => (L ++ [y]).any (fun x => x.2 f)) := ⟨h0.1, Or.inl ⟨h0.2.1, L ++ [y], (AI_L h0).1, (AI_L h0).2, fun _ => rfl⟩⟩
theorem AI_all {o : Int} {L : List (Int × Tf)} {y : Int × Tf} {h : Nat} (h0 : AI1 1 D o L y h) : HN D (h + 1) o (D 70 27) (fun f => (L ++ [y]).all (fun x => x.2 f)) := ⟨h0.1, Or.inr (Or.inl ⟨h0.2.1, L ++ [y], (AI_L h0).1, (AI_L h0).2, fun _ => rfl⟩)⟩
end Mpa
