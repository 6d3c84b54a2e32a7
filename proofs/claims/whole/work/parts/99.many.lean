/-! The reference reads joined conditions: any. Then: every text's condition is read alike. -/
section Man
variable {n : Nat} {A : aA} {D D' D7 : aD} {T : Int → Int} {N a : Int}
theorem val_V (f : Int → Int) : ∀ (its : List (Bool × Itm)) (w : Bool) (o x : Tf), val w o x its f = ((w && o f) || val false x x its f)
  | [], w, o, x => by cases w <;> simp [val]
  | (k, v) :: its, w, o, x => by
    cases k with
    | true =>
      show val w o (fun g => x g && v.1 g) its f = ((w && o f) || val false x (fun g => x g && v.1 g) its f)
      rw [val_V f its w, val_V f its false x]
      simp
    | false =>
      show val true (fun g => if w = true then o g || x g else x g) v.1 its f = ((w && o f) || val true (fun g => if false = true then x g || x g else x g) v.1 its f)
      rw [val_V f its true, val_V f its true]
      cases w <;> simp [Bool.or_assoc]
theorem val_0 (f : Int → Int) : ∀ (its : List (Bool × Itm)) (o x : Tf), drA its = [] → val false o x its f = (x f && (tkA its).all (fun y => y f))
  | [], o, x, _ => by simp [val, tkA]
  | (k, v) :: its, o, x, h => by
    cases k with
    | true =>
      show val false o (fun g => x g && v.1 g) its f = (x f && (v.1 :: tkA its).all (fun y => y f))
      rw [val_0 f its o _ h]
      simp [Bool.and_assoc]
    | false => exact absurd h (by simp [drA])
theorem val_1 (f : Int → Int) (v2 : Itm) (rest : List (Bool × Itm)) : ∀ (its : List (Bool × Itm)) (o x : Tf), drA its = (false, v2) :: rest → val false o x its f = ((x f && (tkA its).all (fun y => y f)) || val false v2.1 v2.1 rest f)
  | [], o, x, h => absurd h (by simp [drA])
  | (k, v) :: its, o, x, h => by
    cases k with
    | true =>
      show val false o (fun g => x g && v.1 g) its f = ((x f && (v.1 :: tkA its).all (fun y => y f)) || _)
      rw [val_1 f v2 rest its o _ h]
      simp [Bool.and_assoc]
    | false =>
      have h' : (false, v) :: its = (false, v2) :: rest := h
      obtain ⟨e1, e2⟩ := List.cons.inj h'
      have e3 : v = v2 := (Prod.mk.inj e1).2
      rw [e2, e3]
      show val true (fun g => if false = true then o g || x g else x g) v2.1 rest f = _
      rw [val_V f rest true]
      simp [tkA]
theorem drA_len : ∀ (its : List (Bool × Itm)), (drA its).length ≤ its.length
  | [] => Nat.le_refl _
  | (k, v) :: its => by
    cases k with
    | true => have := drA_len its; show (drA its).length ≤ _; simp only [List.length_cons]; omega
    | false => exact Nat.le_refl _
theorem all_ev {d : Nat} (hd : d ≤ 10) (hT : Txt T N) {its : List (Bool × Itm)} {v : Itm} {b : Int} {e : Option Bool} {a' : Int} (h1 : Sd T N d a (some v) b) (h2 : Sq T N d b its e a') (hm : Mst T N a D) (h27 : 0 ≤ D 70 27) (hp : 25 * D 70 27 ≤ 104000 + 21 * a + 60 * d - 25) (h31 : D 70 31 = d) : ∃ x D', Ev (n + 1) (5 + 3 * (10 - d)) 161 [am_r (some 70)] A D (ri x) A D' ∧ Mfr (D 70 27) D D' ∧ ((drA its = [] ∧ e = some true) → x = -1 ∧ D' 70 30 = a') ∧ (¬ (drA its = [] ∧ e = some true) → x = D 70 27 ∧ ∃ b2, Tok T N b2 ∧ a < b2 ∧ Sq T N d b2 (drA its) e a' ∧ ¬ Wd T N b2 (cnn true) ∧ Mst T N b2 D' ∧ D' 70 31 = d ∧ 25 * (D' 70 27 - D 70 27) ≤ 21 * (b2 - a) + 25 - 8 * d ∧ ∃ φ : Tf, Chd D D' (2 * (10 - d) + 2) φ ∧ ∀ f, φ f = (v.1 f && (tkA its).all (fun y => y f))) := by
  have hN := hT.1
  have ha := (Mst_tok hT hm).1
  obtain ⟨n1, n2, n3, n4, n5, n6, n7, n8⟩ := nod_m (D := D) (k := 1) (by omega) (by omega)
  have m4 : Mst T N a (u_X12_node D 1) := Mst_cg hm (n3.1 107 (by decide) (Or.inr (by decide))) (n8 29 (by decide)) (n8 30 (by decide))
  obtain ⟨x, D', k1, k2, k3, k4⟩ := K_all_m (n := n) (A := A) hd hT its a v b e a' (u_X12_node D 1) [] (-1) (D 70 27) (Or.inl ⟨⟨⟨h27, by omega⟩, n5, n6, n7⟩, rfl, rfl⟩) h1 h2 m4 (by omega) (by rw [n8 31 (by decide), h31])
  have ev := rl_X12_all (n := n) (A := A) (D := D) (D' := D') (c := 4 + 3 * (10 - d)) (by omega) (x := x) ⟨n2, by rw [n1]; exact k1⟩
  have fr : Mfr (D 70 27) D D' := n3.trans k2
  refine ⟨x, D', Ev_le ev (by omega), fr, k3, fun q => ?_⟩
  obtain ⟨j1, b2, j2, j3, j4, j5, j6, j7, j8, j9, j10, φ, j11, j12⟩ := k4 q
  exact ⟨j1, b2, j2, j3, j4, j5, j6, j7, by omega, φ, ⟨fr, by omega, j8, j11⟩, fun f => by rw [j12 f]; simp⟩
theorem all_ev0 {d : Nat} (hd : d ≤ 10) (hT : Txt T N) {a' : Int} (h1 : Sd T N d a none a') (hm : Mst T N a D) (h27 : 0 ≤ D 70 27) (hp : 25 * D 70 27 ≤ 104000 + 21 * a + 60 * d - 25) (h31 : D 70 31 = d) : ∃ D', Ev (n + 1) (5 + 3 * (10 - d)) 161 [am_r (some 70)] A D (ri (-1)) A D' ∧ Mfr (D 70 27) D D' ∧ D' 70 30 = a' := by
  have hN := hT.1
  have ha := (Mst_tok hT hm).1
  obtain ⟨n1, n2, n3, n4, n5, n6, n7, n8⟩ := nod_m (D := D) (k := 1) (by omega) (by omega)
  have m4 : Mst T N a (u_X12_node D 1) := Mst_cg hm (n3.1 107 (by decide) (Or.inr (by decide))) (n8 29 (by decide)) (n8 30 (by decide))
  obtain ⟨_, _, _, _, x1⟩ := h1
  obtain ⟨x6, D7, v1, v2, v3, v4⟩ := x1 n A (u_X12_node D 1) m4 (by omega) (by omega) (by rw [n8 31 (by decide), h31])
  have ev := rl_X12_all (n := n) (A := A) (D := D) (D' := D7) (c := 4 + 3 * (10 - d)) (by omega) (x := -1) ⟨n2, by rw [n1]; exact al_rule (by omega) ⟨by omega, by omega⟩ (Or.inl rfl) v1 (by rw [if_pos v3]; exact ⟨rfl, rfl⟩)⟩
  exact ⟨D7, Ev_le ev (by omega), n3.trans (v2.low (by omega)), v4⟩
theorem K_any_m {d : Nat} (hd : d ≤ 10) (hT : Txt T N) : ∀ (m : Nat) (its : List (Bool × Itm)), its.length ≤ m → ∀ (a : Int) (v : Itm) (b : Int) (e : Option Bool) (a' : Int) (D : aD) (P : List (Int × Tf)) (l o : Int), St 0 D o l P (2 * (10 - d) + 2) → Sd T N d a (some v) b → Sq T N d b its e a' → Mst T N a D → 25 * D 70 27 ≤ 104000 + 21 * a + 60 * d - 25 → D 70 31 = d → ∃ x D', K_X12_any_8 (n + 1) (5 + 3 * (10 - d)) A D o l x D' ∧ Mfr o D D' ∧ (e ≠ none → x = -1 ∧ D' 70 30 = a') ∧ (e = none → x = o ∧ Mst T N a' D' ∧ D' 70 31 = d ∧ D' 101 o = -1 ∧ D 70 27 < D' 70 27 ∧ 25 * (D' 70 27 - D 70 27) ≤ 21 * (a' - a) + 25 - 8 * d ∧ ∃ φ : Tf, HN D' (2 * (10 - d) + 3) o (D' 70 27) φ ∧ ∀ f, φ f = (P.any (fun x => x.2 f) || val false v.1 v.1 its f)) := by
  have hN := hT.1
  have hw : wlt (cnn false) = true := by decide
  have hl : (28530 : Int64) = Int64.ofNat (pw (cnn false)) := by decide
  intro m
  induction m with
  | zero => 
    intro its hlen
    have : its = [] := List.length_eq_zero_iff.mp (by omega)
    subst this
    exact fun a v b e a' D P l o hs h1 h2 hm hp h31 => by
      obtain ⟨so, sl⟩ := St_o hs
      have ha := (Mst_tok hT hm).1
      obtain ⟨x6, D7, v1, v2, v3, v4⟩ := all_ev (n := n) (A := A) hd hT h1 h2 hm (by omega) hp h31
      by_cases q : drA ([] : List (Bool × Itm)) = [] ∧ e = some true
      · obtain ⟨w1, w2⟩ := v3 q
        exact ⟨-1, D7, an_rule (by omega) ⟨by omega, by omega⟩ (by omega) v1 (by rw [if_pos w1]; exact ⟨rfl, rfl⟩), v2.low (by omega), fun _ => ⟨rfl, w2⟩, fun z => absurd (q.2.symm.trans z) (fun y => nomatch y)⟩
      · obtain ⟨z1, b2, z2, z3, z4, z5, z6, z7, z8, φ, z9, z10⟩ := v4 q
        have tb := z2.1
        obtain ⟨s1, s2, s3, s4⟩ := St_s hs z9
        have m8 : Mst T N b2 (nxt D7 o l (D 70 27)) := Mst_cg z6 s4 (by rw [s3]) (by rw [s3])
        obtain ⟨y1, y2⟩ := tk_m hT m8 hw hl
        have ptk : p_X12_takes (nxt D7 o l (D 70 27)) (28530 : Int64) := Mst_p hT m8
        have fr : Mfr o D (nxt D7 o l (D 70 27)) := (v2.low (by omega)).trans s2
        have k1 : ¬ x6 = -1 := by omega
        cases e with
        | none =>
          obtain ⟨p1, p2, p3⟩ := z4
          obtain ⟨g1, g2, g3, g4⟩ := y2 p3
          have e27 : (u_tk (nxt D7 o l (D 70 27)) (28530 : Int64)) 70 27 = D7 70 27 := by rw [g3.2 27 (by decide) (by decide) (by decide), s3]
          have ai := AI_lex s1 g3
          have c2 := z9.2.1
          refine ⟨o, _, an_rule (by omega) ⟨by omega, by omega⟩ (by omega) v1 ?_, fr.trans (g3.fr _), fun z => absurd rfl z, fun _ => ⟨rfl, by rw [p1]; exact g2, by rw [g3.2 31 (by decide) (by decide) (by decide), s3, z7], ai.2.2.1, by rw [e27]; exact c2, by rw [e27, p1]; omega, _, AI_any ai, fun f => ?_⟩⟩
          · rw [if_neg k1, z1]
            refine ⟨ptk, ?_⟩
            rw [g1, if_pos rfl]; exact ⟨rfl, rfl⟩
          · rw [val_0 f [] v.1 v.1 rfl, ← z10 f]; simp [List.any_append]
        | some k =>
          cases k with
          | true => exact absurd ⟨rfl, rfl⟩ q
          | false =>
            obtain ⟨p1, p2⟩ := z4
            obtain ⟨g1, g2, g3⟩ := y1 p1
            obtain ⟨u1, u2, u3, u4⟩ := tN_tok z2
            have c2 := z9.2.1
            have e27 : (u_tk (nxt D7 o l (D 70 27)) (28530 : Int64)) 70 27 = D7 70 27 := by rw [g3.2 27 (by decide) (by decide) (by decide), s3]
            have wl := (Wd_tn z2 p1).1
            have wl2 : ((cnn false).length : Int) = 2 := rfl
            obtain ⟨D9, w1, w2, w3⟩ := all_ev0 (n := n) (A := A) hd hT p2 g2 (by omega) (by omega) (by rw [g3.2 31 (by decide) (by decide) (by decide), s3, z7])
            refine ⟨-1, D9, an_rule (by omega) ⟨by omega, by omega⟩ (by omega) v1 ?_, (fr.trans (g3.fr _)).trans (w2.low (by omega)), fun _ => ⟨rfl, w3⟩, fun z => nomatch z⟩
            rw [if_neg k1, z1]
            refine ⟨ptk, ?_⟩
            rw [g1, if_neg (by decide)]
            exact an_rule (by omega) ⟨by omega, by omega⟩ (Or.inr ⟨by omega, by omega⟩) w1 (by rw [if_pos rfl]; exact ⟨rfl, rfl⟩)
  | succ m ih =>
    intro its hlen a v b e a' D P l o hs h1 h2 hm hp h31
    obtain ⟨so, sl⟩ := St_o hs
    have ha := (Mst_tok hT hm).1
    obtain ⟨x6, D7, v1, v2, v3, v4⟩ := all_ev (n := n) (A := A) hd hT h1 h2 hm (by omega) hp h31
    by_cases q : drA its = [] ∧ e = some true
    · obtain ⟨w1, w2⟩ := v3 q
      exact ⟨-1, D7, an_rule (by omega) ⟨by omega, by omega⟩ (by omega) v1 (by rw [if_pos w1]; exact ⟨rfl, rfl⟩), v2.low (by omega), fun _ => ⟨rfl, w2⟩, fun z => absurd (q.2.symm.trans z) (fun y => nomatch y)⟩
    · obtain ⟨z1, b2, z2, z3, z4, z5, z6, z7, z8, φ, z9, z10⟩ := v4 q
      have tb := z2.1
      obtain ⟨s1, s2, s3, s4⟩ := St_s hs z9
      have m8 : Mst T N b2 (nxt D7 o l (D 70 27)) := Mst_cg z6 s4 (by rw [s3]) (by rw [s3])
      obtain ⟨y1, y2⟩ := tk_m hT m8 hw hl
      have ptk : p_X12_takes (nxt D7 o l (D 70 27)) (28530 : Int64) := Mst_p hT m8
      have fr : Mfr o D (nxt D7 o l (D 70 27)) := (v2.low (by omega)).trans s2
      have k1 : ¬ x6 = -1 := by omega
      have c2 := z9.2.1
      have dl := drA_len its
      generalize hdr : drA its = dr at *
      cases dr with
      | nil =>
        cases e with
        | none =>
          obtain ⟨p1, p2, p3⟩ := z4
          obtain ⟨g1, g2, g3, g4⟩ := y2 p3
          have e27 : (u_tk (nxt D7 o l (D 70 27)) (28530 : Int64)) 70 27 = D7 70 27 := by rw [g3.2 27 (by decide) (by decide) (by decide), s3]
          have ai := AI_lex s1 g3
          refine ⟨o, _, an_rule (by omega) ⟨by omega, by omega⟩ (by omega) v1 ?_, fr.trans (g3.fr _), fun z => absurd rfl z, fun _ => ⟨rfl, by rw [p1]; exact g2, by rw [g3.2 31 (by decide) (by decide) (by decide), s3, z7], ai.2.2.1, by rw [e27]; exact c2, by rw [e27, p1]; omega, _, AI_any ai, fun f => ?_⟩⟩
          · rw [if_neg k1, z1]
            refine ⟨ptk, ?_⟩
            rw [g1, if_pos rfl]; exact ⟨rfl, rfl⟩
          · rw [val_0 f its v.1 v.1 hdr, ← z10 f]; simp [List.any_append]
        | some k =>
          cases k with
          | true => exact absurd ⟨rfl, rfl⟩ q
          | false =>
            obtain ⟨p1, p2⟩ := z4
            obtain ⟨g1, g2, g3⟩ := y1 p1
            obtain ⟨u1, u2, u3, u4⟩ := tN_tok z2
            have e27 : (u_tk (nxt D7 o l (D 70 27)) (28530 : Int64)) 70 27 = D7 70 27 := by rw [g3.2 27 (by decide) (by decide) (by decide), s3]
            have wl := (Wd_tn z2 p1).1
            have wl2 : ((cnn false).length : Int) = 2 := rfl
            obtain ⟨D9, w1, w2, w3⟩ := all_ev0 (n := n) (A := A) hd hT p2 g2 (by omega) (by omega) (by rw [g3.2 31 (by decide) (by decide) (by decide), s3, z7])
            refine ⟨-1, D9, an_rule (by omega) ⟨by omega, by omega⟩ (by omega) v1 ?_, (fr.trans (g3.fr _)).trans (w2.low (by omega)), fun _ => ⟨rfl, w3⟩, fun z => nomatch z⟩
            rw [if_neg k1, z1]
            refine ⟨ptk, ?_⟩
            rw [g1, if_neg (by decide)]
            exact an_rule (by omega) ⟨by omega, by omega⟩ (Or.inr ⟨by omega, by omega⟩) w1 (by rw [if_pos rfl]; exact ⟨rfl, rfl⟩)
      | cons kv rest =>
        obtain ⟨k, v2'⟩ := kv
        obtain ⟨p1, b', p2, p3⟩ := z4
        cases k with
        | true => exact absurd p1 z5
        | false =>
          obtain ⟨g1, g2, g3⟩ := y1 p1
          obtain ⟨u1, u2, u3, u4⟩ := tN_tok z2
          have e27 : (u_tk (nxt D7 o l (D 70 27)) (28530 : Int64)) 70 27 = D7 70 27 := by rw [g3.2 27 (by decide) (by decide) (by decide), s3]
          have ai := AI_lex s1 g3
          have wl := (Wd_tn z2 p1).1
          have wl2 : ((cnn false).length : Int) = 2 := rfl
          obtain ⟨x, D', r1, r2, r3, r4⟩ := ih rest (by simp only [List.length_cons] at dl; omega) (tN T N b2) v2' b' e a' (u_tk (nxt D7 o l (D 70 27)) (28530 : Int64)) (P ++ [(D 70 27, φ)]) (D 70 27) o (Or.inr ⟨P, (D 70 27, φ), ai, rfl, rfl⟩) p2 p3 g2 (by omega) (by rw [g3.2 31 (by decide) (by decide) (by decide), s3, z7])
          refine ⟨x, D', an_rule (by omega) ⟨by omega, by omega⟩ (by omega) v1 ?_, (fr.trans (g3.fr _)).trans r2, r3, fun z => ?_⟩
          · rw [if_neg k1, z1]
            refine ⟨ptk, ?_⟩
            rw [g1, if_neg (by decide)]
            exact r1
          · obtain ⟨j1, j2, j3, j4, j5, j6, ψ, j7, j8⟩ := r4 z
            refine ⟨j1, j2, j3, j4, by omega, by omega, ψ, j7, fun f => ?_⟩
            rw [j8 f, val_1 f v2' rest its v.1 v.1 hdr, ← z10 f]
            simp [List.any_append, Bool.or_assoc]
end Man
