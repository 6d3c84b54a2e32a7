/-! One statement and a row of statements: what both readers find. -/
section Sqs
variable {n : Nat} {A A' : aA} {D D' E : aD} {T : Int → Int} {N a b e g k : Int} {r : Option (Option Itm)} {f : Int} {w : Option Itm}
def kd (T : Int → Int) (N a : Int) : Int := wix T N a 0
def StOk (T : Int → Int) (N a : Int) (w : Option Itm) (f : Int) : Prop := kd T N a ≠ -1 ∧ Gok T N (atm (kd T N a)) (tN T N a) ∧ Crk T N (kd T N a) (gN T N (atm (kd T N a)) (tN T N a)) (some w) f ∧ Sgn T N f 59
def StF (T : Int → Int) (N a g : Int) : Prop := (kd T N a = -1 ∧ g = a) ∨ (kd T N a ≠ -1 ∧ (Gf T N (atm (kd T N a)) (tN T N a) g ∨ (Gok T N (atm (kd T N a)) (tN T N a) ∧ Crk T N (kd T N a) (gN T N (atm (kd T N a)) (tN T N a)) none g) ∨ (Gok T N (atm (kd T N a)) (tN T N a) ∧ ∃ w, Crk T N (kd T N a) (gN T N (atm (kd T N a)) (tN T N a)) (some w) g ∧ ¬ Sgn T N g 59)))
theorem Crk_ex {i : Int} (hT : Txt T N) (tb : Tok T N b) : ∃ r f, Crk T N i b r f := by
  unfold Crk
  by_cases q : i = 0 ∨ i = 4
  · obtain ⟨r, f, h, _⟩ := Cr_ex hT tb
    exact ⟨r, f, by rw [if_pos q]; exact h⟩
  · exact ⟨some none, b, by rw [if_neg q]; exact ⟨rfl, rfl⟩⟩
theorem Crk_le {i : Int} (tb : Tok T N b) (h : Crk T N i b r f) : b ≤ f := by
  unfold Crk at h
  split at h
  · rcases h with ⟨_, _, h⟩ | ⟨_, s, h, _⟩
    · omega
    · have := h.2.1
      have := (tN_tok tb).2.1
      omega
  · omega
theorem St_ex (hT : Txt T N) (ta : Tok T N a) : (∃ w f, StOk T N a w f) ∨ ∃ g, StF T N a g := by
  by_cases q : kd T N a = -1
  · exact Or.inr ⟨a, Or.inl ⟨q, rfl⟩⟩
  obtain ⟨tb, _⟩ := tN_tok ta
  rcases G_ex (T := T) (N := N) (atm (kd T N a)) (tN T N a) with h | ⟨g, h⟩
  · have tg := (gN_tok (atm (kd T N a)) (tN T N a) tb).1
    obtain ⟨r, f, hc⟩ := Crk_ex (i := kd T N a) hT tg
    cases r with
    | none => exact Or.inr ⟨f, Or.inr ⟨q, Or.inr (Or.inl ⟨h, hc⟩)⟩⟩
    | some w =>
      by_cases s : Sgn T N f 59
      · exact Or.inl ⟨w, f, q, h, hc, s⟩
      · exact Or.inr ⟨f, Or.inr ⟨q, Or.inr (Or.inr ⟨h, w, hc, s⟩)⟩⟩
  · exact Or.inr ⟨g, Or.inr ⟨q, Or.inl h⟩⟩
theorem StF_tok (hT : Txt T N) (ta : Tok T N a) (h : StF T N a g) : Tok T N g ∧ a ≤ g := by
  obtain ⟨tb, t2, _⟩ := tN_tok ta
  obtain ⟨tg, t3⟩ := gN_tok (T := T) (N := N) (atm (kd T N a)) (tN T N a) tb
  rcases h with ⟨_, h⟩ | ⟨_, h | ⟨_, h⟩ | ⟨_, w, h, _⟩⟩
  · rw [h]; exact ⟨ta, Int.le_refl _⟩
  · obtain ⟨x, y⟩ := Gf_tok _ _ _ tb h
    exact ⟨x, by omega⟩
  · have := Crk_le tg h
    exact ⟨Crk_tok hT tg h, by omega⟩
  · have := Crk_le tg h
    exact ⟨Crk_tok hT tg h, by omega⟩
theorem StOk_tok (hT : Txt T N) (ta : Tok T N a) (h : StOk T N a w f) : Tok T N (tN T N f) ∧ tN T N a ≤ f ∧ f < tN T N f ∧ a ≤ tN T N a := by
  obtain ⟨tb, t2, _⟩ := tN_tok ta
  obtain ⟨tg, t3⟩ := gN_tok (T := T) (N := N) (atm (kd T N a)) (tN T N a) tb
  obtain ⟨_, _, h, s⟩ := h
  have h1 := Crk_le tg h
  have tf := Crk_tok hT tg h
  obtain ⟨u1, u2, u3, u4⟩ := tN_tok tf
  exact ⟨u1, by omega, u4 s.1, t2⟩
theorem mst_ok (hT : Txt T N) (hk : 0 ≤ k ∧ k < 270) (hm : Mst T N a D) (h27 : 0 ≤ D 70 27) (hp : 25 * D 70 27 ≤ 104000 + 21 * a - 50) (h : StOk T N a w f) : ∃ D', Ev (n + 1) 39 169 [am_r (some 70), am_i (wz k)] A D (ri 1) A D' ∧ Sfr k (D 70 27) D D' ∧ Mst T N (tN T N f) D' ∧ Vm T N k (kd T N a) (tN T N a) D' ∧ Cend k (kd T N a) D D' (tN T N a) f w := by
  obtain ⟨h1, h2, h3, h4⟩ := h
  obtain ⟨x, D', e, p⟩ := stm_m (n := n) (A := A) (i := kd T N a) hT hk hm h27 hp rfl (fun _ => h3)
  rcases p with ⟨p, _⟩ | ⟨_, p⟩
  · exact absurd p h1
  · obtain ⟨_, p2, _, p4⟩ := p
    obtain ⟨q1, q2, q3, q4⟩ := ((p4 h2).2 w rfl).2 h4
    subst q1
    exact ⟨D', e, p2, q2, q3, q4⟩
theorem mst_fl (hT : Txt T N) (hk : 0 ≤ k ∧ k < 270) (hm : Mst T N a D) (h27 : 0 ≤ D 70 27) (hp : 25 * D 70 27 ≤ 104000 + 21 * a - 50) (h : StF T N a g) : ∃ D', Ev (n + 1) 39 169 [am_r (some 70), am_i (wz k)] A D (ri 0) A D' ∧ Sfr k (D 70 27) D D' ∧ D' 70 30 = g := by
  have ta := Mst_tok hT hm
  obtain ⟨tb, t2, _⟩ := tN_tok ta
  obtain ⟨tg, t3⟩ := gN_tok (T := T) (N := N) (atm (kd T N a)) (tN T N a) tb
  rcases h with ⟨h1, h2⟩ | ⟨h1, h | ⟨h2, h3⟩ | ⟨h2, w, h3, h4⟩⟩
  · obtain ⟨x, D', e, p⟩ := stm_m (n := n) (A := A) (i := kd T N a) (r := none) (f := 0) hT hk hm h27 hp rfl (fun q => absurd h1 q)
    rcases p with ⟨_, _, p2, p3, p4⟩ | ⟨p, _⟩
    · subst p3; exact ⟨D', e, p2, by rw [p4, h2]⟩
    · exact absurd h1 p
  · obtain ⟨r, f, hc⟩ := Crk_ex (i := kd T N a) hT tg
    obtain ⟨x, D', e, p⟩ := stm_m (n := n) (A := A) (i := kd T N a) hT hk hm h27 hp rfl (fun _ => hc)
    rcases p with ⟨p, _⟩ | ⟨_, _, p2, p3, _⟩
    · exact absurd p h1
    · obtain ⟨p4, p5⟩ := p3 g h
      subst p4; exact ⟨D', e, p2, p5⟩
  · obtain ⟨x, D', e, p⟩ := stm_m (n := n) (A := A) (i := kd T N a) hT hk hm h27 hp rfl (fun _ => h3)
    rcases p with ⟨p, _⟩ | ⟨_, _, p2, _, p3⟩
    · exact absurd p h1
    · obtain ⟨p4, p5⟩ := (p3 h2).1 rfl
      subst p4; exact ⟨D', e, p2, p5⟩
  · obtain ⟨x, D', e, p⟩ := stm_m (n := n) (A := A) (i := kd T N a) hT hk hm h27 hp rfl (fun _ => h3)
    rcases p with ⟨p, _⟩ | ⟨_, _, p2, _, p3⟩
    · exact absurd p h1
    · obtain ⟨p4, p5⟩ := ((p3 h2).2 w rfl).1 h4
      subst p4; exact ⟨D', e, p2, p5⟩
/-- what the class's reading of a statement of book k wants -/
def Xpr (k e : Int) (D : aD) : Prop := 0 ≤ k ∧ D 914 k = 1 ∧ (∀ l, D 901 l = 1 → D 900 l = 1) ∧ D 916 e ≠ 1 ∧ e = 64 * k + D 1002 (8 + k) ∧ D 1002 (8 + k) < 1000 ∧ (D 901 (8 + k) = 1 → 0 < D 1100 (8 + k)) ∧ (D 950 0 ≤ 900000000 ∧ D 951 0 ≤ 900000000) ∧ D 3300 k = 6
theorem xst_ok (hT : Txt T N) (ta : Tok T N a) (hx : Xst T N a D) (hp : Xpr k e D) (h : StOk T N a w f) : ∃ A1 E, Ev (n + 1) 29 43 [am_r (some 47), am_r (some (A 14 k))] A D rv (addA A1 E (8 + k)) (adF (addD E (8 + k)) k e) ∧ Ado A A1 e ∧ XG e D E ∧ Rm 2 (6 + (f - tN T N a)) D E ∧ E 916 e = 1 ∧ Xst T N (tN T N f) E ∧ Xw T N (kd T N a) (tN T N a) e E ∧ XCd e E w := by
  obtain ⟨k0, f1, h9, hn, he, hs, hp, hh, h6⟩ := hp
  obtain ⟨h1, h2, h3, h4⟩ := h
  obtain ⟨A1, E, A', D', e1, e2, e3, e4, e5, _, e6⟩ := xstm (n := n) (A := A) (i := kd T N a) hT ta hx rfl (fun _ => h3) k0 f1 h9 hn he hs hp hh h6
  obtain ⟨q1, q2, q3, q4, q5⟩ := (((e6 h1).2 h2).2 w rfl).2 h4
  subst q1; subst q2
  exact ⟨A1, E, e1, e2, e3, e4.2 h1 (fun z => nomatch z), e5, q3, q4, q5⟩
theorem xst_fl (hT : Txt T N) (ta : Tok T N a) (hx : Xst T N a D) (hp : Xpr k e D) (h : StF T N a g) : ∃ A1 E, Ev (n + 1) 29 43 [am_r (some 47), am_r (some (A 14 k))] A D rv A1 E ∧ Ado A A1 e ∧ XG e D E ∧ Rm 2 706 D E ∧ E 47 3 = g := by
  obtain ⟨k0, f1, h9, hn, he, hs, hp, hh, h6⟩ := hp
  obtain ⟨tb, t2, _⟩ := tN_tok ta
  obtain ⟨tg, t3⟩ := gN_tok (T := T) (N := N) (atm (kd T N a)) (tN T N a) tb
  rcases h with ⟨h1, h2⟩ | ⟨h1, h | ⟨h2, h3⟩ | ⟨h2, w, h3, h4⟩⟩
  · obtain ⟨A1, E, A', D', e1, e2, e3, e4, e5, e6, _⟩ := xstm (n := n) (A := A) (i := kd T N a) (r := none) (f := 0) hT ta hx rfl (fun q => absurd h1 q) k0 f1 h9 hn he hs hp hh h6
    obtain ⟨q1, q2, q3⟩ := e6 h1
    subst q1; subst q2
    exact ⟨_, _, e1, e2, e3, e4.1, by rw [q3, h2]⟩
  · obtain ⟨r, f, hc⟩ := Crk_ex (i := kd T N a) hT tg
    obtain ⟨A1, E, A', D', e1, e2, e3, e4, e5, _, e6⟩ := xstm (n := n) (A := A) (i := kd T N a) hT ta hx rfl (fun _ => hc) k0 f1 h9 hn he hs hp hh h6
    obtain ⟨q1, q2, q3⟩ := (e6 h1).1 g h
    subst q1; subst q2
    exact ⟨_, _, e1, e2, e3, e4.1, q3⟩
  · obtain ⟨A1, E, A', D', e1, e2, e3, e4, e5, _, e6⟩ := xstm (n := n) (A := A) (i := kd T N a) hT ta hx rfl (fun _ => h3) k0 f1 h9 hn he hs hp hh h6
    obtain ⟨q1, q2, q3⟩ := ((e6 h1).2 h2).1 rfl
    subst q1; subst q2
    exact ⟨_, _, e1, e2, e3, e4.1, q3⟩
  · obtain ⟨A1, E, A', D', e1, e2, e3, e4, e5, _, e6⟩ := xstm (n := n) (A := A) (i := kd T N a) hT ta hx rfl (fun _ => h3) k0 f1 h9 hn he hs hp hh h6
    obtain ⟨q1, q2, q3⟩ := (((e6 h1).2 h2).2 w rfl).1 h4
    subst q1; subst q2
    exact ⟨_, _, e1, e2, e3, e4.1, q3⟩
/-- M statements from s 0 on; then the end (none) or a fault -/
def Sts (T : Int → Int) (N : Int) (M : Nat) (s : Nat → Int) (w : Nat → Option Itm) (f : Nat → Int) (o : Option Int) : Prop := M ≤ 30 ∧ (∀ j, j < M → s j < N ∧ StOk T N (s j) (w j) (f j) ∧ s (j + 1) = tN T N (f j)) ∧ (o = none → ¬ s M < N) ∧ ∀ g, o = some g → s M < N ∧ ((M = 30 ∧ g = s M) ∨ (M < 30 ∧ StF T N (s M) g))
noncomputable def nxF (T : Int → Int) (N a : Int) : Option Itm × Int := @dite _ (∃ p : Option Itm × Int, StOk T N a p.1 p.2) (Classical.propDecidable _) (fun h => Classical.choose h) (fun _ => (none, a))
theorem nxF_ok (h : ∃ w f, StOk T N a w f) : StOk T N a (nxF T N a).1 (nxF T N a).2 := by
  have h' : ∃ p : Option Itm × Int, StOk T N a p.1 p.2 := by obtain ⟨w, f, h⟩ := h; exact ⟨(w, f), h⟩
  unfold nxF
  rw [dif_pos h']
  exact Classical.choose_spec h'
noncomputable def sqF (T : Int → Int) (N a : Int) : Nat → Int
  | 0 => a
  | j + 1 => tN T N (nxF T N (sqF T N a j)).2
theorem fst_ex (P : Nat → Prop) : ∀ m, ∃ M, M ≤ m ∧ (∀ j, j < M → P j) ∧ (M = m ∨ ¬ P M)
  | 0 => ⟨0, Nat.le_refl _, fun j hj => absurd hj (by omega), Or.inl rfl⟩
  | m + 1 => by
    obtain ⟨M, h1, h2, h3⟩ := fst_ex P m
    rcases h3 with h3 | h3
    · subst h3
      by_cases q : P M
      · exact ⟨M + 1, Nat.le_refl _, fun j hj => by
          by_cases z : j = M
          · subst z; exact q
          · exact h2 j (by omega), Or.inl rfl⟩
      · exact ⟨M, by omega, h2, Or.inr q⟩
    · exact ⟨M, by omega, h2, Or.inr h3⟩
theorem Sts_tok {M : Nat} {s f : Nat → Int} {w : Nat → Option Itm} (hT : Txt T N) (h0 : Tok T N (s 0)) (h : ∀ j, j < M → s j < N ∧ StOk T N (s j) (w j) (f j) ∧ s (j + 1) = tN T N (f j)) : ∀ j, j ≤ M → Tok T N (s j)
  | 0, _ => h0
  | j + 1, hj => by
    obtain ⟨_, h2, h3⟩ := h j (by omega)
    rw [h3]
    exact (StOk_tok hT (Sts_tok hT h0 h j (by omega)) h2).1
theorem Sts_ex (hT : Txt T N) (ta : Tok T N a) : ∃ M s w f o, s 0 = a ∧ Sts T N M s w f o := by
  obtain ⟨M, h1, h2, h3⟩ := fst_ex (fun j => sqF T N a j < N ∧ ∃ w f, StOk T N (sqF T N a j) w f) 30
  have hs : ∀ j, j < M → sqF T N a j < N ∧ StOk T N (sqF T N a j) (nxF T N (sqF T N a j)).1 (nxF T N (sqF T N a j)).2 ∧ sqF T N a (j + 1) = tN T N (nxF T N (sqF T N a j)).2 := fun j hj => ⟨(h2 j hj).1, nxF_ok (h2 j hj).2, rfl⟩
  have tM := Sts_tok (s := sqF T N a) (f := fun j => (nxF T N (sqF T N a j)).2) (w := fun j => (nxF T N (sqF T N a j)).1) hT ta hs M (Nat.le_refl _)
  by_cases q : sqF T N a M < N
  · by_cases q3 : M = 30
    · exact ⟨M, sqF T N a, _, _, some (sqF T N a M), rfl, h1, hs, fun z => (nomatch z), fun g z => ⟨q, Or.inl ⟨q3, (Option.some.inj z).symm⟩⟩⟩
    · have hn : ¬ ∃ w f, StOk T N (sqF T N a M) w f := fun z => by
        rcases h3 with h3 | h3
        · exact q3 h3
        · exact h3 ⟨q, z⟩
      obtain ⟨g, hg⟩ := (St_ex hT tM).resolve_left hn
      exact ⟨M, sqF T N a, _, _, some g, rfl, h1, hs, fun z => (nomatch z), fun g' z => ⟨q, Or.inr ⟨by omega, by rw [← Option.some.inj z]; exact hg⟩⟩⟩
  · exact ⟨M, sqF T N a, _, _, none, rfl, h1, hs, fun _ => q, fun g z => (nomatch z)⟩
end Sqs
