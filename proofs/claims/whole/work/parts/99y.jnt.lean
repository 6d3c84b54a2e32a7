/-! What the two readings of a text have in common. -/
section Jnt
variable {n : Nat} {A A' : aA} {D D' E F : aD} {T : Int → Int} {N a b e g k : Int} {s f : Nat → Int} {w : Nat → Option Itm} {M : Nat} {o : Option Int} {st : am_S}
theorem wix_3 (h : wix T N b 3 ≠ -1) : 0 ≤ wix T N b 3 ∧ wix T N b 3 ≤ 5 := by
  have := (wix_b (T := T) (N := N) (a := b) 3).resolve_left h
  have h2 : wix T N b 3 < 6 := this.2
  omega
theorem wix_1 (h : wix T N b 1 ≠ -1) : 0 ≤ wix T N b 1 ∧ wix T N b 1 ≤ 5 := by
  have := (wix_b (T := T) (N := N) (a := b) 1).resolve_left h
  have h2 : wix T N b 1 < 2 := this.2
  omega
/-- within which bounds a statement's values lie -/
theorem Vrg {i : Int} (hi : 0 ≤ i ∧ i ≤ 8) (tb : Tok T N b) (hg : Gok T N (atm i) b) : (0 ≤ vOf T N i b ∧ vOf T N i b ≤ 5) ∧ (i ≠ 5 → 0 ≤ vA T N i b ∧ vA T N i b ≤ 9999) ∧ (i = 2 → vA T N i b ≤ 100 ∧ 0 ≤ vB T N i b ∧ vB T N i b ≤ 9999) ∧ (i = 0 → 0 ≤ vB T N i b ∧ vB T N i b ≤ 300) ∧ (i = 6 → 0 ≤ vB T N i b ∧ vB T N i b ≤ 5) := by
  obtain ⟨t1, _⟩ := tN_tok tb
  obtain ⟨t2, _⟩ := tN_tok t1
  obtain ⟨t3, _⟩ := tN_tok t2
  have nb : ∀ {c m : Int}, Tok T N c → Nm T N c m → 0 ≤ nvt T N c ∧ nvt T N c ≤ 9999 ∧ nvt T N c ≤ m := fun tc h => Nm_b h tc.1.2
  by_cases q0 : i = 0
  · subst q0
    obtain ⟨g1, g2, g3, _⟩ := hg
    have w1 := wix_1 g1
    have n1 := nb t1 g2
    have n2 := nb t2 g3
    exact ⟨w1, fun _ => ⟨n1.1, n1.2.1⟩, fun z => absurd z (by decide), fun _ => ⟨n2.1, n2.2.2⟩, fun z => absurd z (by decide)⟩
  by_cases q2 : i = 2
  · subst q2
    obtain ⟨g1, g2, g3, _⟩ := hg
    have n1 := nb tb g1
    have n2 := nb t2 g3
    exact ⟨⟨show (0 : Int) ≤ 0 by decide, show (0 : Int) ≤ 5 by decide⟩, fun _ => ⟨n1.1, n1.2.1⟩, fun _ => ⟨n1.2.2, n2.1, n2.2.1⟩, fun z => absurd z (by decide), fun z => absurd z (by decide)⟩
  by_cases q3 : i = 3 ∨ i = 4
  · have : atm i = [(1, 3), (0, 9999)] := by rcases q3 with rfl | rfl <;> rfl
    rw [this] at hg
    obtain ⟨g1, g2, _⟩ := hg
    have w1 := wix_3 g1
    have n1 := nb t1 g2
    have e1 : vOf T N i b = wix T N b 3 := by rcases q3 with rfl | rfl <;> rfl
    have e2 : vA T N i b = nvt T N (tN T N b) := by rcases q3 with rfl | rfl <;> rfl
    rw [e1, e2]
    exact ⟨w1, fun _ => ⟨n1.1, n1.2.1⟩, fun z => absurd z (by omega), fun z => absurd z (by omega), fun z => absurd z (by omega)⟩
  by_cases q5 : i = 5
  · subst q5
    exact ⟨⟨show (0 : Int) ≤ 0 by decide, show (0 : Int) ≤ 5 by decide⟩, fun z => absurd rfl z, fun z => absurd z (by decide), fun z => absurd z (by decide), fun z => absurd z (by decide)⟩
  by_cases q6 : i = 6
  · subst q6
    obtain ⟨g1, g2, g3, g4, _⟩ := hg
    have w1 := wix_3 g1
    have w2 := wix_3 g2
    have n1 := nb t3 g4
    exact ⟨w1, fun _ => ⟨n1.1, n1.2.1⟩, fun z => absurd z (by decide), fun z => absurd z (by decide), fun _ => w2⟩
  · have q7 : i = 1 ∨ i = 7 ∨ i = 8 := by omega
    have : atm i = [(0, 9999)] := by rcases q7 with rfl | rfl | rfl <;> rfl
    rw [this] at hg
    have n1 := nb tb hg.1
    have e1 : vOf T N i b = 0 := by rcases q7 with rfl | rfl | rfl <;> rfl
    have e2 : vA T N i b = nvt T N b := by rcases q7 with rfl | rfl | rfl <;> rfl
    rw [e1, e2]
    exact ⟨⟨by decide, by decide⟩, fun _ => ⟨n1.1, n1.2.1⟩, fun z => absurd z q2, fun z => absurd z q0, fun z => absurd z q6⟩
theorem PX_take {q : Int → Int} {l : List Int} (hq : ∀ i : Nat, i < l.length → q i = l.getD i 0) (φ : Int → Int) : ∀ m : Nat, m ≤ l.length → PX q φ m = (l.take m).foldl (ev1 φ) []
  | 0, _ => by rw [List.take_zero]; rfl
  | m + 1, h => by
    have ih := PX_take hq φ m (by omega)
    unfold PX at ih ⊢
    rw [show ((m + 1 : Nat) : Int) = (m : Int) + 1 by omega, foi_s (by omega), ih, hq m (by omega), List.take_succ, List.foldl_append, List.getElem?_eq_getElem (by omega)]
    simp only [Option.toList_some, List.foldl_cons, List.foldl_nil]
    rw [List.getD_eq_getElem?_getD, List.getElem?_eq_getElem (by omega)]; rfl
theorem XC_of {v : Itm} (h : XCd e D (some v)) (hp : Psh 23 v) (hl : v.2.length ≤ 700) : XC D e v.1 := by
  obtain ⟨h1, h2, h3⟩ := h
  have key : ∀ φ (m : Nat), m ≤ v.2.length → PX (fun j => D 3201 (1024 * e + j)) φ m = (v.2.take m).foldl (ev1 φ) [] := fun φ m hm => PX_take (q := fun j => D 3201 (1024 * e + j)) (l := v.2) (fun i hi => h3 i hi) φ m hm
  refine ⟨⟨by omega, by omega⟩, fun i i0 i1 => ?_, fun φ => ⟨fun i i0 i1 => ?_, ?_⟩⟩
  · obtain ⟨m, rfl⟩ : ∃ m : Nat, i = m := ⟨i.toNat, by omega⟩
    rw [h3 m (by omega)]
    refine hp.1 _ ?_
    rw [List.getD_eq_getElem?_getD, List.getElem?_eq_getElem (by omega)]
    exact List.getElem_mem _
  · obtain ⟨m, rfl⟩ : ∃ m : Nat, i = m := ⟨i.toNat, by omega⟩
    rw [key φ m (by omega)]
    have := (hp.2 φ []).2 m
    simp only [List.length_nil, Nat.zero_add] at this
    omega
  · rw [h2, key φ v.2.length (Nat.le_refl _), List.take_length, (hp.2 φ []).1]; rfl
theorem StOk_psh {v : Itm} {f : Int} (hT : Txt T N) (ta : Tok T N a) (h : StOk T N a (some v) f) : Psh 23 v := by
  obtain ⟨_, _, h3, _⟩ := h
  unfold Crk at h3
  split at h3
  · rcases h3 with ⟨_, h, _⟩ | ⟨_, q, h, h4⟩
    · exact (nomatch (Option.some.inj h))
    · cases q with
      | none => exact (nomatch h4)
      | some v' =>
        have e : some v = some v' := Option.some.inj h4
        have e2 : v = v' := Option.some.inj e
        subst e2
        obtain ⟨_, _, ⟨_, _, x⟩, _⟩ := h
        exact x
  · exact (nomatch (Option.some.inj h3.1))
/-- the last statement of a kind, on both sides -/
theorem lk_lv {r what which : Int} (h : ∀ p : Nat, p < M → D 94 (30 * r + p) = kd T N (s p) ∧ D 95 (30 * r + p) = vOf T N (kd T N (s p)) (tN T N (s p))) : ∀ m : Nat, m ≤ M → (foi (fun b j => if D 94 (30 * r + j) = what ∧ D 95 (30 * r + j) = which then 30 * r + j else b) (-1) m = -1 ∧ ∀ q z, lv T N s q what which z m = z) ∨ ∃ p : Nat, p < m ∧ kd T N (s p) = what ∧ foi (fun b j => if D 94 (30 * r + j) = what ∧ D 95 (30 * r + j) = which then 30 * r + j else b) (-1) m = 30 * r + p ∧ ∀ q z, lv T N s q what which z m = q p
  | 0, _ => Or.inl ⟨rfl, fun _ _ => rfl⟩
  | m + 1, hm => by
    have ih := lk_lv (what := what) (which := which) h m (by omega)
    obtain ⟨h1, h2⟩ := h m (by omega)
    rw [show ((m + 1 : Nat) : Int) = (m : Int) + 1 by omega, foi_s (by omega), h1, h2]
    by_cases c : kd T N (s m) = what ∧ vOf T N (kd T N (s m)) (tN T N (s m)) = which
    · rw [if_pos c]
      exact Or.inr ⟨m, by omega, c.1, rfl, fun q z => if_pos c⟩
    · rw [if_neg c]
      rcases ih with ⟨i1, i2⟩ | ⟨p, i1, i2, i3, i4⟩
      · exact Or.inl ⟨i1, fun q z => (if_neg c).trans (i2 q z)⟩
      · exact Or.inr ⟨p, by omega, i2, i3, fun q z => (if_neg c).trans (i4 q z)⟩
/-- a book that stays as it is -/
theorem Bok_cg {r : Int} (r0 : 0 ≤ r) (h92 : F 92 r = D 92 r) (h9 : ∀ c, 94 ≤ c → c ≤ 98 → ∀ j, 0 ≤ j → j < 30 → F c (30 * r + j) = D c (30 * r + j)) (hb : ∀ c, 2406 ≤ c → c ≤ 2411 → F c r = D c r) (h33 : ∀ p, 0 ≤ p → p < 6 → F 3301 (1024 * r + p) = D 3301 (1024 * r + p)) (h3 : F 3300 r = D 3300 r ∧ F 3400 r = D 3400 r ∧ F 3500 r = D 3500 r) (h2 : F 1002 (8 + r) = D 1002 (8 + r)) (h26 : ∀ c, 2600 ≤ c → c ≤ 2605 → ∀ j, 0 ≤ j → j < 30 → F c (64 * r + j) = D c (64 * r + j)) (h32 : ∀ j, 0 ≤ j → j < 30 → F 3200 (64 * r + j) = D 3200 (64 * r + j) ∧ ∀ i, 0 ≤ i → i < 700 → F 3201 (1024 * (64 * r + j) + i) = D 3201 (1024 * (64 * r + j) + i)) (hn : ∀ c, 99 ≤ c → c ≤ 104 → ∀ i, 0 ≤ i → i < D 70 27 → F c i = D c i) (h27 : D 70 27 ≤ F 70 27) (H : Bok D r) : Bok F r := by
  obtain ⟨⟨⟨b1, b2, b3, b4, b5, b6⟩, b7, b8, b9, b10⟩, c2, c3, c4⟩ := H
  have elk : ∀ what which, lk F r what which = lk D r what which := by
    intro what which
    unfold lk
    rw [h92]
    exact foi_cg (N := D 92 r) (fun j x j0 j1 => by rw [h9 94 (by decide) (by decide) j j0 (by omega), h9 95 (by decide) (by decide) j j0 (by omega)]) (D 92 r) c3.1 (Int.le_refl _)
  have ewl : ∀ what which, w_last F r what which = w_last D r what which := by
    intro what which; unfold w_last; rw [elk]
  have rl : ∀ what which, w_last D r what which ≠ -1 → ∃ j, 0 ≤ j ∧ j < 30 ∧ w_last D r what which = 30 * r + j := by
    intro what which hq
    unfold w_last at hq ⊢
    rw [if_neg (by omega)] at hq ⊢
    have := lk_b (D := D) (r := r) (what := what) (which := which) (D 92 r) c3.1 (Int.le_refl _) (by omega)
    unfold lk at hq ⊢
    rcases this with q | q
    · exact absurd q hq
    · generalize foi (fun b j => if D 94 (30 * r + j) = what ∧ D 95 (30 * r + j) = which then 30 * r + j else b) (-1) (D 92 r) = x at *
      exact ⟨x - 30 * r, by omega, by omega, by omega⟩
  have etl : ∀ what which z, tl F r what which z = tl D r what which z := by
    intro what which z
    unfold tl
    rw [ewl]
    by_cases q : w_last D r what which = -1
    · rw [if_pos q, if_pos q]
    · obtain ⟨j, j0, j1, ej⟩ := rl what which q
      rw [if_neg q, if_neg q, ej, h9 96 (by decide) (by decide) j j0 j1]
  refine ⟨⟨⟨?_, ?_, ?_, ?_, ?_, ?_⟩, fun p p0 p1 => ?_, ?_, ?_, ?_⟩, ?_, ?_, fun j j0 j1 => ?_⟩
  · rw [hb 2406 (by decide) (by decide), etl]; exact b1
  · rw [hb 2407 (by decide) (by decide), etl]; exact b2
  · rw [hb 2408 (by decide) (by decide), ewl, b3]
    by_cases q : w_last D r 2 0 = -1
    · rw [if_pos q, if_pos q]
    · obtain ⟨j, j0, j1, ej⟩ := rl 2 0 q
      rw [if_neg q, if_neg q, ej, h9 97 (by decide) (by decide) j j0 j1]
  · rw [hb 2409 (by decide) (by decide), etl]; exact b4
  · rw [hb 2410 (by decide) (by decide), etl]; exact b5
  · rw [hb 2411 (by decide) (by decide), ewl]; exact b6
  · rw [h33 p p0 p1, etl]; exact b7 p p0 p1
  · rw [h3.1]; exact b8
  · rw [h3.2.1]; exact b9
  · rw [h3.2.2]; exact b10
  · rw [h2, h92]; exact c2
  · rw [h92]; exact c3
  · rw [h92] at j1
    have j2 : j < 30 := by omega
    have s := c4 j j0 j1
    have x9 := fun c a b => h9 c a b j j0 j2
    have x6 := fun c a b => h26 c a b j j0 j2
    unfold Stm Cnd at s ⊢
    rw [x9 94 (by decide) (by decide), x9 95 (by decide) (by decide), x9 96 (by decide) (by decide), x9 97 (by decide) (by decide), x9 98 (by decide) (by decide), x6 2600 (by decide) (by decide), x6 2601 (by decide) (by decide), x6 2602 (by decide) (by decide), x6 2603 (by decide) (by decide), x6 2604 (by decide) (by decide), x6 2605 (by decide) (by decide)]
    obtain ⟨s1, s2, s3, s4, s5, s6, s7, s8, s9, s10⟩ := s
    refine ⟨s1, s2, s3, s4, s5, s6, s7, s8, s9, fun q => ?_⟩
    rcases s10 q with q1 | ⟨q1, φ, q2, q3⟩
    · exact Or.inl q1
    · exact Or.inr ⟨q1, φ, XC_cg (h32 j j0 j2).1 (h32 j j0 j2).2 q2, HM_cg h27 (fun i i0 i1 => ⟨hn 99 (by decide) (by decide) i i0 i1, hn 100 (by decide) (by decide) i i0 i1, hn 101 (by decide) (by decide) i i0 i1, hn 102 (by decide) (by decide) i i0 i1, hn 103 (by decide) (by decide) i i0 i1, hn 104 (by decide) (by decide) i i0 i1⟩) _ _ _ q3⟩
end Jnt
