/-! What stays of the old books, whatever a text said. -/
section Jf
variable {n : Nat} {A A' : aA} {D D0 D' E E1 F G P : aD} {k q : Int} {s f : Nat → Int} {w : Nat → Option Itm} {M : Nat} {o : Option Int}
def ivg (c : Nat) : Bool := decide (c ≠ 47) && decide (c ≠ 49) && decide (c ≠ 70) && decide (c ≠ 92) && decide (c ≠ 93) && (decide (c < 94) || decide (104 < c)) && decide (c ≠ 107) && (decide (c < 900) || (decide (1100 < c) && decide (c < 2400)) || (decide (2411 < c) && decide (c < 2600)) || (decide (2605 < c) && decide (c < 3200)))
theorem ivk_g {c : Nat} (h : ivk c = true) : c ≠ 47 ∧ c ≠ 49 ∧ c ≠ 70 ∧ c ≠ 92 ∧ c ≠ 93 ∧ (c < 94 ∨ 104 < c) ∧ c ≠ 107 ∧ (c < 900 ∨ (1100 < c ∧ c < 2400) ∨ (2411 < c ∧ c < 2600) ∨ (2605 < c ∧ c < 3200)) := by
  have hm : c ∈ [32, 33, 76, 34, 75, 2000, 2001, 2002, 2003, 71, 72, 73, 2100, 2101, 2102, 2103, 2104, 2105, 2106, 2107, 77, 78, 79, 80, 81, 82, 2500, 2501, 2502, 2503, 2504, 2505, 2506, 2507, 2508, 2509, 2510, 83, 84, 85, 86, 87, 88, 89, 90, 91, 134, 2200, 2201, 2202, 2203, 2204, 2205, 108, 109, 110, 111, 112, 113, 2300, 2301, 2302, 2303, 130, 131, 132, 133, 3000, 3001, 3100, 3101, 114, 115, 36, 116, 62, 1200, 1201, 64, 66, 124, 125, 126, 127] := by
    unfold ivk at h
    exact List.contains_iff_mem.mp h
  have hall : ([32, 33, 76, 34, 75, 2000, 2001, 2002, 2003, 71, 72, 73, 2100, 2101, 2102, 2103, 2104, 2105, 2106, 2107, 77, 78, 79, 80, 81, 82, 2500, 2501, 2502, 2503, 2504, 2505, 2506, 2507, 2508, 2509, 2510, 83, 84, 85, 86, 87, 88, 89, 90, 91, 134, 2200, 2201, 2202, 2203, 2204, 2205, 108, 109, 110, 111, 112, 113, 2300, 2301, 2302, 2303, 130, 131, 132, 133, 3000, 3001, 3100, 3101, 114, 115, 36, 116, 62, 1200, 1201, 64, 66, 124, 125, 126, 127] : List Nat).all ivg = true := by decide
  have := List.all_eq_true.mp hall c hm
  unfold ivg at this
  simp only [Bool.and_eq_true, Bool.or_eq_true, decide_eq_true_eq] at this
  omega
/-- what the final state P keeps of D -/
def JF (k : Int) (D P : aD) : Prop := (∀ c, ivk c = true → P c = D c) ∧ (P 70 0 = D 70 0 ∧ P 70 1 = D 70 1 ∧ P 70 2 = D 70 2 ∧ P 70 3 = D 70 3 ∧ P 70 4 = D 70 4 ∧ P 70 51 = D 70 51 ∧ P 70 68 = D 70 68 ∧ P 70 69 = D 70 69 ∧ P 70 78 = D 70 78 ∧ P 70 83 = D 70 83 ∧ P 70 84 = D 70 84) ∧ (∀ l, l ≠ 4 → l ≠ 8 + k → P 1002 l = D 1002 l) ∧ (∀ r, r ≠ k → P 92 r = D 92 r ∧ P 93 r = D 93 r) ∧ (∀ c, 94 ≤ c → c ≤ 98 → ∀ i, i < 30 * k → P c i = D c i) ∧ (∀ c, 99 ≤ c → c ≤ 104 → ∀ i, i < D 70 27 → P c i = D c i) ∧ D 70 27 ≤ P 70 27 ∧ (∀ c, (2400 ≤ c ∧ c ≤ 2411) ∨ c = 3300 ∨ c = 3400 ∨ c = 3500 → ∀ i, 0 ≤ i ∧ i ≤ 8 → i ≠ k → P c i = D c i) ∧ (∀ c, (2600 ≤ c ∧ c ≤ 2605) ∨ c = 3200 → ∀ i, i < 64 * k → P c i = D c i) ∧ (∀ j, j < 1024 * (64 * k) → P 3201 j = D 3201 j) ∧ (∀ j, j < 1024 * k ∨ 1024 * k + 1024 ≤ j → P 3301 j = D 3301 j)
theorem JF_of (xk : XK k D E) (he : ∀ c, c ≠ 1000 → c ≠ 1002 → c ≠ 901 → c ≠ 1100 → c ≠ 950 → c ≠ 951 → E1 c = E c) (hz : ∀ l, l ≠ 4 → E1 1002 l = E 1002 l) (m0 : M0 k E1 D0) (mf : MF k D0 G) (p1 : ∀ c, c ≠ 70 → c ≠ 93 → P c = G c) (p2 : ∀ i, i ≠ 26 → i ≠ 27 → i ≠ 32 → P 70 i = G 70 i) (p3 : ∀ i, i ≠ k → P 93 i = G 93 i) (p27 : D 70 27 ≤ P 70 27) : JF k D P := by
  obtain ⟨x1, x2, x3, _, x5, x6, x7, x8, _⟩ := xk
  obtain ⟨m1, m2, m3, m4⟩ := m0
  obtain ⟨f1, f2, f3, f4, f5⟩ := mf
  have d70 : D0 70 27 = D 70 27 := by rw [m2 27 (by decide) (by decide) (by decide), he 70 (by decide) (by decide) (by decide) (by decide) (by decide) (by decide), x1 70 (by decide) (by decide) (by omega)]
  have all : ∀ c, c ≠ 70 → c ≠ 92 → c ≠ 93 → (c < 94 ∨ 104 < c) → c ≠ 107 → c ≠ 1000 → c ≠ 1002 → c ≠ 901 → c ≠ 1100 → c ≠ 950 → c ≠ 951 → P c = E c := fun c a1 a2 a3 a4 a5 a6 a7 a8 a9 a10 a11 => by
    rw [p1 c a1 a3, f1 c a1 a2 a4, m1 c a1 a2 a5, he c a6 a7 a8 a9 a10 a11]
  have s70 : ∀ i, i ≠ 26 → i ≠ 27 → i ≠ 32 → i ≠ 30 → i ≠ 31 → i ≠ 49 → i ≠ 50 → i ≠ 28 → i ≠ 29 → P 70 i = D 70 i := fun i a1 a2 a3 a4 a5 a6 a7 a8 a9 => by
    rw [p2 i a1 a2 a3, f2 i a2 a4 a5 a6 a7, m2 i a8 a9 a4, he 70 (by decide) (by decide) (by decide) (by decide) (by decide) (by decide), x1 70 (by decide) (by decide) (by omega)]
  have z1 : ∀ i, (0 ≤ i ∧ i ≤ 4) ∨ (51 ≤ i ∧ i ≤ 90) → P 70 i = D 70 i := fun i hi => s70 i (by omega) (by omega) (by omega) (by omega) (by omega) (by omega) (by omega) (by omega) (by omega)
  refine ⟨fun c hc => ?_, ⟨z1 0 (by decide), z1 1 (by decide), z1 2 (by decide), z1 3 (by decide), z1 4 (by decide), z1 51 (by decide), z1 68 (by decide), z1 69 (by decide), z1 78 (by decide), z1 83 (by decide), z1 84 (by decide)⟩, fun l l1 l2 => ?_, fun r hr => ⟨?_, ?_⟩, fun c c1 c2 i hi => ?_, fun c c1 c2 i hi => ?_, p27, fun c hc i hi hik => ?_, fun c hc i hi => ?_, fun j hj => ?_, fun j hj => ?_⟩
  · have g := ivk_g hc
    rw [all c g.2.2.1 g.2.2.2.1 g.2.2.2.2.1 g.2.2.2.2.2.1 g.2.2.2.2.2.2.1 (by omega) (by omega) (by omega) (by omega) (by omega) (by omega)]
    exact x1 c g.1 g.2.1 (by omega)
  · rw [p1 1002 (by decide) (by decide), f1 1002 (by decide) (by decide) (by decide), m1 1002 (by decide) (by decide) (by decide), hz l l1, x3 1002 (by decide) l l2]
  · rw [p1 92 (by decide) (by decide), f5 r hr, m4 r hr, he 92 (by decide) (by decide) (by decide) (by decide) (by decide) (by decide), x1 92 (by decide) (by decide) (by omega)]
  · rw [p3 r hr, f1 93 (by decide) (by decide) (by decide), m1 93 (by decide) (by decide) (by decide), he 93 (by decide) (by decide) (by decide) (by decide) (by decide) (by decide), x1 93 (by decide) (by decide) (by omega)]
  · rw [p1 c (by omega) (by omega), f3 c c1 c2 i (Or.inl hi), m1 c (by omega) (by omega) (by omega), he c (by omega) (by omega) (by omega) (by omega) (by omega) (by omega), x1 c (by omega) (by omega) (by omega)]
  · rw [p1 c (by omega) (by omega), f4 c c1 c2 i (by omega), m1 c (by omega) (by omega) (by omega), he c (by omega) (by omega) (by omega) (by omega) (by omega) (by omega), x1 c (by omega) (by omega) (by omega)]
  · rw [all c (by omega) (by omega) (by omega) (by omega) (by omega) (by omega) (by omega) (by omega) (by omega) (by omega) (by omega)]
    exact x2 c (by omega) i hi hik
  · rw [all c (by omega) (by omega) (by omega) (by omega) (by omega) (by omega) (by omega) (by omega) (by omega) (by omega) (by omega)]
    exact x5 c (by omega) i (Or.inl hi)
  · rw [all 3201 (by omega) (by omega) (by omega) (by omega) (by omega) (by omega) (by omega) (by omega) (by omega) (by omega) (by omega)]
    exact x6 j (Or.inl hj)
  · rw [all 3301 (by omega) (by omega) (by omega) (by omega) (by omega) (by omega) (by omega) (by omega) (by omega) (by omega) (by omega)]
    exact x7 j hj
theorem JF_iv (h : JF k D P) (hk : 0 ≤ k ∧ k < 8) (ht : I_tp P) (H : Iv D) : Iv P := by
  obtain ⟨j1, j2, j3, _⟩ := h
  exact Iv_r j1 j2 ⟨j3 0 (by decide) (by omega), j3 1 (by decide) (by omega), j3 2 (by decide) (by omega), j3 3 (by decide) (by omega), j3 5 (by decide) (by omega)⟩ ht H
theorem JF_rb (h : JF k D P) (hk : D 70 26 = k ∧ 0 ≤ k ∧ k < 8) (H : I_rb D) : (∀ r, 0 ≤ r → r < k → (P 2400 r = r ∧ P 2401 r = P 93 r ∧ 0 ≤ P 93 r ∧ P 93 r ≤ 999) ∧ Bok P r) ∧ Hdr P 8 (-1) ∧ P 2400 8 = -1 ∧ P 1002 16 = 0 := by
  obtain ⟨j1, j2, j3, j4, j5, j6, j7, j8, j9, j10, j11⟩ := h
  obtain ⟨h1, h2, h3, h4, h5, h6⟩ := H
  refine ⟨fun r r0 r1 => ⟨?_, ?_⟩, ?_, ?_, ?_⟩
  · have e := (h3 r r0 (by omega)).1
    rw [j8 2400 (by omega) r (by omega) (by omega), j8 2401 (by omega) r (by omega) (by omega), (j4 r (by omega)).2]
    exact e
  · refine Bok_cg (D := D) r0 (j4 r (by omega)).1 (fun c c1 c2 j a b => j5 c c1 c2 _ (by omega)) (fun c c1 c2 => j8 c (by omega) r (by omega) (by omega)) (fun p p0 p1 => j11 _ (by omega)) ⟨j8 3300 (by omega) r (by omega) (by omega), j8 3400 (by omega) r (by omega) (by omega), j8 3500 (by omega) r (by omega) (by omega)⟩ (j3 _ (by omega) (by omega)) (fun c c1 c2 j a b => j9 c (by omega) _ (by omega)) (fun j a b => ⟨j9 3200 (by omega) _ (by omega), fun i i0 i1 => j10 _ (by omega)⟩) (fun c c1 c2 i i0 i1 => j6 c c1 c2 i i1) j7 (h3 r r0 (by omega)).2
  · have wl : ∀ (Q : aD) a b, w_last Q (-1) a b = -1 := fun Q a b => if_pos rfl
    have tle : ∀ (Q : aD) a b z, tl Q (-1) a b z = z := fun Q a b z => by unfold tl; rw [wl, if_pos rfl]
    unfold Hdr at h4 ⊢
    simp only [tle, wl, if_true] at h4 ⊢
    obtain ⟨⟨a1, a2, a3, a4, a5, a6⟩, b1, b2, b3, b4⟩ := h4
    refine ⟨⟨?_, ?_, ?_, ?_, ?_, ?_⟩, fun p p0 p1 => ?_, ?_, ?_, ?_⟩
    · rw [j8 2406 (by omega) 8 (by omega) (by omega)]; exact a1
    · rw [j8 2407 (by omega) 8 (by omega) (by omega)]; exact a2
    · rw [j8 2408 (by omega) 8 (by omega) (by omega)]; exact a3
    · rw [j8 2409 (by omega) 8 (by omega) (by omega)]; exact a4
    · rw [j8 2410 (by omega) 8 (by omega) (by omega)]; exact a5
    · rw [j8 2411 (by omega) 8 (by omega) (by omega)]; exact a6
    · rw [j11 _ (by omega)]; exact b1 p p0 p1
    · rw [j8 3300 (by omega) 8 (by omega) (by omega)]; exact b2
    · rw [j8 3400 (by omega) 8 (by omega) (by omega)]; exact b3
    · rw [j8 3500 (by omega) 8 (by omega) (by omega)]; exact b4
  · rw [j8 2400 (by omega) 8 (by omega) (by omega)]; exact h5
  · rw [j3 16 (by decide) (by omega)]; exact h6
/-- the new book -/
theorem Bok_new {T : Int → Int} {N : Int} (hk : 0 ≤ k ∧ k < 8) (hT : Txt T N) (t0 : Tok T N (s 0)) (hM : M ≤ 30) (hst : ∀ j, j < M → s j < N ∧ StOk T N (s j) (w j) (f j) ∧ s (j + 1) = tN T N (f j)) (hb : XB T N s w k M P) (h6 : P 3300 k = 6 ∧ P 3400 k = 6 ∧ P 3500 k = 6) (h92 : P 92 k = M) {B : Int} (hB : 0 ≤ B) (hm : ∀ p, p < M → Vm T N (30 * k + p) (kd T N (s p)) (tN T N (s p)) P ∧ (kd T N (s p) = 0 ∨ kd T N (s p) = 4 → Cm B (30 * k + p) P (w p))) : Bok P k := by
  obtain ⟨b1, b2, b3⟩ := hb
  have hd : ∀ p : Nat, p < M → P 94 (30 * k + p) = kd T N (s p) ∧ P 95 (30 * k + p) = vOf T N (kd T N (s p)) (tN T N (s p)) := fun p hp => ⟨(hm p hp).1.1, (hm p hp).1.2.1⟩
  have wl : ∀ what which, w_last P k what which = foi (fun b j => if P 94 (30 * k + j) = what ∧ P 95 (30 * k + j) = which then 30 * k + j else b) (-1) M := fun what which => by
    unfold w_last lk; rw [if_neg (by omega), h92]
  have tle : ∀ what which z, what ≠ 5 → tl P k what which z = lv T N s (qA T N s) what which z M := by
    intro what which z h5
    unfold tl
    rw [wl]
    rcases lk_lv (what := what) (which := which) hd M (Nat.le_refl _) with ⟨i1, i2⟩ | ⟨p, i1, i2, i3, i4⟩
    · rw [i1, if_pos rfl, i2]
    · rw [i3, if_neg (by omega), i4, (hm p i1).1.2.2.1 (by omega)]; rfl
  obtain ⟨x1, x2, x3, x4, x5, x6, x7⟩ := b3
  refine ⟨⟨⟨?_, ?_, ?_, ?_, ?_, ?_⟩, fun p p0 p1 => ?_, h6.1, h6.2.1, h6.2.2⟩, by rw [b1, h92], ⟨by omega, by omega⟩, fun j j0 j1 => ?_⟩
  · rw [tle _ _ _ (by decide)]; exact x1
  · rw [tle _ _ _ (by decide)]; exact x2
  · rw [x3, wl]
    rcases lk_lv (what := 2) (which := 0) hd M (Nat.le_refl _) with ⟨i1, i2⟩ | ⟨p, i1, i2, i3, i4⟩
    · rw [i1, if_pos rfl, i2]
    · rw [i3, if_neg (by omega), i4, (hm p i1).1.2.2.2 (by omega)]; rfl
  · rw [tle _ _ _ (by decide)]; exact x4
  · rw [tle _ _ _ (by decide)]; exact x5
  · rw [x6, wl]
    rcases lk_lv (what := 5) (which := 0) hd M (Nat.le_refl _) with ⟨i1, i2⟩ | ⟨p, i1, i2, i3, i4⟩
    · rw [i1, if_pos rfl, i2]
    · rw [i3, if_neg (by omega), i4]
  · rw [tle _ _ _ (by decide)]; exact x7 p p0 p1
  · obtain ⟨p, rfl⟩ : ∃ p : Nat, j = p := ⟨j.toNat, by omega⟩
    have hp : p < M := by omega
    have tp := Sts_tok hT t0 hst p (by omega)
    obtain ⟨_, ok, _⟩ := hst p hp
    obtain ⟨tb, _⟩ := tN_tok tp
    have kr : 0 ≤ kd T N (s p) ∧ kd T N (s p) ≤ 8 := by
      have := (wix_b (T := T) (N := N) (a := s p) 0).resolve_left ok.1
      have h2 : wix T N (s p) 0 < 9 := this.2
      have h1 : 0 ≤ wix T N (s p) 0 := this.1
      unfold kd; omega
    obtain ⟨r1, r2, r3, r4, r5⟩ := Vrg kr tb ok.2.1
    obtain ⟨⟨v1, v2, v3, v4⟩, v5⟩ := hm p hp
    obtain ⟨⟨w1, w2, w3, w4, w5, w6⟩, w7⟩ := b2 p hp
    refine ⟨by rw [w1, v1], by rw [w2, v2], by rw [v1]; exact kr, by rw [v2]; exact r1, fun z => ?_, fun z1 z2 => ?_, fun z => ?_, fun z => ?_, fun z => ?_, fun z => ?_⟩
    · rw [v1] at z; rw [v3 z]; exact r2 z
    · rw [v1] at z1 z2; rw [w3 z1 z2, v3 z2]
    · rw [v1] at z
      obtain ⟨y1, y2⟩ := w4 z
      have y3 := r3 z
      rw [y1, y2, v3 (by omega), v4 (by omega)]
      exact ⟨rfl, rfl, y3.2.1, y3.2.2, y3.1⟩
    · rw [v1] at z; rw [w5 z, v4 (by omega)]; exact ⟨rfl, r4 z⟩
    · rw [v1] at z; rw [w6 z, v4 (by omega)]; exact ⟨rfl, r5 z⟩
    · rw [v1] at z
      have c1 := v5 z
      cases hw : w p with
      | none =>
        rw [hw] at c1 w7
        exact Or.inl ⟨w7, c1⟩
      | some v =>
        rw [hw] at c1 w7 ok
        obtain ⟨hi, y1, y2, y3, y4⟩ := c1
        exact Or.inr ⟨by rw [w7.1]; decide, v.1, XC_of w7 (StOk_psh hT tp ok) (StOk_len hT tp ok), HN_HM 40 _ hi v.1 y3 (HN_le (by decide) y4)⟩
end Jf
