/-! Least ways over six posts. -/
theorem pigeon : ∀ (n : Nat) (f : Nat → Nat), (∀ i, i ≤ n → f i < n) → ∃ i j, i < j ∧ j ≤ n ∧ f i = f j := by
  intro n
  induction n with
  | zero => intro f h; exact absurd (h 0 (Nat.le_refl _)) (Nat.not_lt_zero _)
  | succ n ih =>
    intro f h
    by_cases c : ∃ i, i ≤ n ∧ f i = f (n + 1)
    · obtain ⟨i, h1, h2⟩ := c
      exact ⟨i, n + 1, by omega, Nat.le_refl _, h2⟩
    · have hne : ∀ i, i ≤ n → f i ≠ f (n + 1) := fun i hi e => c ⟨i, hi, e⟩
      obtain ⟨i, j, h1, h2, h3⟩ := ih (fun i => if f i = n then f (n + 1) else f i) (fun i hi => by
        have := h i (by omega)
        have := h (n + 1) (Nat.le_refl _)
        have := hne i hi
        try dsimp only
        split <;> omega)
      refine ⟨i, j, h1, by omega, ?_⟩
      try dsimp only at h3
      have e1 := hne i (by omega)
      have e2 := hne j h2
      by_cases c1 : f i = n
      · rw [if_pos c1] at h3
        by_cases c2 : f j = n
        · omega
        · rw [if_neg c2] at h3; exact absurd h3.symm e2
      · rw [if_neg c1] at h3
        by_cases c2 : f j = n
        · rw [if_pos c2] at h3; exact absurd h3 e1
        · rw [if_neg c2] at h3; exact h3
section Ways
variable (kd tf tt ta sv : Int → Int) (N : Int) (B I : Int)
/-- one step more -/
def wext (v l : Int) : Int := if v = I then I else v + B + l
/-- who may be taken at once -/
def wzr (p : Int) : Prop := 0 < sv p ∨ ∃ j, 0 ≤ j ∧ j < N ∧ kd j = 6 ∧ tt j = p ∧ ta j ≤ sv (tf j)
noncomputable def wT : Nat → Int → Int
  | 0, p => @ite _ (wzr kd tf tt ta sv N p) (Classical.propDecidable _) 0 I
  | r + 1, p => foi (fun acc j => if kd j = 6 ∧ tt j = p then min acc (wext B I (wT r (tf j)) (max 0 (ta j - sv (tf j)))) else acc) (wT r p) N
theorem wT_s (r : Nat) (p : Int) : wT kd tf tt ta sv N B I (r + 1) p = foi (fun acc j => if kd j = 6 ∧ tt j = p then min acc (wext B I (wT kd tf tt ta sv N B I r (tf j)) (max 0 (ta j - sv (tf j)))) else acc) (wT kd tf tt ta sv N B I r p) N := rfl
variable (hN : 0 ≤ N) (hB : 0 < B)
theorem fmin_le (g : Int → Int) (P : Int → Prop) [DecidablePred P] (a : Int) : ∀ j, 0 ≤ j → foi (fun acc j => if P j then min acc (g j) else acc) a j ≤ a ∧ ∀ i, 0 ≤ i → i < j → P i → foi (fun acc j => if P j then min acc (g j) else acc) a j ≤ g i := by
  intro j hj
  refine foi_ind (f := fun acc j => if P j then min acc (g j) else acc) (b := a) (Q := fun j x => x ≤ a ∧ ∀ i, 0 ≤ i → i < j → P i → x ≤ g i) ⟨Int.le_refl _, fun i h0 h1 => by omega⟩ (N := j) (fun k x k0 k1 q => ?_) j hj (Int.le_refl _)
  try dsimp only
  split
  · rename_i c
    refine ⟨by omega, fun i i0 i1 ip => ?_⟩
    by_cases e : i = k
    · subst e; omega
    · have := q.2 i i0 (by omega) ip; omega
  · rename_i c
    refine ⟨q.1, fun i i0 i1 ip => ?_⟩
    by_cases e : i = k
    · subst e; exact absurd ip c
    · exact q.2 i i0 (by omega) ip
theorem fmin_at (g : Int → Int) (P : Int → Prop) [DecidablePred P] (a : Int) : ∀ j, 0 ≤ j → foi (fun acc j => if P j then min acc (g j) else acc) a j = a ∨ ∃ i, 0 ≤ i ∧ i < j ∧ P i ∧ foi (fun acc j => if P j then min acc (g j) else acc) a j = g i := by
  intro j hj
  refine foi_ind (f := fun acc j => if P j then min acc (g j) else acc) (b := a) (Q := fun j x => x = a ∨ ∃ i, 0 ≤ i ∧ i < j ∧ P i ∧ x = g i) (Or.inl rfl) (N := j) (fun k x k0 k1 q => ?_) j hj (Int.le_refl _)
  try dsimp only
  split
  · rename_i c
    by_cases z : g k ≤ x
    · exact Or.inr ⟨k, k0, by omega, c, by omega⟩
    · rcases q with q | ⟨i, i0, i1, i2, i3⟩
      · exact Or.inl (by omega)
      · exact Or.inr ⟨i, i0, by omega, i2, by omega⟩
  · rcases q with q | ⟨i, i0, i1, i2, i3⟩
    · exact Or.inl q
    · exact Or.inr ⟨i, i0, by omega, i2, i3⟩
theorem wT_le (r : Nat) (p : Int) (hN : 0 ≤ N) : wT kd tf tt ta sv N B I (r + 1) p ≤ wT kd tf tt ta sv N B I r p := by
  rw [wT_s]; exact (fmin_le (fun j => wext B I (wT kd tf tt ta sv N B I r (tf j)) (max 0 (ta j - sv (tf j)))) (fun j => kd j = 6 ∧ tt j = p) _ N hN).1
theorem wT_ed (r : Nat) (j : Int) (hN : 0 ≤ N) (j0 : 0 ≤ j) (j1 : j < N) (hk : kd j = 6) : wT kd tf tt ta sv N B I (r + 1) (tt j) ≤ wext B I (wT kd tf tt ta sv N B I r (tf j)) (max 0 (ta j - sv (tf j))) := by
  rw [wT_s]; exact (fmin_le (fun j => wext B I (wT kd tf tt ta sv N B I r (tf j)) (max 0 (ta j - sv (tf j)))) (fun i => kd i = 6 ∧ tt i = tt j) _ N hN).2 j j0 j1 ⟨hk, rfl⟩
theorem wT_at (r : Nat) (p : Int) (hN : 0 ≤ N) : wT kd tf tt ta sv N B I (r + 1) p = wT kd tf tt ta sv N B I r p ∨ ∃ j, 0 ≤ j ∧ j < N ∧ kd j = 6 ∧ tt j = p ∧ wT kd tf tt ta sv N B I (r + 1) p = wext B I (wT kd tf tt ta sv N B I r (tf j)) (max 0 (ta j - sv (tf j))) := by
  rw [wT_s]
  rcases fmin_at (fun j => wext B I (wT kd tf tt ta sv N B I r (tf j)) (max 0 (ta j - sv (tf j)))) (fun j => kd j = 6 ∧ tt j = p) (wT kd tf tt ta sv N B I r p) N hN with h | ⟨i, i0, i1, i2, i3⟩
  · exact Or.inl h
  · exact Or.inr ⟨i, i0, i1, i2.1, i2.2, i3⟩
/-- a way that grows strictly better in round r + 1 -/
theorem wT_ch (hN : 0 ≤ N) (hB : 0 < B) (hI : ∀ r p, wT kd tf tt ta sv N B I r p ≤ I) (htf : ∀ j, 0 ≤ j → j < N → kd j = 6 → 0 ≤ tf j ∧ tf j < 6) : ∀ (r : Nat) (p : Int), 0 ≤ p → p < 6 → wT kd tf tt ta sv N B I (r + 1) p < wT kd tf tt ta sv N B I r p → ∃ f : Nat → Int, f (r + 1) = p ∧ (∀ i, i ≤ r + 1 → 0 ≤ f i ∧ f i < 6) ∧ ∀ i, i ≤ r → wT kd tf tt ta sv N B I i (f i) < wT kd tf tt ta sv N B I (i + 1) (f (i + 1)) := by
  intro r
  induction r with
  | zero =>
    intro p p0 p1 h
    rcases wT_at kd tf tt ta sv N B I 0 p hN with q | ⟨j, j0, j1, j2, j3, j4⟩
    · omega
    · refine ⟨fun i => if i = 0 then tf j else p, by simp, fun i hi => ?_, fun i hi => ?_⟩
      · try dsimp only
        split
        · exact htf j j0 j1 j2
        · exact ⟨p0, p1⟩
      · have : i = 0 := by omega
        subst this
        show wT kd tf tt ta sv N B I 0 (tf j) < wT kd tf tt ta sv N B I 1 p
        have hi0 := hI 0 p
        unfold wext at j4
        split at j4
        · omega
        · rw [j4]; omega
  | succ r ih =>
    intro p p0 p1 h
    rcases wT_at kd tf tt ta sv N B I (r + 1) p hN with q | ⟨j, j0, j1, j2, j3, j4⟩
    · omega
    · have hfj := htf j j0 j1 j2
      have hip := hI (r + 1) p
      have hst : wT kd tf tt ta sv N B I (r + 1) (tf j) < wT kd tf tt ta sv N B I r (tf j) := by
        have e1 := wT_le kd tf tt ta sv N B I r (tf j) hN
        rcases Int.lt_or_eq_of_le e1 with z | z
        · exact z
        · have e2 := wT_ed kd tf tt ta sv N B I r j hN j0 j1 j2
          rw [← z, ← j4, j3] at e2
          omega
      obtain ⟨f, f1, f2, f3⟩ := ih (tf j) hfj.1 hfj.2 hst
      refine ⟨fun i => if i ≤ r + 1 then f i else p, if_neg (by omega), fun i hi => ?_, fun i hi => ?_⟩
      · try dsimp only
        split
        · exact f2 i (by omega)
        · exact ⟨p0, p1⟩
      · dsimp only
        rw [if_pos (by omega)]
        by_cases c : i ≤ r
        · rw [if_pos (by omega)]; exact f3 i c
        · have : i = r + 1 := by omega
          subst this
          rw [if_neg (by omega), f1]
          unfold wext at j4
          split at j4
          · omega
          · rw [j4]; omega
theorem wT_mono (hN : 0 ≤ N) (p : Int) {r s : Nat} (h : r ≤ s) : wT kd tf tt ta sv N B I s p ≤ wT kd tf tt ta sv N B I r p := by
  induction h with
  | refl => exact Int.le_refl _
  | step _ ih => exact Int.le_trans (wT_le kd tf tt ta sv N B I _ p hN) ih
theorem wT_5 (hN : 0 ≤ N) (hB : 0 < B) (hI : ∀ r p, wT kd tf tt ta sv N B I r p ≤ I) (htf : ∀ j, 0 ≤ j → j < N → kd j = 6 → 0 ≤ tf j ∧ tf j < 6) (p : Int) (p0 : 0 ≤ p) (p1 : p < 6) : wT kd tf tt ta sv N B I 6 p = wT kd tf tt ta sv N B I 5 p := by
  have e1 := wT_le kd tf tt ta sv N B I 5 p hN
  rcases Int.lt_or_eq_of_le e1 with z | z
  · exfalso
    obtain ⟨f, f1, f2, f3⟩ := wT_ch kd tf tt ta sv N B I hN hB hI htf 5 p p0 p1 z
    obtain ⟨i, j, h1, h2, h3⟩ := pigeon 6 (fun i => (f i).toNat) (fun i hi => by have := f2 i (by omega); show (f i).toNat < 6; omega)
    try dsimp only at h3
    have hi := f2 i (by omega)
    have hj := f2 j (by omega)
    have e : f i = f j := by omega
    have key : ∀ m, i + m + 1 ≤ 6 → wT kd tf tt ta sv N B I i (f i) < wT kd tf tt ta sv N B I (i + m + 1) (f (i + m + 1)) := by
      intro m
      induction m with
      | zero => intro hm; exact f3 i (by omega)
      | succ m ihm => intro hm; exact Int.lt_trans (ihm (by omega)) (f3 (i + m + 1) (by omega))
    have k1 := key (j - i - 1) (by omega)
    rw [show i + (j - i - 1) + 1 = j by omega, ← e] at k1
    have k2 := wT_mono kd tf tt ta sv N B I hN (f i) (Nat.le_of_lt h1)
    omega
  · exact z
theorem wT_I (hN : 0 ≤ N) (h0 : 0 ≤ I) : ∀ r p, wT kd tf tt ta sv N B I r p ≤ I := by
  intro r
  induction r with
  | zero =>
    intro p
    unfold wT
    by_cases c : wzr kd tf tt ta sv N p
    · rw [@if_pos _ (Classical.propDecidable _) c]; exact h0
    · rw [@if_neg _ (Classical.propDecidable _) c]; exact Int.le_refl _
  | succ r ih => intro p; exact Int.le_trans (wT_le kd tf tt ta sv N B I r p hN) (ih p)
/-- the least ways: nothing below grows better -/
theorem wV_lo (hN : 0 ≤ N) (hB : 0 < B) (h0 : 0 ≤ I) (htf : ∀ j, 0 ≤ j → j < N → kd j = 6 → 0 ≤ tf j ∧ tf j < 6) (htt : ∀ j, 0 ≤ j → j < N → kd j = 6 → 0 ≤ tt j ∧ tt j < 6) (j : Int) (j0 : 0 ≤ j) (j1 : j < N) (hk : kd j = 6) : wT kd tf tt ta sv N B I 5 (tt j) ≤ wext B I (wT kd tf tt ta sv N B I 5 (tf j)) (max 0 (ta j - sv (tf j))) := by
  have e := wT_5 kd tf tt ta sv N B I hN hB (wT_I kd tf tt ta sv N B I hN h0) htf (tt j) (htt j j0 j1 hk).1 (htt j j0 j1 hk).2
  rw [← e]
  exact wT_ed kd tf tt ta sv N B I 5 j hN j0 j1 hk
theorem wT_z {p : Int} (hN : 0 ≤ N) (h : wzr kd tf tt ta sv N p) (h0 : ∀ r q, 0 ≤ wT kd tf tt ta sv N B I r q) (r : Nat) : wT kd tf tt ta sv N B I r p = 0 := by
  have h1 := wT_mono kd tf tt ta sv N B I hN p (Nat.zero_le r)
  have h2 := h0 r p
  have h3 : wT kd tf tt ta sv N B I 0 p = 0 := by unfold wT; exact @if_pos _ (Classical.propDecidable _) h _ _ _
  omega
theorem wT_0 (hN : 0 ≤ N) (hB : 0 < B) (h0 : 0 ≤ I) : ∀ r p, 0 ≤ wT kd tf tt ta sv N B I r p := by
  intro r
  induction r with
  | zero =>
    intro p
    unfold wT
    by_cases c : wzr kd tf tt ta sv N p
    · rw [@if_pos _ (Classical.propDecidable _) c]; exact Int.le_refl _
    · rw [@if_neg _ (Classical.propDecidable _) c]; exact h0
  | succ r ih =>
    intro p
    rcases wT_at kd tf tt ta sv N B I r p hN with q | ⟨j, _, _, _, _, q⟩
    · rw [q]; exact ih p
    · rw [q]; unfold wext; have := ih (tf j); split <;> omega
end Ways
/-- the two scales -/
def tau (r : Nat) (x m : Int) : Prop := (x = 1000000000 ∧ m = 100000000) ∨ ∃ k d : Int, 0 ≤ k ∧ k ≤ r ∧ 0 ≤ d ∧ d ≤ 9999 * k ∧ x = 1000000 * k + d ∧ m = 100000 * k + d
theorem tau_min {r : Nat} (hr : r ≤ 6) {x m x' m' : Int} (h : tau r x m) (h' : tau r x' m') : tau r (min x x') (min m m') := by
  rcases h with ⟨a, b⟩ | ⟨k, d, a, b, c, e, f, g⟩
  · rcases h' with ⟨a', b'⟩ | ⟨k', d', a', b', c', e', f', g'⟩
    · exact Or.inl ⟨by omega, by omega⟩
    · exact Or.inr ⟨k', d', a', b', c', e', by omega, by omega⟩
  · rcases h' with ⟨a', b'⟩ | ⟨k', d', a', b', c', e', f', g'⟩
    · exact Or.inr ⟨k, d, a, b, c, e, by omega, by omega⟩
    · by_cases z : 100000 * k + d ≤ 100000 * k' + d'
      · exact Or.inr ⟨k, d, a, b, c, e, by omega, by omega⟩
      · exact Or.inr ⟨k', d', a', b', c', e', by omega, by omega⟩
theorem tau_up {r : Nat} {x m : Int} (h : tau r x m) : tau (r + 1) x m := by
  rcases h with h | ⟨k, d, a, b, c⟩
  · exact Or.inl h
  · exact Or.inr ⟨k, d, a, by omega, c⟩
theorem tau_ext {r : Nat} (hr : r ≤ 5) {x m l : Int} (h : tau r x m) (hl : 0 ≤ l ∧ l ≤ 9999) : tau (r + 1) (wext 1000000 1000000000 x l) (wext 100000 100000000 m l) := by
  unfold wext
  rcases h with ⟨a, b⟩ | ⟨k, d, a, b, c, e, f, g⟩
  · rw [if_pos a, if_pos b]; exact Or.inl ⟨rfl, rfl⟩
  · rw [if_neg (by omega), if_neg (by omega)]
    exact Or.inr ⟨k + 1, d + l, by omega, by omega, by omega, by omega, by omega, by omega⟩
theorem tau_T (kd tf tt ta sv : Int → Int) (N : Int) (hN : 0 ≤ N) (hta : ∀ j, 0 ≤ j → j < N → kd j = 6 → ta j ≤ 9999) (hsv : ∀ p, 0 ≤ sv p) : ∀ r : Nat, r ≤ 6 → ∀ p, tau r (wT kd tf tt ta sv N 1000000 1000000000 r p) (wT kd tf tt ta sv N 100000 100000000 r p) := by
  intro r
  induction r with
  | zero =>
    intro _ p
    unfold wT
    by_cases c : wzr kd tf tt ta sv N p
    · rw [@if_pos _ (Classical.propDecidable _) c, @if_pos _ (Classical.propDecidable _) c]; exact Or.inr ⟨0, 0, by omega, by omega, by omega, by omega, by omega, by omega⟩
    · rw [@if_neg _ (Classical.propDecidable _) c, @if_neg _ (Classical.propDecidable _) c]; exact Or.inl ⟨rfl, rfl⟩
  | succ r ih =>
    intro hr p
    have i1 := ih (by omega)
    rw [wT_s, wT_s]
    have key : ∀ m : Nat, (m : Int) ≤ N → tau (r + 1) (foi (fun acc j => if kd j = 6 ∧ tt j = p then min acc (wext 1000000 1000000000 (wT kd tf tt ta sv N 1000000 1000000000 r (tf j)) (max 0 (ta j - sv (tf j)))) else acc) (wT kd tf tt ta sv N 1000000 1000000000 r p) m) (foi (fun acc j => if kd j = 6 ∧ tt j = p then min acc (wext 100000 100000000 (wT kd tf tt ta sv N 100000 100000000 r (tf j)) (max 0 (ta j - sv (tf j)))) else acc) (wT kd tf tt ta sv N 100000 100000000 r p) m) := by
      intro m
      induction m with
      | zero => intro _; exact tau_up (i1 p)
      | succ m ihm =>
        intro hm
        have q := ihm (by omega)
        rw [show ((m + 1 : Nat) : Int) = (m : Int) + 1 by omega, foi_s (by omega), foi_s (by omega)]
        by_cases c : kd m = 6 ∧ tt m = p
        · rw [if_pos c, if_pos c]
          have := hta m (by omega) (by omega) c.1
          have := hsv (tf m)
          exact tau_min (by omega) q (tau_ext (by omega) (i1 (tf m)) ⟨by omega, by omega⟩)
        · rw [if_neg c, if_neg c]; exact q
    have := key N.toNat (by omega)
    rwa [Int.toNat_of_nonneg hN] at this
