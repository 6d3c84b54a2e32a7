/-! A dealing that no pair would leave: whoever asks first, it is the same. -/
section De
variable {al : Int → Int → Prop} {r g : Int → Int → Int} {w h w' h' w1 w2 h1 h2 : Int → Int} {as as' as1 as2 : Int → Int → Prop}
/-- those that may be paired; how servants and places like one another -/
def Hal (al : Int → Int → Prop) (r g : Int → Int → Int) : Prop := (∀ s p, al s p → (0 ≤ s ∧ s < 24) ∧ 0 ≤ p ∧ p < 30) ∧ (∀ s p p', al s p → al s p' → r s p = r s p' → p = p') ∧ ∀ p s s', al s p → al s' p → g p s = g p s' → s = s'
def StM (al : Int → Int → Prop) (r g : Int → Int → Int) (μ : Int → Int) : Prop := (∀ s, 0 ≤ s → s < 24 → μ s = -1 ∨ al s (μ s)) ∧ (∀ s s', 0 ≤ s → s < 24 → 0 ≤ s' → s' < 24 → μ s = μ s' → μ s ≠ -1 → s = s') ∧ ∀ s p, 0 ≤ s → s < 24 → al s p → (μ s = -1 ∨ r s p < r s (μ s)) → ∃ s', 0 ≤ s' ∧ s' < 24 ∧ μ s' = p ∧ g p s' ≤ g p s
def Qd (al : Int → Int → Prop) (r g : Int → Int → Int) (w h : Int → Int) (as : Int → Int → Prop) : Prop :=
  (∀ s, 0 ≤ s → s < 24 → w s = -1 ∨ (al s (w s) ∧ h (w s) = s ∧ as s (w s))) ∧ (∀ p, 0 ≤ p → p < 30 → h p = -1 ∨ (0 ≤ h p ∧ h p < 24 ∧ w (h p) = p)) ∧
  (∀ s p, as s p → al s p ∧ h p ≠ -1 ∧ (h p = s ∨ g p (h p) < g p s)) ∧ (∀ s p p', as s p → al s p' → r s p' < r s p → as s p') ∧
  ∀ μ, StM al r g μ → ∀ s p, as s p → w s ≠ p → μ s ≠ p
theorem Q_0 (hw : ∀ s, 0 ≤ s → s < 24 → w s = -1) (hh : ∀ p, 0 ≤ p → p < 30 → h p = -1) (ha : ∀ s p, ¬ as s p) : Qd al r g w h as :=
  ⟨fun s a b => Or.inl (hw s a b), fun p a b => Or.inl (hh p a b), fun s p q => absurd q (ha s p), fun s p p' q => absurd q (ha s p), fun _ _ s p q => absurd q (ha s p)⟩
theorem Q_step (H : Hal al r g) (Q : Qd al r g w h as) {s0 p0 : Int} (ha : al s0 p0) (hw : w s0 = -1) (hn : ∀ p', al s0 p' → r s0 p' < r s0 p0 → as s0 p') (hna : ¬ as s0 p0)
    (hs : ∀ s p, as' s p ↔ (as s p ∨ (s = s0 ∧ p = p0)))
    (hacc : (h p0 = -1 ∨ g p0 s0 < g p0 (h p0)) → w' s0 = p0 ∧ h' p0 = s0 ∧ (∀ s, 0 ≤ s → s < 24 → s ≠ s0 → w' s = if h p0 ≠ -1 ∧ s = h p0 then -1 else w s) ∧ ∀ p, 0 ≤ p → p < 30 → p ≠ p0 → h' p = h p)
    (hrej : ¬ (h p0 = -1 ∨ g p0 s0 < g p0 (h p0)) → (∀ s, 0 ≤ s → s < 24 → w' s = w s) ∧ ∀ p, 0 ≤ p → p < 30 → h' p = h p) : Qd al r g w' h' as' := by
  obtain ⟨H1, H2, H3⟩ := H
  obtain ⟨Qa, Qb, Qc, Qe, Qf⟩ := Q
  have b0 := H1 s0 p0 ha
  have hd : ∀ s p p', as' s p → al s p' → r s p' < r s p → as' s p' := fun s p p' q q2 q3 => by
    rw [hs] at q ⊢
    rcases q with q | ⟨rfl, rfl⟩
    · exact Or.inl (Qe s p p' q q2 q3)
    · exact Or.inl (hn p' q2 q3)
  by_cases acc : h p0 = -1 ∨ g p0 s0 < g p0 (h p0)
  · obtain ⟨e1, e2, e3, e4⟩ := hacc acc
    refine ⟨fun s a b => ?_, fun p a b => ?_, fun s p q => ?_, hd, fun μ hμ s p q hne hμp => ?_⟩
    · by_cases c : s = s0
      · rw [c, e1]; exact Or.inr ⟨ha, e2, (hs _ _).mpr (Or.inr ⟨rfl, rfl⟩)⟩
      · rw [e3 s a b c]
        by_cases c2 : h p0 ≠ -1 ∧ s = h p0
        · rw [if_pos c2]; exact Or.inl rfl
        · rw [if_neg c2]
          rcases Qa s a b with z | ⟨z1, z2, z3⟩
          · exact Or.inl z
          · have zb := H1 s _ z1
            have hp : w s ≠ p0 := fun y => by rw [y] at z2; exact c2 ⟨by omega, z2.symm⟩
            exact Or.inr ⟨z1, by rw [e4 _ zb.2.1 zb.2.2 hp]; exact z2, (hs _ _).mpr (Or.inl z3)⟩
    · by_cases c : p = p0
      · rw [c, e2]; exact Or.inr ⟨b0.1.1, b0.1.2, e1⟩
      · rw [e4 p a b c]
        rcases Qb p a b with z | ⟨z1, z2, z3⟩
        · exact Or.inl z
        · have n1 : h p ≠ s0 := fun y => by rw [y, hw] at z3; omega
          have n2 : ¬ (h p0 ≠ -1 ∧ h p = h p0) := fun y => by
            rcases Qb p0 b0.2.1 b0.2.2 with k | ⟨_, _, k⟩
            · exact y.1 k
            · rw [y.2, k] at z3; exact c z3.symm
          exact Or.inr ⟨z1, z2, by rw [e3 _ z1 z2 n1, if_neg n2]; exact z3⟩
    · rcases (hs s p).mp q with q | ⟨rfl, rfl⟩
      · obtain ⟨c1, c2, c3⟩ := Qc s p q
        have bp := H1 s p c1
        by_cases c : p = p0
        · subst c
          rw [e2]
          refine ⟨c1, by omega, Or.inr ?_⟩
          have z : g p s0 < g p (h p) := by
            rcases acc with y | y
            · exact absurd y c2
            · exact y
          rcases c3 with y | y
          · rw [y] at z; exact z
          · omega
        · rw [e4 p bp.2.1 bp.2.2 c]; exact ⟨c1, c2, c3⟩
      · rw [e2]; exact ⟨ha, by omega, Or.inl rfl⟩
    · rcases (hs s p).mp q with q | ⟨rfl, rfl⟩
      · have c1 := (Qc s p q).1
        have bs := H1 s p c1
        by_cases c : w s = p
        · by_cases c0 : s = s0
          · rw [c0, hw] at c; omega
          · have z := e3 s bs.1.1 bs.1.2 c0
            by_cases c2 : h p0 ≠ -1 ∧ s = h p0
            · obtain ⟨n1, n2⟩ := c2
              have wp : w s = p0 := by
                rcases Qb p0 b0.2.1 b0.2.2 with k | ⟨_, _, k⟩
                · exact absurd k n1
                · rw [n2]; exact k
              have pp : p = p0 := c.symm.trans wp
              rw [pp] at hμp
              have gl : g p0 s0 < g p0 s := by
                rcases acc with y | y
                · exact absurd y n1
                · rw [n2]; exact y
              by_cases c3 : μ s0 = -1 ∨ r s0 p0 < r s0 (μ s0)
              · obtain ⟨s', k0, k1, k2, k3⟩ := hμ.2.2 s0 p0 b0.1.1 b0.1.2 ha c3
                have := hμ.2.1 s' s k0 k1 bs.1.1 bs.1.2 (by rw [k2, hμp]) (by omega)
                rw [this] at k3; omega
              · rcases hμ.1 s0 b0.1.1 b0.1.2 with k | k
                · exact c3 (Or.inl k)
                · have hne2 : μ s0 ≠ p0 := fun y => c0 (hμ.2.1 s s0 bs.1.1 bs.1.2 b0.1.1 b0.1.2 (by rw [hμp, y]) (by omega))
                  have lt : r s0 (μ s0) < r s0 p0 := by
                    rcases Int.lt_trichotomy (r s0 (μ s0)) (r s0 p0) with y | y | y
                    · exact y
                    · exact absurd (H2 s0 _ _ k ha y) hne2
                    · exact absurd (Or.inr y) c3
                  have kb := H1 _ _ k
                  exact Qf μ hμ s0 _ (hn _ k lt) (by omega) rfl
            · rw [if_neg c2] at z; exact hne (z.trans c)
        · exact Qf μ hμ s p q c hμp
      · exact hne e1
  · obtain ⟨e1, e2⟩ := hrej acc
    have n1 : h p0 ≠ -1 := fun y => acc (Or.inl y)
    obtain ⟨o0, o1, o2⟩ : 0 ≤ h p0 ∧ h p0 < 24 ∧ w (h p0) = p0 := by
      rcases Qb p0 b0.2.1 b0.2.2 with k | k
      · exact absurd k n1
      · exact k
    obtain ⟨a1, a2, a3⟩ : al (h p0) p0 ∧ h p0 = h p0 ∧ as (h p0) p0 := by
      rcases Qa (h p0) o0 o1 with k | k
      · omega
      · rw [o2] at k; exact ⟨k.1, rfl, k.2.2⟩
    have ne : h p0 ≠ s0 := fun y => by rw [y, hw] at o2; omega
    have gl : g p0 (h p0) < g p0 s0 := by
      rcases Int.lt_trichotomy (g p0 (h p0)) (g p0 s0) with y | y | y
      · exact y
      · exact absurd (H3 p0 _ _ a1 ha y) ne
      · exact absurd (Or.inr y) acc
    refine ⟨fun s a b => ?_, fun p a b => ?_, fun s p q => ?_, hd, fun μ hμ s p q hne hμp => ?_⟩
    · rw [e1 s a b]
      rcases Qa s a b with z | ⟨z1, z2, z3⟩
      · exact Or.inl z
      · have zb := H1 s _ z1
        exact Or.inr ⟨z1, by rw [e2 _ zb.2.1 zb.2.2]; exact z2, (hs _ _).mpr (Or.inl z3)⟩
    · rw [e2 p a b]
      rcases Qb p a b with z | ⟨z1, z2, z3⟩
      · exact Or.inl z
      · exact Or.inr ⟨z1, z2, by rw [e1 _ z1 z2]; exact z3⟩
    · rcases (hs s p).mp q with q | ⟨rfl, rfl⟩
      · have c1 := Qc s p q
        have bp := H1 s p c1.1
        rw [e2 p bp.2.1 bp.2.2]; exact c1
      · rw [e2 p b0.2.1 b0.2.2]; exact ⟨ha, n1, Or.inr gl⟩
    · rcases (hs s p).mp q with q | ⟨rfl, rfl⟩
      · have bs := H1 s p (Qc s p q).1
        rw [e1 s bs.1.1 bs.1.2] at hne
        exact Qf μ hμ s p q hne hμp
      · by_cases c3 : μ (h p) = -1 ∨ r (h p) p < r (h p) (μ (h p))
        · obtain ⟨s', k0, k1, k2, k3⟩ := hμ.2.2 (h p) p o0 o1 a1 c3
          have := hμ.2.1 s' s k0 k1 b0.1.1 b0.1.2 (by rw [k2, hμp]) (by omega)
          rw [this] at k3; omega
        · rcases hμ.1 (h p) o0 o1 with k | k
          · exact c3 (Or.inl k)
          · have hne2 : μ (h p) ≠ p := fun y => ne (hμ.2.1 (h p) s o0 o1 b0.1.1 b0.1.2 (by rw [hμp, y]) (by omega))
            have lt : r (h p) (μ (h p)) < r (h p) p := by
              rcases Int.lt_trichotomy (r (h p) (μ (h p))) (r (h p) p) with y | y | y
              · exact y
              · exact absurd (H2 _ _ _ k a1 y) hne2
              · exact absurd (Or.inr y) c3
            exact Qf μ hμ (h p) _ (Qe _ _ _ a3 k lt) (by rw [o2]; exact Ne.symm hne2) rfl
theorem Q_as (H : ∀ s p, as s p ↔ as' s p) (Q : Qd al r g w h as) : Qd al r g w h as' := by
  have : as = as' := funext fun s => funext fun p => propext (H s p)
  rw [← this]; exact Q
def Fin_ (al : Int → Int → Prop) (w : Int → Int) (as : Int → Int → Prop) : Prop := ∀ s, 0 ≤ s → s < 24 → w s = -1 → ∀ p, al s p → as s p
theorem Q_st (H : Hal al r g) (Q : Qd al r g w h as) (F : Fin_ al w as) : StM al r g w := by
  obtain ⟨H1, H2, H3⟩ := H
  obtain ⟨Qa, Qb, Qc, Qe, Qf⟩ := Q
  refine ⟨fun s a b => ?_, fun s s' a b c d e n => ?_, fun s p a b ha q => ?_⟩
  · rcases Qa s a b with z | z
    · exact Or.inl z
    · exact Or.inr z.1
  · rcases Qa s a b with z | z
    · exact absurd z n
    · rcases Qa s' c d with y | y
      · exact absurd (e.trans y) n
      · rw [← z.2.1, ← y.2.1, e]
  · have hb := H1 s p ha
    have q1 : as s p := by
      rcases q with q | q
      · exact F s a b q p ha
      · rcases Qa s a b with z | z
        · exact F s a b z p ha
        · exact Qe s _ p z.2.2 ha q
    obtain ⟨c1, c2, c3⟩ := Qc s p q1
    rcases Qb p hb.2.1 hb.2.2 with z | ⟨z1, z2, z3⟩
    · exact absurd z c2
    · refine ⟨h p, z1, z2, z3, ?_⟩
      rcases c3 with y | y
      · rw [y]; exact Int.le_refl _
      · omega
theorem Q_same (H : Hal al r g) (Q1 : Qd al r g w1 h1 as1) (F1 : Fin_ al w1 as1) (Q2 : Qd al r g w2 h2 as2) (F2 : Fin_ al w2 as2) (s : Int) (a : 0 ≤ s) (b : s < 24) : w1 s = w2 s := by
  have s1 := Q_st H Q1 F1
  have s2 := Q_st H Q2 F2
  obtain ⟨Qa, Qb, Qc, Qe, Qf⟩ := Q1
  obtain ⟨Ra, Rb, Rc, Re, Rf⟩ := Q2
  by_cases e : w1 s = w2 s
  · exact e
  · exfalso
    rcases s1.1 s a b with z | z
    · rcases s2.1 s a b with y | y
      · omega
      · exact Qf w2 s2 s _ (F1 s a b z _ y) e rfl
    · rcases s2.1 s a b with y | y
      · exact Rf w1 s1 s _ (F2 s a b y _ z) (fun k => e k.symm) rfl
      · have a1 : as1 s (w1 s) := by
          rcases Qa s a b with k | k
          · have := H.1 s _ z; omega
          · exact k.2.2
        have a2 : as2 s (w2 s) := by
          rcases Ra s a b with k | k
          · have := H.1 s _ y; omega
          · exact k.2.2
        rcases Int.lt_trichotomy (r s (w1 s)) (r s (w2 s)) with k | k | k
        · exact Rf w1 s1 s _ (Re s _ _ a2 z k) (fun j => e j.symm) rfl
        · exact e (H.2.1 s _ _ z y k)
        · exact Qf w2 s2 s _ (Qe s _ _ a1 y k) e rfl
/-- sums -/
def sm (f : Int → Int) (n : Int) : Int := foi (fun a s => a + f s) 0 n
theorem sm_s {f : Int → Int} {n : Int} (hn : 0 ≤ n) : sm f (n + 1) = sm f n + f n := foi_s hn
theorem sm_b {f : Int → Int} {lo hi N : Int} (hf : ∀ s, 0 ≤ s → s < N → lo ≤ f s ∧ f s ≤ hi) : ∀ n, 0 ≤ n → n ≤ N → lo * n ≤ sm f n ∧ sm f n ≤ hi * n := by
  refine foi_ind (Q := fun n x => lo * n ≤ x ∧ x ≤ hi * n) (by omega) (fun n x n0 n1 q => ?_)
  have z := hf n n0 n1
  rw [Int.mul_add, Int.mul_add]
  omega
theorem sm_c {f f' : Int → Int} {N : Int} (h : ∀ s, 0 ≤ s → s < N → f s = f' s) (hN : 0 ≤ N) : sm f N = sm f' N := foi_cg (N := N) (fun j x a b => by rw [h j a b]) N hN (Int.le_refl _)
theorem sm_u {f f' : Int → Int} {N s0 d : Int} (h0 : 0 ≤ s0) (h1 : s0 < N) (h : ∀ s, 0 ≤ s → s < N → s ≠ s0 → f' s = f s) (hd : f' s0 = f s0 + d) : sm f' N = sm f N + d := by
  have key : ∀ m : Nat, (m : Int) ≤ N → sm f' m = sm f m + (if s0 < m then d else 0) := by
    intro m
    induction m with
    | zero => intro _; rw [if_neg (by omega)]; rfl
    | succ m ih =>
      intro hm
      rw [show ((m + 1 : Nat) : Int) = (m : Int) + 1 by omega, sm_s (by omega), sm_s (by omega), ih (by omega)]
      by_cases c : s0 = m
      · rw [if_neg (by omega), if_pos (by omega), ← c, hd]; omega
      · rw [h m (by omega) (by omega) (Ne.symm c)]
        by_cases c2 : s0 < m
        · rw [if_pos c2, if_pos (by omega)]; omega
        · rw [if_neg c2, if_neg (by omega)]; omega
  have := key N.toNat (by omega)
  rw [show ((N.toNat : Nat) : Int) = N by omega, if_pos h1] at this
  exact this
end De
