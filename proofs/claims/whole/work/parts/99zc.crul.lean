/-! The call rules. -/
section Crl
variable {A A' : aA} {D D0 D' E E1 F G P : aD} {k q : Int} {s f : Nat → Int} {w : Nat → Option Itm} {M : Nat} {o : Option Int} {st : am_S}
/-- a call from the state st -/
def Wq (mX mM : Nat) (as : List am_V) (D : aD) (st : am_S) : Prop := ∃ v s1 s2 A2 D2, dn 200 mX (am_r (some 32) :: as) st = some (some (am_i (wz v)), s1) ∧ am_is s1.1 (some 70) 13 = true ∧ dn 200 mM (am_r (some 70) :: as) s1 = some (some (am_i (wz v)), s2) ∧ Rp 0 A2 D2 s2 ∧ Inv D2 ∧ Fr D D2
theorem Wr_q {mX mM : Nat} {as : List am_V} (h : Wr mX mM as A D) (hR : Rp 0 A D st) : Wq mX mM as D st := by
  obtain ⟨v, A1, D1, D2, e1, e2, e3, e4⟩ := h
  obtain ⟨r, s1, x1, ⟨rfl, _⟩, x3⟩ := e1 200 (Nat.le_refl _) st hR
  obtain ⟨r, s2, y1, ⟨rfl, _⟩, y3⟩ := e2 200 (Nat.le_refl _) s1 x3
  exact ⟨v, s1, s2, A1, D2, x1, is_st x3 rfl rfl, y1, y3, e3, e4⟩
/-- the flags, once the class's rules are run -/
theorem hq_ok (hk : D 1002 4 = k ∧ 0 ≤ k ∧ k < 8) (xk : XK k D E) (h9 : ∀ l, P 901 l = 1 → P 900 l = 1 ∧ 0 < P 1100 l) (pe : ∀ c, 900 ≤ c → c ≤ 925 → c ≠ 901 → P c = E c) (pz : ∀ l, l ≠ 4 → P 1002 l = E 1002 l) (p4 : P 1002 4 = k + 1) (hH : Hp D) : Hp P := by
  obtain ⟨H1, H2, H3, H4, H5, H6, H7, H8, H9⟩ := hH
  obtain ⟨x1, x2, x3, x4, x5, _⟩ := xk
  have z : ∀ l, l ≠ 4 → l ≠ 8 + k → P 1002 l = D 1002 l := fun l a b => (pz l a).trans (x3 1002 (by decide) l b)
  have fx : ∀ c, (901 < c ∧ c < 914) ∨ c = 915 ∨ (916 < c ∧ c < 922) → P c = D c := fun c hc => (pe c (by omega) (by omega) (by omega)).trans (x1 c (by omega) (by omega) (by omega))
  refine ⟨h9, ?_, ?_, ?_, ?_, ?_, ?_, ?_, ?_⟩
  · rw [fx 910 (by decide), fx 920 (by decide), z 0 (by decide) (by omega)]; exact H2
  · rw [fx 911 (by decide), fx 921 (by decide), z 1 (by decide) (by omega)]; exact H3
  · rw [fx 912 (by decide), z 2 (by decide) (by omega)]; exact H4
  · rw [fx 913 (by decide), z 3 (by decide) (by omega)]; exact H5
  · rw [fx 915 (by decide), z 5 (by decide) (by omega)]; exact H6
  · intro i hi
    rw [p4]
    rw [pe 914 (by decide) (by decide) (by decide), pe 923 (by decide) (by decide) (by decide), pe 924 (by decide) (by decide) (by decide), pe 925 (by decide) (by decide) (by decide)] at hi
    by_cases q : i = k
    · exact Or.inr ⟨by omega, by omega⟩
    · rw [x4 914 (by decide) i q, x4 923 (by decide) i q, x4 924 (by decide) i q, x4 925 (by decide) i q] at hi
      have := H7 i hi
      omega
  · intro l hl
    rw [p4]
    rw [pe 900 (by decide) (by decide) (by decide)] at hl
    by_cases q : l = 8 + k
    · exact Or.inr (Or.inr ⟨by omega, by omega⟩)
    · rw [x3 900 (by decide) l q] at hl
      have := H8 l hl
      omega
  · intro i hi
    rw [p4]
    rw [pe 916 (by decide) (by decide) (by decide), pe 922 (by decide) (by decide) (by decide)] at hi
    by_cases q : i < 64 * k ∨ 64 * k + 64 ≤ i
    · rw [x5 916 (by decide) i q, x5 922 (by decide) i q] at hi
      have := H9 i hi
      omega
    · omega
theorem hq_fg (hk : D 1002 4 = k ∧ 0 ≤ k ∧ k < 8) (xk : XK k D E) (h9 : ∀ l, E 901 l = 1 → E 900 l = 1 ∧ 0 < E 1100 l) (pe : ∀ c, 900 ≤ c → c ≤ 1100 → P c = E c) (hH : Hp D) : Hp (fgD P k) := by
  obtain ⟨H1, H2, H3, H4, H5, H6, H7, H8, H9⟩ := hH
  obtain ⟨x1, x2, x3, x4, x5, _⟩ := xk
  have z : ∀ l, l ≠ 8 + k → P 1002 l = D 1002 l := fun l b => by rw [pe 1002 (by decide) (by decide)]; exact x3 1002 (by decide) l b
  have fx : ∀ c, (901 < c ∧ c < 914) ∨ c = 915 ∨ (916 < c ∧ c < 922) → fgD P k c = D c := fun c hc => funext fun i => by
    rw [fgD_n (by unfold fgC; omega), pe c (by omega) (by omega), x1 c (by omega) (by omega) (by omega)]
  have f2 : fgD P k 1002 = P 1002 := fgD_c (by decide)
  have f3 : fgD P k 1100 = P 1100 := fgD_c (by decide)
  have z4 : P 1002 4 = k := by rw [z 4 (by omega)]; exact hk.1
  unfold Hp Hq
  rw [f2, f3]
  refine ⟨?_, ?_, ?_, ?_, ?_, ?_, ?_, ?_, ?_⟩
  · intro l hl
    obtain ⟨y1, y2⟩ := fgD_1 hl
    rw [pe 901 (by decide) (by decide)] at y1
    obtain ⟨w1, w2⟩ := h9 l y1
    exact ⟨fgD_i (by rw [pe 900 (by decide) (by decide)]; exact w1) (by unfold fgC at y2 ⊢; omega), by rw [pe 1100 (by decide) (by decide)]; exact w2⟩
  · rw [fx 910 (by decide), fx 920 (by decide), z 0 (by omega)]; exact H2
  · rw [fx 911 (by decide), fx 921 (by decide), z 1 (by omega)]; exact H3
  · rw [fx 912 (by decide), z 2 (by omega)]; exact H4
  · rw [fx 913 (by decide), z 3 (by omega)]; exact H5
  · rw [fx 915 (by decide), z 5 (by omega)]; exact H6
  · intro i hi
    rw [z4]
    have key : ∀ c, c = 914 ∨ c = 923 ∨ c = 924 ∨ c = 925 → fgD P k c i = 1 → D c i = 1 := fun c hc h => by
      obtain ⟨y1, y2⟩ := fgD_1 h
      have : i ≠ k := fun e => y2 (Or.inl ⟨hc, e⟩)
      rw [pe c (by omega) (by omega), x4 c hc i this] at y1
      exact y1
    have := H7 i (hi.imp (key 914 (by decide)) (fun h => h.imp (key 923 (by decide)) (fun h => h.imp (key 924 (by decide)) (key 925 (by decide)))))
    rw [hk.1] at this; exact this
  · intro l hl
    rw [z4]
    obtain ⟨y1, y2⟩ := fgD_1 hl
    have : l ≠ 8 + k := fun e => y2 (Or.inr (Or.inl ⟨Or.inl rfl, e⟩))
    rw [pe 900 (by decide) (by decide), x3 900 (by decide) l this] at y1
    have := H8 l y1
    rw [hk.1] at this; exact this
  · intro i hi
    rw [z4]
    have key : ∀ c, c = 916 ∨ c = 922 → fgD P k c i = 1 → D c i = 1 := fun c hc h => by
      obtain ⟨y1, y2⟩ := fgD_1 h
      have : i < 64 * k ∨ 64 * k + 64 ≤ i := by unfold fgC at y2; omega
      rw [pe c (by omega) (by omega), x5 c (by omega) i this] at y1
      exact y1
    have := H9 i (hi.imp (key 916 (by decide)) (key 922 (by decide)))
    rw [hk.1] at this; exact this
end Crl
