/-! Conditions in a text: what both readers make of them. -/
section Cnd_
variable {n : Nat} {A : aA} {D D' : aD} {T : Int → Int} {N a : Int}
theorem Ev_le {n c c' m : Nat} {as : List am_V} {A A' : aA} {D D' : aD} {ρ : Option am_V → Prop} (h : Ev n c m as A D ρ A' D') (hc : c ≤ c') : Ev n c' m as A D ρ A' D' := fun d hd s hr => h d (Nat.le_trans hc hd) s hr
abbrev Itm : Type := Tf × List Int
/-- codes that put a condition's value on the row of values -/
def Psh (H : Nat) (v : Itm) : Prop := (∀ c ∈ v.2, -3 ≤ c ∧ c < 180000) ∧ ∀ f s, v.2.foldl (ev1 f) s = v.1 f :: s ∧ ∀ i, ((v.2.take i).foldl (ev1 f) s).length ≤ s.length + H
def Rok (H : Nat) (a a' : Int) : Option Itm → Prop
  | none => True
  | some v => a < a' ∧ (v.2.length : Int) ≤ a' - a ∧ Psh H v
def Xo (T : Int → Int) (N : Int) (D D' : aD) (a' : Int) : Option Itm → Prop
  | none => D' 47 3 = a' ∧ 0 ≤ D' 47 5 ∧ D' 47 5 ≤ 700
  | some v => Xst T N a' D' ∧ cod D D' v.2
def XR (T : Int → Int) (N : Int) (m c d : Nat) (a : Int) (r : Option Itm) (a' : Int) : Prop := ∀ (n : Nat) (A : aA) (D : aD), Xst T N a D → 0 ≤ D 47 5 → D 47 5 ≤ a → ∃ D', Ev (n + 1) c m [am_r (some 47), am_i (wz d)] A D rv A D' ∧ Xfr D D' ∧ Xo T N D D' a' r
/-- a tree of nodes from k on, below e -/
def chN (D : aD) (k e : Int) : Int → List Int → Prop
  | a, [] => a = -1
  | a, x :: xs => a = x ∧ (k < x ∧ x < e) ∧ chN D k e (D 101 x) xs
def HN (D : aD) : Nat → Int → Int → Tf → Prop
  | 0, _, _, _ => False
  | d + 1, k, e, φ => (0 ≤ k ∧ k < e) ∧ ((D 99 k = 0 ∧ ∃ L : List (Int × Tf), chN D k e (D 100 k) (L.map Prod.fst) ∧ (∀ x ∈ L, ∃ g, k < x.1 ∧ g ≤ e ∧ HN D d x.1 g x.2) ∧ ∀ f, φ f = L.any (fun x => x.2 f)) ∨ (D 99 k = 1 ∧ ∃ L : List (Int × Tf), chN D k e (D 100 k) (L.map Prod.fst) ∧ (∀ x ∈ L, ∃ g, k < x.1 ∧ g ≤ e ∧ HN D d x.1 g x.2) ∧ ∀ f, φ f = L.all (fun x => x.2 f)) ∨ (D 99 k = 2 ∧ ∃ ψ : Tf, ∃ g, k < D 100 k ∧ g ≤ e ∧ HN D d (D 100 k) g ψ ∧ ∀ f, φ f = !ψ f) ∨ (D 99 k = 3 ∧ (0 ≤ D 102 k ∧ D 102 k < 6) ∧ ∀ f, φ f = lfv f (D 102 k) (D 103 k) (D 104 k)))
theorem chN_cg {k e k' e' : Int} (hk : k' ≤ k) (he : e ≤ e') (h : ∀ i, k < i → i < e → D' 101 i = D 101 i) : ∀ (xs : List Int) (a : Int), chN D k e a xs → chN D' k' e' a xs
  | [], _, q => q
  | x :: xs, a, q => ⟨q.1, ⟨by have := q.2.1; omega, by have := q.2.1; omega⟩, by rw [h x q.2.1.1 q.2.1.2]; exact chN_cg hk he h xs _ q.2.2⟩
theorem HN_cg : ∀ (d : Nat) (k e : Int) (φ : Tf), (∀ i, k ≤ i → i < e → D' 99 i = D 99 i ∧ D' 100 i = D 100 i ∧ D' 102 i = D 102 i ∧ D' 103 i = D 103 i ∧ D' 104 i = D 104 i) → (∀ i, k < i → i < e → D' 101 i = D 101 i) → HN D d k e φ → HN D' d k e φ
  | 0, _, _, _, _, _, h => h
  | d + 1, k, e, φ, h1, h2, h => by
    obtain ⟨hk, h⟩ := h
    obtain ⟨e1, e2, e3, e4, e5⟩ := h1 k (Int.le_refl _) hk.2
    have hc : ∀ (x g : Int) (ψ : Tf), k < x → g ≤ e → HN D d x g ψ → HN D' d x g ψ := fun x g ψ hx hg => HN_cg d x g ψ (fun i i1 i2 => h1 i (by omega) (by omega)) (fun i i1 i2 => h2 i (by omega) (by omega))
    refine ⟨hk, ?_⟩
    rw [e1, e2, e3, e4, e5]
    rcases h with ⟨q, L, l1, l2, l3⟩ | ⟨q, L, l1, l2, l3⟩ | ⟨q, ψ, g, l1, l2, l3, l4⟩ | h
    · exact Or.inl ⟨q, L, chN_cg (Int.le_refl _) (Int.le_refl _) h2 _ _ l1, fun x hx => by obtain ⟨g, g1, g2, g3⟩ := l2 x hx; exact ⟨g, g1, g2, hc _ _ _ g1 g2 g3⟩, l3⟩
    · exact Or.inr (Or.inl ⟨q, L, chN_cg (Int.le_refl _) (Int.le_refl _) h2 _ _ l1, fun x hx => by obtain ⟨g, g1, g2, g3⟩ := l2 x hx; exact ⟨g, g1, g2, hc _ _ _ g1 g2 g3⟩, l3⟩)
    · exact Or.inr (Or.inr (Or.inl ⟨q, ψ, g, l1, l2, hc _ _ _ l1 l2 l3, l4⟩))
    · exact Or.inr (Or.inr (Or.inr h))
theorem chN_chn {k e B : Int} (hk : 0 ≤ k) (he : e ≤ B) : ∀ (xs : List Int) (a : Int), chN D k e a xs → chn D B a xs
  | [], _, q => q
  | x :: xs, a, q => ⟨q.1, by have := q.2.1; omega, by have := q.2.1; omega, chN_chn hk he xs _ q.2.2⟩
theorem HN_HM {B : Int} : ∀ (d : Nat) (k e : Int) (φ : Tf), e ≤ B → HN D d k e φ → HM D B d k φ
  | 0, _, _, _, _, h => h
  | d + 1, k, e, φ, hB, h => by
    obtain ⟨hk, h⟩ := h
    refine ⟨⟨hk.1, by omega⟩, ?_⟩
    rcases h with ⟨q, L, l1, l2, l3⟩ | ⟨q, L, l1, l2, l3⟩ | ⟨q, ψ, g, l1, l2, l3, l4⟩ | h
    · exact Or.inl ⟨q, L, chN_chn hk.1 hB _ _ l1, fun x hx => by obtain ⟨g, g1, g2, g3⟩ := l2 x hx; exact HN_HM d _ _ _ (by omega) g3, l3⟩
    · exact Or.inr (Or.inl ⟨q, L, chN_chn hk.1 hB _ _ l1, fun x hx => by obtain ⟨g, g1, g2, g3⟩ := l2 x hx; exact HN_HM d _ _ _ (by omega) g3, l3⟩)
    · exact Or.inr (Or.inr (Or.inl ⟨q, ψ, HN_HM d _ _ _ (by omega) l3, l4⟩))
    · exact Or.inr (Or.inr (Or.inr h))
theorem HN_up : ∀ (d : Nat) (k e : Int) (φ : Tf), HN D d k e φ → HN D (d + 1) k e φ
  | 0, _, _, _, h => absurd h (fun q => q)
  | d + 1, k, e, φ, h => by
    obtain ⟨hk, h⟩ := h
    refine ⟨hk, ?_⟩
    rcases h with ⟨q, L, l1, l2, l3⟩ | ⟨q, L, l1, l2, l3⟩ | ⟨q, ψ, g, l1, l2, l3, l4⟩ | h
    · exact Or.inl ⟨q, L, l1, fun x hx => by obtain ⟨g, g1, g2, g3⟩ := l2 x hx; exact ⟨g, g1, g2, HN_up d _ _ _ g3⟩, l3⟩
    · exact Or.inr (Or.inl ⟨q, L, l1, fun x hx => by obtain ⟨g, g1, g2, g3⟩ := l2 x hx; exact ⟨g, g1, g2, HN_up d _ _ _ g3⟩, l3⟩)
    · exact Or.inr (Or.inr (Or.inl ⟨q, ψ, g, l1, l2, HN_up d _ _ _ l3, l4⟩))
    · exact Or.inr (Or.inr (Or.inr h))
theorem HN_le {d d' : Nat} {k e : Int} {φ : Tf} (hd : d ≤ d') (h : HN D d k e φ) : HN D d' k e φ := by
  induction hd with
  | refl => exact h
  | step _ ih => exact HN_up _ _ _ _ ih
/-- what the reference's reading gives: s = 8 d for a single, less by what an all or an any adds -/
def Mo (T : Int → Int) (N : Int) (h : Nat) (D D' : aD) (a : Int) (s : Int) (x a' : Int) : Option Itm → Prop
  | none => x = -1 ∧ D' 70 30 = a'
  | some v => x = D 70 27 ∧ Mst T N a' D' ∧ D' 70 31 = D 70 31 ∧ D 70 27 < D' 70 27 ∧ 25 * (D' 70 27 - D 70 27) ≤ 21 * (a' - a) - s ∧ D' 101 (D 70 27) = -1 ∧ HN D' h (D 70 27) (D' 70 27) v.1
def MR (T : Int → Int) (N : Int) (m c h d : Nat) (t s : Int) (a : Int) (r : Option Itm) (a' : Int) : Prop := ∀ (n : Nat) (A : aA) (D : aD), Mst T N a D → 0 ≤ D 70 27 → 25 * D 70 27 ≤ 104000 + 21 * a + 60 * d - t → D 70 31 = d → ∃ x D', Ev (n + 1) c m [am_r (some 70)] A D (ri x) A D' ∧ Mfr (D 70 27) D D' ∧ Mo T N h D D' a s x a' r
/-- a single at depth d from a on -/
def Sd (T : Int → Int) (N : Int) (d : Nat) (a : Int) (r : Option Itm) (a' : Int) : Prop := Tok T N a' ∧ a ≤ a' ∧ Rok (2 * (10 - d) + 1) a a' r ∧ XR T N 45 (7 + 2 * (10 - d)) d a r a' ∧ MR T N 163 (4 + 3 * (10 - d)) (2 * (10 - d) + 1) d 0 (8 * d) a r a'
/-- an any at depth d from a on -/
def Ad (T : Int → Int) (N : Int) (d : Nat) (a : Int) (r : Option Itm) (a' : Int) : Prop := Tok T N a' ∧ a ≤ a' ∧ Rok (2 * (10 - d) + 3) a a' r ∧ XR T N 44 (8 + 2 * (10 - d)) d a r a' ∧ MR T N 160 (6 + 3 * (10 - d)) (2 * (10 - d) + 3) d 50 (8 * d - 50) a r a'
def cnn (k : Bool) : List Int := if k = true then [97, 110, 100] else [111, 114]
/-- what follows a single: joined singles, then the end, or a single that fails -/
def Sq (T : Int → Int) (N : Int) (d : Nat) : Int → List (Bool × Itm) → Option Bool → Int → Prop
  | b, [], none, a' => a' = b ∧ ¬ Wd T N b (cnn true) ∧ ¬ Wd T N b (cnn false)
  | b, [], some k, a' => Wd T N b (cnn k) ∧ Sd T N d (tN T N b) none a'
  | b, (k, v) :: its, e, a' => Wd T N b (cnn k) ∧ ∃ b', Sd T N d (tN T N b) (some v) b' ∧ Sq T N d b' its e a'
theorem Wd_tn {w : List Int} (ht : Tok T N a) (h : Wd T N a w) : a + w.length ≤ tN T N a ∧ a < N := by
  have := (tN_tok ht).2.2.1
  have h3 := h.2.2
  have := (tE_let h.1).2.2
  exact ⟨by omega, this⟩
theorem Sq_ex {d : Nat} (H : ∀ b, Tok T N b → a ≤ b → ∃ r b', Sd T N d b r b') : ∀ (m : Nat) (b : Int), Tok T N b → a ≤ b → N - b ≤ m → ∃ its e a', Sq T N d b its e a' ∧ Tok T N a' ∧ b ≤ a' := by
  intro m
  induction m with
  | zero =>
    intro b hb h1 h2
    refine ⟨[], none, b, ⟨rfl, fun q => ?_, fun q => ?_⟩, hb, Int.le_refl _⟩
    · have := (Wd_tn hb q).2; omega
    · have := (Wd_tn hb q).2; omega
  | succ m ih =>
    intro b hb h1 h2
    have step : ∀ k, Wd T N b (cnn k) → ∃ its e a', Sq T N d b its e a' ∧ Tok T N a' ∧ b ≤ a' := by
      intro k hk
      obtain ⟨t1, t2, t3, t4⟩ := tN_tok hb
      have t5 := t4 (Wd_tn hb hk).2
      obtain ⟨r, b', hs⟩ := H (tN T N b) t1 (by omega)
      have hs1 := hs.1
      have hs2 := hs.2.1
      cases r with
      | none => exact ⟨[], some k, b', ⟨hk, hs⟩, hs1, by omega⟩
      | some v =>
        obtain ⟨its, e, a', q1, q2, q3⟩ := ih b' hs1 (by omega) (by omega)
        exact ⟨(k, v) :: its, e, a', ⟨hk, b', hs, q1⟩, q2, by omega⟩
    by_cases c1 : Wd T N b (cnn true)
    · exact step true c1
    · by_cases c2 : Wd T N b (cnn false)
      · exact step false c2
      · exact ⟨[], none, b, ⟨rfl, c1, c2⟩, hb, Int.le_refl _⟩
/-- the class's codes of what follows; w: an or waits -/
def cds : Bool → List (Bool × Itm) → List Int
  | w, [] => if w = true then [-3] else []
  | w, (k, v) :: its => if k = true then v.2 ++ ([-2] ++ cds w its) else (if w = true then [-3] else []) ++ (v.2 ++ cds true its)
/-- what it says: o what waits, x what stands at last -/
def val : Bool → Tf → Tf → List (Bool × Itm) → Tf
  | w, o, x, [] => fun f => if w = true then o f || x f else x f
  | w, o, x, (k, v) :: its => if k = true then val w o (fun f => x f && v.1 f) its else val true (fun f => if w = true then o f || x f else x f) v.1 its
end Cnd_
