/-! The abstract state: ints by codes (aD), addresses by kinds of things (aA), and how a heap shows them. -/
abbrev aA : Type := Nat → Int → Nat
abbrev aD : Type := Nat → Int → Int
def up (D : aD) (c : Nat) (i v : Int) : aD := fun c' i' => if c' = c ∧ i' = i then v else D c' i'
theorem up_eq {D : aD} {c : Nat} {i v : Int} : up D c i v c i = v := if_pos ⟨rfl, rfl⟩
theorem up_c {D : aD} {c c' : Nat} {i i' v : Int} (h : c' ≠ c) : up D c i v c' i' = D c' i' := if_neg (fun e => h e.1)
theorem up_i {D : aD} {c c' : Nat} {i i' v : Int} (h : i' ≠ i) : up D c i v c' i' = D c' i' := if_neg (fun e => h e.2)
theorem up_cf {D : aD} {c c' : Nat} {i v : Int} (h : c' ≠ c) : up D c i v c' = D c' := funext fun _ => up_c h
abbrev aF : Type := Option (Option Nat ⊕ (Nat × Int))
abbrev aSh : Type := (Nat × List aF) ⊕ (Nat × Nat)
def shl : List (Option aSh) := [
  none,
  none,
  none,
  none,
  none,
  none,
  none,
  none,
  none,
  none,
  none,
  none,
  none,
  none,
  none,
  none,
  none,
  none,
  none,
  none,
  none,
  none,
  none,
  none,
  none,
  none,
  none,
  none,
  none,
  none,
  none,
  none,
  some (.inl (12, [some (.inl (some 33)), some (.inl (some 34)), some (.inl (some 35)), some (.inl (some 36)), some (.inr (0, 0)), some (.inr (0, 1)), some (.inr (0, 2)), some (.inr (0, 3)), some (.inr (0, 4)), some (.inr (14, 8)), some (.inl (some 47)), some (.inl (some 50)), some (.inl (some 53)), some (.inl (some 62)), none, none, none, none])),
  some (.inr (0, 5)),
  some (.inr (0, 12)),
  some (.inr (0, 13)),
  some (.inr (0, 24)),
  none,
  none,
  none,
  none,
  none,
  none,
  none,
  none,
  none,
  none,
  some (.inl (7, [some (.inl (some 48)), some (.inl (some 49)), none, none, none, none, none, none, none])),
  some (.inr (1, 700)),
  some (.inr (0, 700)),
  some (.inl (4, [some (.inr (0, 5)), some (.inl (some 52))])),
  none,
  some (.inr (0, 6)),
  some (.inl (3, [some (.inl (some 54)), some (.inl (some 55)), some (.inl (some 56)), some (.inl (some 57)), some (.inl (some 58)), some (.inl (some 59)), some (.inl (some 60)), some (.inl (some 61))])),
  some (.inr (0, 312)),
  some (.inr (0, 24)),
  some (.inr (0, 720)),
  some (.inr (0, 720)),
  some (.inr (0, 30)),
  some (.inr (0, 30)),
  some (.inr (0, 24)),
  some (.inr (0, 24)),
  some (.inl (2, [some (.inr (2, 0)), some (.inl (some 64)), some (.inr (2, 1)), some (.inl (some 66)), some (.inl (some 67)), some (.inl (some 68)), some (.inl (some 69)), none, none, none, none])),
  none,
  some (.inr (0, 6)),
  none,
  some (.inr (0, 6)),
  some (.inr (0, 36)),
  some (.inr (0, 448)),
  some (.inr (0, 6)),
  some (.inl (13, [none, none, none, none, none, some (.inl (some 71)), some (.inl (some 72)), some (.inl (some 73)), some (.inl (some 74)), some (.inl (some 75)), some (.inl (some 76)), some (.inl (some 77)), some (.inl (some 78)), some (.inl (some 79)), some (.inl (some 80)), some (.inl (some 81)), some (.inl (some 82)), some (.inl (some 83)), some (.inl (some 84)), some (.inl (some 85)), some (.inl (some 86)), some (.inl (some 87)), some (.inl (some 88)), some (.inl (some 89)), some (.inl (some 90)), some (.inl (some 91)), none, none, none, none, none, none, none, some (.inl (some 92)), some (.inl (some 93)), some (.inl (some 94)), some (.inl (some 95)), some (.inl (some 96)), some (.inl (some 97)), some (.inl (some 98)), some (.inl (some 99)), some (.inl (some 100)), some (.inl (some 101)), some (.inl (some 102)), some (.inl (some 103)), some (.inl (some 104)), some (.inl (some 105)), some (.inl (some 106)), some (.inl (some 107)), none, none, none, some (.inl (some 108)), some (.inl (some 109)), some (.inl (some 110)), some (.inl (some 111)), some (.inl (some 112)), some (.inl (some 113)), some (.inl (some 114)), some (.inl (some 115)), some (.inl (some 116)), some (.inl (some 117)), some (.inl (some 118)), some (.inl (some 119)), some (.inl (some 120)), some (.inl (some 121)), some (.inl (some 122)), some (.inl (some 123)), none, none, none, none, some (.inl (some 124)), some (.inl (some 125)), some (.inl (some 126)), some (.inl (some 127)), some (.inl (some 128)), some (.inl (some 129)), none, some (.inl (some 130)), some (.inl (some 131)), some (.inl (some 132)), some (.inl (some 133)), none, none, some (.inl (some 134))])),
  some (.inr (0, 24)),
  some (.inr (0, 24)),
  some (.inr (0, 24)),
  some (.inr (0, 24)),
  some (.inr (0, 12)),
  some (.inr (0, 5)),
  some (.inr (0, 30)),
  some (.inr (0, 30)),
  some (.inr (0, 30)),
  some (.inr (0, 30)),
  some (.inr (0, 30)),
  some (.inr (0, 30)),
  some (.inr (0, 60)),
  some (.inr (0, 60)),
  some (.inr (0, 60)),
  some (.inr (0, 60)),
  some (.inr (0, 60)),
  some (.inr (0, 60)),
  some (.inr (0, 60)),
  some (.inr (0, 60)),
  some (.inr (0, 60)),
  some (.inr (0, 9)),
  some (.inr (0, 9)),
  some (.inr (0, 270)),
  some (.inr (0, 270)),
  some (.inr (0, 270)),
  some (.inr (0, 270)),
  some (.inr (0, 270)),
  some (.inr (0, 5200)),
  some (.inr (0, 5200)),
  some (.inr (0, 5200)),
  some (.inr (0, 5200)),
  some (.inr (0, 5200)),
  some (.inr (0, 5200)),
  some (.inr (0, 6)),
  some (.inr (1, 700)),
  some (.inr (1, 700)),
  some (.inr (0, 60)),
  some (.inr (0, 60)),
  some (.inr (0, 60)),
  some (.inr (0, 60)),
  some (.inr (0, 60)),
  some (.inr (0, 60)),
  some (.inr (0, 720)),
  some (.inr (0, 720)),
  some (.inr (0, 24)),
  some (.inr (0, 24)),
  some (.inr (0, 30)),
  some (.inr (0, 24)),
  some (.inr (2, 30)),
  some (.inr (2, 24)),
  some (.inr (0, 6)),
  some (.inr (0, 6)),
  some (.inr (0, 6)),
  some (.inr (0, 6)),
  some (.inr (0, 6)),
  some (.inr (0, 6)),
  some (.inr (0, 6)),
  some (.inr (0, 6)),
  some (.inr (0, 60)),
  some (.inr (0, 60)),
  some (.inr (0, 60)),
  some (.inr (2, 60)),
  some (.inr (0, 30))]
def shp (a : Nat) : Option aSh := (shl[a]?).join
def fv1 (A : aA) (x : Int) : aF → am_V
  | none => am_i (wz x)
  | some (.inl r) => am_r r
  | some (.inr q) => am_r (some (A q.1 q.2))
def fvs (A : aA) (g : Int → Int) : Int → List aF → List am_V
  | _, [] => []
  | k, f :: fs => fv1 A (g k) f :: fvs A g (k + 1) fs
def mkS (A : aA) (g : Int → Int) : aSh → am_Ce
  | .inl q => .inl (q.1, fvs A g 0 q.2)
  | .inr q => .inr (.inl (q.1, q.2, fun i => wz (g i)))
/-- the fields of a thing that is no row: none an int; 0 its own thing, 1 the thing of that number, 2 its own or null, 3 its list -/
def tfs : Nat → Option (Nat × List (Option (Nat × Nat)))
  | 0 => some (0, [none, some (0, 1), none])
  | 10 => some (9, [none, none, none, none, some (0, 20)])
  | 11 => some (5, [none, none, none, none, none, none, none, none, some (0, 21)])
  | 12 => some (11, [none, none, none, none, none, none])
  | 13 => some (1, [some (1, 10), some (1, 11), none, none])
  | 14 => some (8, [none, none, some (3, 0), some (0, 23), some (0, 24), some (0, 25), none, none, none, none, none, none])
  | 15 => some (6, [none, some (1, 10), some (1, 11), none, none, none, none, none, none, none, none])
  | 16 => some (10, [none, none, none, none, none, some (2, 22)])
  | _ => none
def ety (l : Int) : Nat := if l = 0 then 10 else if l = 1 then 11 else if l = 2 then 12 else if l = 3 then 13 else if l = 4 then 14 else if l = 5 then 15 else 16
def ebs (l : Int) : Int := if l < 8 then 0 else 64 * (l - 8)
/-- the value of a field that is a reference -/
def tvr (A : aA) (i x : Int) : Nat × Nat → Option Nat
  | (0, u) => some (A u i)
  | (1, u) => some (A u x)
  | (3, u) => some (A u (8 + i))
  | (_, u) => if x = 0 then none else some (A u i)
def tv1 (A : aA) (i x : Int) : Option (Nat × Nat) → am_V
  | none => am_i (wz x)
  | some m => am_r (tvr A i x m)
def tvs (A : aA) (D : aD) (i : Int) : Nat → List (Option (Nat × Nat)) → List am_V
  | _, [] => []
  | c, f :: fs => tv1 A i (D c i) f :: tvs A D i (c + 1) fs
def mkT (A : aA) (D : aD) (t : Nat) (i : Int) : am_Ce := match tfs t with
  | some q => .inl (q.1, tvs A D i (1000 + 100 * t) q.2)
  | none => if t = 1 then .inr (.inr (0, (D 1100 i).toNat, fun k => if (k : Int) < D 1002 i then some (A (ety i) (ebs i + k)) else none))
    else if t = 2 then .inr (.inr (if i = 0 then 5 else 9, 6, fun k => if i = 0 then (if D 1200 k < 0 then none else some (A 11 (D 1200 k))) else if i = 1 then (if D 1201 k < 0 then none else some (A 10 (D 1201 k))) else none))
    else .inr (.inl (0, (D (1000 + 100 * t) i).toNat, fun k => if k < 1024 then wz (D (1001 + 100 * t) (1024 * i + k)) else 0))
def sts : List (List Int) := [[102, 101, 101, 32, 110, 111, 116, 105, 99, 101, 32, 98, 97, 99, 107, 32, 97, 103, 101, 32, 108, 101, 97, 115, 116, 32, 98, 97, 114, 32, 115, 116, 101, 112, 32, 98, 111, 120, 32, 104, 97, 98, 105, 116], [104, 111, 117, 115, 101, 32, 115, 101, 114, 118, 97, 110, 116], [119, 105, 116, 104, 105, 110], [107, 105, 116, 99, 104, 101, 110, 32, 104, 111, 117, 115, 101, 32, 110, 117, 114, 115, 101, 32, 99, 111, 111, 107, 32, 99, 111, 97, 99, 104, 32, 98, 117, 116, 108, 101, 114], [99, 104, 117, 114, 99, 104], [97, 102, 116, 101, 114], [105, 102], [110, 111, 116], [119, 97, 103, 101, 32, 112, 111, 115, 116, 32, 116, 111, 119, 110, 32, 97, 103, 101, 32, 115, 107, 105, 108, 108, 115, 32, 100, 97, 121], [60, 62, 61], [97, 110, 100], [111, 114]]
/-- a byte of a text -/
def stc (k : Nat) (i : Int) : Int := ((sts.getD k []).getD i.toNat 0)
def stn (k : Nat) : Int := (sts.getD k []).length
def odc (k : Nat) : am_Ce := .inl (50, [am_r (some (16 + k)), am_i 0])
def odb (k : Nat) : am_Ce := .inr (.inl (1, (sts.getD k []).length, fun j => wz (stc k j)))
def odx : am_Ce := .inl (99, [])
def odl : List am_Ce := [odx, .inr (.inr (0, 0, fun _ => none)), odx, odx, odc 0, odc 1, odc 2, odc 3, odc 4, odc 5, odc 6, odc 7, odc 8, odc 9, odc 10, odc 11, odb 0, odb 1, odb 2, odb 3, odb 4, odb 5, odb 6, odb 7, odb 8, odb 9, odb 10, odb 11, odx, odx, odx, odx]
def Cl (A : aA) (D : aD) : Prop :=
  (∀ l, D 900 l = 1 → 0 ≤ D 1002 l ∧ D 1002 l ≤ 1000 ∧ ((D 901 l = 1 ∧ D 1002 l ≤ D 1100 l ∧ D 1100 l ≤ 65536) ∨ (A 1 l = 1 ∧ D 901 l ≠ 1 ∧ D 1002 l = 0))) ∧
  (∀ l i, D 900 l = 1 → 0 ≤ i → i < D 1002 l → D (900 + ety l) (ebs l + i) = 1) ∧
  (∀ i, D 910 i = 1 → D 920 i = 1) ∧ (∀ i, D 911 i = 1 → D 921 i = 1) ∧
  (∀ i, D 913 i = 1 → D 910 (D 2300 i) = 1 ∧ D 911 (D 2301 i) = 1) ∧
  (∀ i, D 914 i = 1 → D 900 (8 + i) = 1 ∧ D 923 i = 1 ∧ D 924 i = 1 ∧ D 925 i = 1) ∧
  (∀ i, D 915 i = 1 → D 910 (D 2501 i) = 1 ∧ D 911 (D 2502 i) = 1) ∧
  (∀ i, D 916 i = 1 → D 2605 i = 0 ∨ D 922 i = 1) ∧
  (∀ k, D 1200 k < 0 ∨ D 911 (D 1200 k) = 1) ∧ (∀ k, D 1201 k < 0 ∨ D 910 (D 1201 k) = 1) ∧
  (∀ t i, 20 ≤ t → t ≤ 25 → D (900 + t) i = 1 → 0 ≤ D (1000 + 100 * t) i ∧ D (1000 + 100 * t) i ≤ 1024) ∧
  (D 900 0 = 1 ∧ D 900 1 = 1 ∧ D 900 2 = 1 ∧ D 900 3 = 1 ∧ D 900 4 = 1 ∧ D 900 5 = 1 ∧ D 900 16 = 1 ∧ D 902 0 = 1 ∧ D 902 1 = 1 ∧ D 914 8 = 1 ∧ D 923 8 = 1 ∧ D 924 8 = 1 ∧ D 925 8 = 1)
def Rp0 (A : aA) (D : aD) (s : am_S) : Prop :=
  (s.1[0]? = some (.inr (.inl (0, (D 1 0).toNat, fun i => wz (D 0 i)))) ∧ ∀ a c, 1 ≤ a → odl[a]? = some c → s.1[a]? = some c) ∧
  (∀ a sh, shp a = some sh → s.1[a]? = some (mkS A (D a) sh)) ∧
  (∀ t i, t < 50 → D (900 + t) i = 1 → s.1[A t i]? = some (mkT A D t i) ∧ 32 ≤ A t i ∧ shp (A t i) = none) ∧
  (∀ t i t' i', t < 50 → t' < 50 → D (900 + t) i = 1 → D (900 + t') i' = 1 → A t i = A t' i' → t = t' ∧ i = i') ∧
  (D 950 0 = s.1.length ∧ D 951 0 = s.2) ∧ Cl A D
def lev : Nat → Nat
  | 35 => 1
  | 49 => 1
  | 52 => 1
  | 54 => 1
  | 55 => 1
  | 56 => 1
  | 57 => 1
  | 58 => 1
  | 59 => 1
  | 60 => 1
  | 61 => 1
  | 67 => 1
  | 68 => 1
  | 69 => 1
  | 105 => 2
  | 107 => 1
  | 117 => 1
  | 118 => 1
  | 119 => 1
  | 120 => 1
  | 121 => 1
  | 122 => 1
  | 123 => 1
  | 128 => 1
  | 129 => 1
  | 3401 => 2
  | 3501 => 1
  | _ => 0
def mxx (n : Nat) (D F : aD) : aD := fun c i => if Nat.ble (lev c) n = true then D c i else F c i
def Rp (n : Nat) (A : aA) (D : aD) (s : am_S) : Prop := (∀ c i, rg (D c i)) ∧ ∃ F, Rp0 A (mxx n D F) s
theorem mxx_v {n : Nat} {D F : aD} {c : Nat} {i : Int} (h : Nat.ble (lev c) n = true) : mxx n D F c i = D c i := if_pos h
theorem mxx_vf {n : Nat} {D F : aD} {c : Nat} (h : Nat.ble (lev c) n = true) : mxx n D F c = D c := funext fun _ => mxx_v h
theorem mxx_up {n : Nat} {D F : aD} {c : Nat} {i v : Int} (h : Nat.ble (lev c) n = true) : mxx n (up D c i v) F = up (mxx n D F) c i v := by
  funext c' i'
  unfold mxx up
  by_cases e : c' = c ∧ i' = i
  · obtain ⟨rfl, rfl⟩ := e
    simp [h]
  · simp [e]
theorem rg_up {D : aD} (h : ∀ c i, rg (D c i)) {c : Nat} {i v : Int} (hv : rg v) : ∀ c' i', rg (up D c i v c' i') := by
  intro c' i'; unfold up; split
  · exact hv
  · exact h _ _
set_option maxRecDepth 100000 in
theorem shp_ge {a : Nat} {sh : aSh} (h : shp a = some sh) : 32 ≤ a ∧ a < 900 := by
  unfold shp at h
  cases hz : shl[a]? with
  | none => rw [hz] at h; cases h
  | some z =>
    have hl : a < shl.length := (List.getElem?_eq_some_iff.mp hz).1
    refine ⟨?_, Nat.lt_trans hl (by decide)⟩
    rcases Nat.lt_or_ge a 32 with q | q
    · exfalso
      have : ∀ k, k < 32 → (shl[k]?).join = none := by decide
      rw [this a q] at h; cases h
    · exact q
theorem tvs_cg {A : aA} {D D' : aD} {i : Int} {fs : List (Option (Nat × Nat))} : ∀ {c : Nat}, (∀ k, k < fs.length → D' (c + k) i = D (c + k) i) → tvs A D' i c fs = tvs A D i c fs := by
  induction fs with
  | nil => intro c h; rfl
  | cons f fs ih =>
    intro c h
    have h0 : D' c i = D c i := h 0 (by simp)
    have h1 : tvs A D' i (c + 1) fs = tvs A D i (c + 1) fs := ih (fun k hk => by have := h (k + 1) (by simp; omega); rwa [show c + (k + 1) = c + 1 + k by omega] at this)
    show tv1 A i (D' c i) f :: _ = tv1 A i (D c i) f :: _
    rw [h1, h0]
theorem tfs_len {t : Nat} {q : Nat × List (Option (Nat × Nat))} (h : tfs t = some q) : q.2.length ≤ 50 ∧ t < 50 ∧ t ≠ 1 ∧ t ≠ 2 := by
  unfold tfs at h
  split at h <;> first | (cases h; done) | (cases h; decide)
/-- what of the ints a thing shows -/
theorem mkT_cg {A : aA} {D D' : aD} {t : Nat} {i : Int} (h : tfs t ≠ none → ∀ c, 1000 + 100 * t ≤ c → c < 1050 + 100 * t → D' c i = D c i) (hl : tfs t = none → D' (1000 + 100 * t) i = D (1000 + 100 * t) i) (h1 : t = 1 → D' 1002 i = D 1002 i) (h2 : t = 2 → ∀ k, D' 1200 k = D 1200 k ∧ D' 1201 k = D 1201 k) (h3 : 3 ≤ t → tfs t = none → ∀ k : Nat, k < 1024 → D' (1001 + 100 * t) (1024 * i + k) = D (1001 + 100 * t) (1024 * i + k)) : mkT A D' t i = mkT A D t i := by
  unfold mkT
  cases hq : tfs t with
  | some q =>
    have := tfs_len hq
    simp only
    rw [tvs_cg (D' := D') (D := D)]
    intro k hk
    exact h (by rw [hq]; exact Option.some_ne_none _) _ (by omega) (by omega)
  | none =>
    simp only
    by_cases e1 : t = 1
    · have e := hl hq
      rw [e1] at e
      simp only [Nat.reduceMul, Nat.reduceAdd] at e
      rw [if_pos e1, if_pos e1, e, h1 e1]
    · rw [if_neg e1, if_neg e1]
      by_cases e2 : t = 2
      · have := h2 e2
        rw [if_pos e2, if_pos e2]
        simp only [(this _).1, (this _).2]
      · have h0 : t ≠ 0 := by rintro rfl; cases hq
        rw [if_neg e2, if_neg e2, hl hq]
        congr 4
        funext k
        by_cases hk : k < 1024
        · rw [if_pos hk, if_pos hk, h3 (by omega) hq k hk]
        · rw [if_neg hk, if_neg hk]
def clu (c : Nat) : Prop := (900 ≤ c ∧ c < 950) ∨ c = 1002 ∨ c = 1100 ∨ c = 1200 ∨ c = 1201 ∨ c = 2300 ∨ c = 2301 ∨ c = 2501 ∨ c = 2502 ∨ c = 2605 ∨ c = 3000 ∨ c = 3100 ∨ c = 3200 ∨ c = 3300 ∨ c = 3400 ∨ c = 3500
theorem ety_le (l : Int) : ety l ≤ 16 := by unfold ety; repeat' split <;> try omega
theorem Cl_cg {A : aA} {D D' : aD} (h : ∀ c, clu c → D' c = D c) (H : Cl A D) : Cl A D' := by
  have e : ∀ t : Nat, t < 50 → D' (900 + t) = D (900 + t) := fun t ht => h _ (by unfold clu; omega)
  have q := fun c hc => h c hc
  unfold Cl at *
  simp only [h 900 (by unfold clu; omega), h 901 (by unfold clu; omega), h 902 (by unfold clu; omega), h 1002 (by unfold clu; omega), h 1100 (by unfold clu; omega), h 910 (by unfold clu; omega), h 911 (by unfold clu; omega), h 913 (by unfold clu; omega), h 914 (by unfold clu; omega), h 915 (by unfold clu; omega), h 916 (by unfold clu; omega), h 920 (by unfold clu; omega), h 921 (by unfold clu; omega), h 922 (by unfold clu; omega), h 923 (by unfold clu; omega), h 924 (by unfold clu; omega), h 925 (by unfold clu; omega), h 2300 (by unfold clu; omega), h 2301 (by unfold clu; omega), h 2501 (by unfold clu; omega), h 2502 (by unfold clu; omega), h 2605 (by unfold clu; omega), h 1200 (by unfold clu; omega), h 1201 (by unfold clu; omega)]
  obtain ⟨g1, g2, g3, g4, g5, g6, g7, g8, g9, g10, g11, g12⟩ := H
  refine ⟨g1, fun l i z1 z2 z3 => ?_, g3, g4, g5, g6, g7, g8, g9, g10, fun t i z1 z2 z3 => ?_, g12⟩
  · rw [e _ (by have := ety_le l; omega)]; exact g2 l i z1 z2 z3
  · rw [e _ (by omega)] at z3
    have e2 : D' (1000 + 100 * t) = D (1000 + 100 * t) := h _ (by unfold clu; omega)
    rw [e2]; exact g11 t i z1 z2 z3
theorem tfs_le {t : Nat} {q : Nat × List (Option (Nat × Nat))} (h : tfs t = some q) : t ≤ 16 := by
  unfold tfs at h
  split at h <;> first | (cases h; done) | omega
theorem tfs_int {t k : Nat} {q : Nat × List (Option (Nat × Nat))} (h10 : 10 ≤ t) (h : tfs t = some q) (hk : q.2[k]? = some none) : ¬ clu (1000 + 100 * t + k) := by
  have h1 := tfs_len h
  have h2 := (List.getElem?_eq_some_iff.mp hk).1
  have h3 := tfs_le h
  intro hc
  unfold clu at hc
  have hz : (t = 13 ∧ k = 0) ∨ (t = 13 ∧ k = 1) ∨ (t = 15 ∧ k = 1) ∨ (t = 15 ∧ k = 2) ∨ (t = 16 ∧ k = 5) := by omega
  rcases hz with ⟨rfl, rfl⟩ | ⟨rfl, rfl⟩ | ⟨rfl, rfl⟩ | ⟨rfl, rfl⟩ | ⟨rfl, rfl⟩ <;> (cases h; cases hk)
theorem Rp0_len {A : aA} {D : aD} {s : am_S} {a : Nat} {c : am_Ce} (h : s.1[a]? = some c) : a < s.1.length := (List.getElem?_eq_some_iff.mp h).1
/-- an int of a fixed place is written -/
theorem Rp0_ws {A : aA} {D : aD} {s : am_S} {a : Nat} {sh : aSh} {k v : Int} (H : Rp0 A D s) (hs : shp a = some sh) : Rp0 A (up D a k v) (s.1.set a (mkS A (up D a k v a) sh), s.2) := by
  obtain ⟨ha, hb⟩ := shp_ge hs
  obtain ⟨⟨h1, h1b⟩, h2, h3, h4, ⟨h5, h5b⟩, h6⟩ := H
  have hc : ∀ c, 900 ≤ c → up D a k v c = D c := fun c q => up_cf (by omega)
  have hlt := Rp0_len (A := A) (D := D) (h2 a sh hs)
  refine ⟨⟨?_, ?_⟩, ?_, ?_, ?_, ?_, Cl_cg (fun c q => hc c (by unfold clu at q; omega)) h6⟩
  · show (s.1.set a _)[0]? = _
    rw [List.getElem?_set_ne (by omega), h1, up_cf (c' := 0) (by omega), up_cf (c' := 1) (by omega)]
  · intro b c hb1 hbc
    have : b < 32 := (List.getElem?_eq_some_iff.mp hbc).1
    show (s.1.set a _)[b]? = _
    rw [List.getElem?_set_ne (by omega)]
    exact h1b b c hb1 hbc
  · intro b sh' hb'
    show (s.1.set a _)[b]? = _
    by_cases e : a = b
    · subst e
      rw [hs] at hb'; cases hb'
      rw [List.getElem?_set_self hlt]
    · rw [List.getElem?_set_ne e, h2 b sh' hb', up_cf (c' := b) (Ne.symm e)]
  · intro t i ht hf
    rw [hc _ (by omega)] at hf
    obtain ⟨q1, q2, q3⟩ := h3 t i ht hf
    refine ⟨?_, q2, q3⟩
    show (s.1.set a _)[A t i]? = _
    rw [List.getElem?_set_ne (fun e => by rw [← e, hs] at q3; cases q3), q1]
    rw [mkT_cg (D' := up D a k v) (D := D)]
    · intro _ c q _; rw [hc c (by omega)]
    · intro _; rw [hc _ (by omega)]
    · intro _; rw [hc _ (by omega)]
    · intro _ j; rw [hc 1200 (by omega), hc 1201 (by omega)]; exact ⟨rfl, rfl⟩
    · intro _ _ j _; rw [hc _ (by omega)]
  · intro t i t' i' ht ht' hf hf'
    rw [hc _ (by omega)] at hf hf'
    exact h4 t i t' i' ht ht' hf hf'
  · show up D a k v 950 0 = ((s.1.set a _).length : Int) ∧ up D a k v 951 0 = _
    rw [List.length_set, hc _ (by omega), hc _ (by omega)]
    exact ⟨h5, h5b⟩
/-- an int of a thing is written: a field (e = i), or a place of a row -/
theorem Rp0_wt {A : aA} {D : aD} {s : am_S} {t c : Nat} {i e v : Int} (H : Rp0 A D s) (ht : t < 50) (hf : D (900 + t) i = 1) (h10 : 10 ≤ t)
    (hc : (∃ q k, tfs t = some q ∧ q.2[k]? = some none ∧ c = 1000 + 100 * t + k ∧ e = i) ∨ (∃ k : Nat, tfs t = none ∧ (20 ≤ t ∧ t ≤ 25) ∧ c = 1001 + 100 * t ∧ k < 1024 ∧ e = 1024 * i + k)) :
    Rp0 A (up D c e v) (s.1.set (A t i) (mkT A (up D c e v) t i), s.2) := by
  obtain ⟨⟨h1, h1b⟩, h2, h3, h4, ⟨h5, h5b⟩, h6⟩ := H
  have hcr : 1000 + 100 * t ≤ c ∧ c < 1050 + 100 * t := by
    rcases hc with ⟨q, k, q1, q2, rfl, rfl⟩ | ⟨k, q1, q2, rfl, q3, rfl⟩
    · have := tfs_len q1
      have := (List.getElem?_eq_some_iff.mp q2).1
      omega
    · omega
  have hlo : ∀ b, b < 2000 → up D c e v b = D b := fun b q => up_cf (by omega)
  obtain ⟨q1, q2, q3⟩ := h3 t i ht hf
  have hlt := Rp0_len (A := A) (D := D) q1
  refine ⟨⟨?_, ?_⟩, ?_, ?_, ?_, ?_, ?_⟩
  · show (s.1.set _ _)[0]? = _
    rw [List.getElem?_set_ne (by omega), h1, hlo 0 (by omega), hlo 1 (by omega)]
  · intro b c' hb1 hbc
    have : b < 32 := (List.getElem?_eq_some_iff.mp hbc).1
    show (s.1.set _ _)[b]? = _
    rw [List.getElem?_set_ne (by omega)]
    exact h1b b c' hb1 hbc
  · intro b sh' hb'
    show (s.1.set _ _)[b]? = _
    have := shp_ge hb'
    rw [List.getElem?_set_ne (fun e => by rw [e, hb'] at q3; cases q3), h2 b sh' hb', hlo b (by omega)]
  · intro t' i' ht' hf'
    rw [hlo _ (by omega)] at hf'
    obtain ⟨r1, r2, r3⟩ := h3 t' i' ht' hf'
    refine ⟨?_, r2, r3⟩
    show (s.1.set _ _)[A t' i']? = _
    by_cases ee : A t i = A t' i'
    · obtain ⟨rfl, rfl⟩ := h4 t i t' i' ht ht' hf hf' ee
      rw [List.getElem?_set_self hlt]
    · rw [List.getElem?_set_ne ee, r1]
      have hne : ¬ (t = t' ∧ i = i') := fun z => ee (by rw [z.1, z.2])
      rw [mkT_cg (D' := up D c e v) (D := D)]
      · intro z0 c' z1 z2
        by_cases et : t = t'
        · have hi : i ≠ i' := fun z => hne ⟨et, z⟩
          subst et
          rcases hc with ⟨q, k, w1, w2, rfl, rfl⟩ | ⟨k, w1, w2, rfl, w3, rfl⟩
          · exact up_i (Ne.symm hi)
          · exact absurd w1 z0
        · exact up_c (by omega)
      · intro z0
        rcases hc with ⟨q, k, w1, w2, rfl, rfl⟩ | ⟨k, w1, w2, rfl, w3, rfl⟩
        · by_cases et : t = t'
          · subst et; rw [w1] at z0; cases z0
          · exact up_c (by omega)
        · exact up_c (by omega)
      · intro _; rw [hlo _ (by omega)]
      · intro _ j; rw [hlo 1200 (by omega), hlo 1201 (by omega)]; exact ⟨rfl, rfl⟩
      · intro z1 z2 j hj
        by_cases et : t = t'
        · have hi : i ≠ i' := fun z => hne ⟨et, z⟩
          subst et
          rcases hc with ⟨q, k, w1, w2, rfl, rfl⟩ | ⟨k, w1, w2, rfl, w3, rfl⟩
          · rw [w1] at z2; cases z2
          · exact up_i (by omega)
        · exact up_c (by omega)
  · intro t1 i1 t2 i2 ht1 ht2 hf1 hf2
    rw [hlo _ (by omega)] at hf1 hf2
    exact h4 t1 i1 t2 i2 ht1 ht2 hf1 hf2
  · show up D c e v 950 0 = ((s.1.set _ _).length : Int) ∧ up D c e v 951 0 = _
    rw [List.length_set, hlo _ (by omega), hlo _ (by omega)]
    exact ⟨h5, h5b⟩
  · refine Cl_cg (fun c' q => up_cf ?_) h6
    rintro rfl
    rcases hc with ⟨q', k, w1, w2, rfl, rfl⟩ | ⟨k, w1, w2, rfl, w3, rfl⟩
    · exact tfs_int h10 w1 w2 q
    · unfold clu at q; omega
