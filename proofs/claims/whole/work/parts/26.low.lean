/-! Flags stay; loops downwards; folds and searches; the methods without loops that rest on nothing else. -/
theorem fl_if {c : Prop} [Decidable c] {a b D : aD} {k : Nat} {i : Int} (h1 : a k i = D k i) (h2 : b k i = D k i) : (if c then a else b) k i = D k i := by
  by_cases h : c
  · rw [if_pos h]; exact h1
  · rw [if_neg h]; exact h2
theorem fl_ne {c t : Nat} (h : (Nat.ble 950 c || Nat.ble c 899) = true) (ht : Nat.ble t 49 = true) : 900 + t ≠ c := by
  have h1 := Nat.le_of_ble_eq_true ht
  rcases Bool.or_eq_true _ _ |>.mp h with q | q
  · have := Nat.le_of_ble_eq_true q; omega
  · have := Nat.le_of_ble_eq_true q; omega
theorem fil_f {D : aD} {a m c : Nat} {v i : Int} (h : c ≠ a) : fil D a m v c i = D c i := if_neg (fun e => h e.1)
theorem dn_ind {K : Int → Prop} {lo N : Int} (hN : K N) (hs : ∀ j, lo ≤ j → j < N → K (j + 1) → K j) : ∀ j, lo ≤ j → j ≤ N → K j := by
  have key : ∀ (m : Nat) (j : Int), lo ≤ j → j + m = N → K j := by
    intro m
    induction m with
    | zero => intro j _ h; have : j = N := by omega
              rw [this]; exact hN
    | succ m ih => intro j h0 h; exact hs j h0 (by omega) (ih (j + 1) (by omega) (by omega))
  intro j h0 h1
  exact key (N - j).toNat j h0 (by omega)
/-- a fold over 0, 1, .. -/
def fo {α : Type} (f : α → Int → α) (b : α) : Nat → α
  | 0 => b
  | n + 1 => f (fo f b n) (n : Int)
def foi {α : Type} (f : α → Int → α) (b : α) (j : Int) : α := fo f b j.toNat
theorem foi_0 {α : Type} {f : α → Int → α} {b : α} : foi f b 0 = b := rfl
theorem foi_s {α : Type} {f : α → Int → α} {b : α} {j : Int} (h : 0 ≤ j) : foi f b (j + 1) = f (foi f b j) j := by
  unfold foi
  rw [show (j + 1).toNat = j.toNat + 1 by omega]
  show f (fo f b j.toNat) ((j.toNat : Nat) : Int) = _
  rw [Int.toNat_of_nonneg h]
theorem foi_ind {α : Type} {f : α → Int → α} {b : α} {Q : Int → α → Prop} (h0 : Q 0 b) {N : Int} (hs : ∀ j x, 0 ≤ j → j < N → Q j x → Q (j + 1) (f x j)) : ∀ j, 0 ≤ j → j ≤ N → Q j (foi f b j) := by
  have key : ∀ m : Nat, (m : Int) ≤ N → Q m (foi f b m) := by
    intro m
    induction m with
    | zero => intro _; exact h0
    | succ m ih =>
      intro h
      have := hs m _ (by omega) (by omega) (ih (by omega))
      rw [← foi_s (f := f) (b := b) (j := (m : Int)) (by omega)] at this
      exact this
  intro j h1 h2
  have := key j.toNat (by omega)
  rwa [Int.toNat_of_nonneg h1] at this
theorem foi_cg {α : Type} {f g : α → Int → α} {b : α} {N : Int} (h : ∀ j x, 0 ≤ j → j < N → f x j = g x j) : ∀ j, 0 ≤ j → j ≤ N → foi f b j = foi g b j :=
  foi_ind (Q := fun j x => x = foi g b j) rfl (fun j x h0 h1 e => by rw [foi_s h0, ← e]; exact h j x h0 h1)
/-- the first from j to N with p; -1: none -/
def fsn (p : Int → Bool) : Nat → Int → Int
  | 0, _ => -1
  | m + 1, j => if p j = true then j else fsn p m (j + 1)
def fsi (p : Int → Bool) (j N : Int) : Int := fsn p (N - j).toNat j
theorem fsi_end {p : Int → Bool} {j N : Int} (h : N ≤ j) : fsi p j N = -1 := by
  unfold fsi; rw [show (N - j).toNat = 0 by omega]; rfl
theorem fsi_s {p : Int → Bool} {j N : Int} (h : j < N) : fsi p j N = if p j = true then j else fsi p (j + 1) N := by
  unfold fsi; rw [show (N - j).toNat = (N - (j + 1)).toNat + 1 by omega]; rfl
theorem fsi_t {p : Int → Bool} {j N : Int} (h : j < N) (hp : p j = true) : fsi p j N = j := by rw [fsi_s h, if_pos hp]
theorem fsi_f {p : Int → Bool} {j N : Int} (h : j < N) (hp : p j = false) : fsi p j N = fsi p (j + 1) N := by rw [fsi_s h, hp]; rfl
theorem fsi_spec {p : Int → Bool} {N : Int} : ∀ j, (fsi p j N = -1 ∧ ∀ i, j ≤ i → i < N → p i = false) ∨ (j ≤ fsi p j N ∧ fsi p j N < N ∧ p (fsi p j N) = true ∧ ∀ i, j ≤ i → i < fsi p j N → p i = false) := by
  have key : ∀ (m : Nat) (j : Int), (N - j).toNat = m → (fsi p j N = -1 ∧ ∀ i, j ≤ i → i < N → p i = false) ∨ (j ≤ fsi p j N ∧ fsi p j N < N ∧ p (fsi p j N) = true ∧ ∀ i, j ≤ i → i < fsi p j N → p i = false) := by
    intro m
    induction m with
    | zero => intro j h; exact Or.inl ⟨fsi_end (by omega), fun i h1 h2 => by omega⟩
    | succ m ih =>
      intro j h
      by_cases hp : p j = true
      · rw [fsi_t (by omega) hp]
        exact Or.inr ⟨by omega, by omega, hp, fun i h1 h2 => by omega⟩
      · have hp' : p j = false := by simpa using hp
        rw [fsi_f (by omega) hp']
        rcases ih (j + 1) (by omega) with ⟨h1, h2⟩ | ⟨h1, h2, h3, h4⟩
        · refine Or.inl ⟨h1, fun i h3 h4 => ?_⟩
          by_cases e : i = j
          · rw [e]; exact hp'
          · exact h2 i (by omega) h4
        · refine Or.inr ⟨by omega, h2, h3, fun i h5 h6 => ?_⟩
          by_cases e : i = j
          · rw [e]; exact hp'
          · exact h4 i (by omega) h6
  exact fun j => key _ j rfl
theorem fsi_cg {p p' : Int → Bool} {j N : Int} (h : ∀ i, j ≤ i → i < N → p i = p' i) : fsi p j N = fsi p' j N := by
  have key : ∀ (m : Nat) (j : Int), (N - j).toNat = m → (∀ i, j ≤ i → i < N → p i = p' i) → fsi p j N = fsi p' j N := by
    intro m
    induction m with
    | zero => intro j h _; rw [fsi_end (by omega), fsi_end (by omega)]
    | succ m ih => intro j h hc; rw [fsi_s (p := p) (j := j) (by omega), fsi_s (p := p') (j := j) (by omega), hc j (by omega) (by omega), ih (j + 1) (by omega) (fun i h1 h2 => hc i (by omega) h2)]
  exact key _ j rfl h
theorem fsi_rg {p : Int → Bool} {j N : Int} (h : -1 ≤ N) (h2 : N ≤ 100000) (h3 : 0 ≤ j) : rg (fsi p j N) := by
  unfold rg
  rcases fsi_spec (p := p) (N := N) j with h | h <;> omega
theorem wr1 {a N : Int} (h0 : 0 ≤ a) (h1 : a < N) (h2 : N ≤ 100000) : wr (a + 1) = a + 1 := wr_id (by omega) (by omega)
theorem rgb {a : Int} (h0 : -1000000000 ≤ a) (h1 : a ≤ 1000000000) : rg a := ⟨by omega, by omega⟩
abbrev P_X11_between : Nat → Option am_E := am_fy tb_X11_between
def v_X11_between (D : aD) (a0 : Int) (a1 : Int) (a2 : Int) : Int := if a0 < a1 then 0 else if a2 < a0 then 0 else 1
theorem b_X11_between (D : aD) (a0 : Int) (a1 : Int) (a2 : Int) : 0 ≤ v_X11_between D a0 a1 a2 ∧ v_X11_between D a0 a1 a2 ≤ 1 := b01 (fun c1 => ⟨by decide, by decide⟩) (fun c1 => b01 (fun c2 => ⟨by decide, by decide⟩) (fun c2 => ⟨by decide, by decide⟩))
set_option maxRecDepth 100000 in
theorem ev_X11_between {n : Nat} {A : aA} {D : aD} (a0 : Int) (a1 : Int) (a2 : Int) (h0 : rg a0) (h1 : rg a1) (h2 : rg a2) : Ev (n) 1 107 [am_i (wz a0), am_i (wz a1), am_i (wz a2)] A D (ri (v_X11_between D a0 a1 a2)) A D := by
  unfold v_X11_between
  refine Ev_of (c := 0) (P := P_X11_between) (lo := [some (am_i (wz a0)), some (am_i (wz a1)), some (am_i (wz a2))]) rfl rfl rfl (fun d hd s hr => ?_)
  refine ok (m_iload_n (q := 1) rfl rfl rfl rfl) ?_
  refine ok (m_iload_n (q := 2) rfl rfl rfl rfl) ?_
  refine okp (m_cmplt (qt := 14) (qf := 5) rfl rfl h0 h1 rfl rfl) (fun c1 => ?_) (fun c1 => ?_)
  · refine ok (m_iconst (q := 15) rfl rfl rfl) ?_
    exact ok (m_retb rfl rfl ⟨by decide, by decide⟩) (ok_i hr ⟨by decide, by decide⟩)
  · refine ok (m_iload_n (q := 6) rfl rfl rfl rfl) ?_
    refine ok (m_iload_n (q := 7) rfl rfl rfl rfl) ?_
    refine okp (m_cmpgt (qt := 14) (qf := 10) rfl rfl h0 h2 rfl rfl) (fun c2 => ?_) (fun c2 => ?_)
    · refine ok (m_iconst (q := 15) rfl rfl rfl) ?_
      exact ok (m_retb rfl rfl ⟨by decide, by decide⟩) (ok_i hr ⟨by decide, by decide⟩)
    · refine ok (m_iconst (q := 11) rfl rfl rfl) ?_
      refine ok (m_goto (q := 15) rfl rfl rfl) ?_
      exact ok (m_retb rfl rfl ⟨by decide, by decide⟩) (ok_i hr ⟨by decide, by decide⟩)
abbrev P_X12_isIn : Nat → Option am_E := am_fy tb_X12_isIn
def v_X12_isIn (D : aD) (a0 : Int) (a1 : Int) (a2 : Int) : Int := if a0 < a1 then 0 else if a2 < a0 then 0 else 1
theorem b_X12_isIn (D : aD) (a0 : Int) (a1 : Int) (a2 : Int) : 0 ≤ v_X12_isIn D a0 a1 a2 ∧ v_X12_isIn D a0 a1 a2 ≤ 1 := b01 (fun c1 => ⟨by decide, by decide⟩) (fun c1 => b01 (fun c2 => ⟨by decide, by decide⟩) (fun c2 => ⟨by decide, by decide⟩))
set_option maxRecDepth 100000 in
theorem ev_X12_isIn {n : Nat} {A : aA} {D : aD} (a0 : Int) (a1 : Int) (a2 : Int) (h0 : rg a0) (h1 : rg a1) (h2 : rg a2) : Ev (n) 1 121 [am_i (wz a0), am_i (wz a1), am_i (wz a2)] A D (ri (v_X12_isIn D a0 a1 a2)) A D := by
  unfold v_X12_isIn
  refine Ev_of (c := 0) (P := P_X12_isIn) (lo := [some (am_i (wz a0)), some (am_i (wz a1)), some (am_i (wz a2))]) rfl rfl rfl (fun d hd s hr => ?_)
  refine ok (m_iload_n (q := 1) rfl rfl rfl rfl) ?_
  refine ok (m_iload_n (q := 2) rfl rfl rfl rfl) ?_
  refine okp (m_cmplt (qt := 14) (qf := 5) rfl rfl h0 h1 rfl rfl) (fun c1 => ?_) (fun c1 => ?_)
  · refine ok (m_iconst (q := 15) rfl rfl rfl) ?_
    exact ok (m_retb rfl rfl ⟨by decide, by decide⟩) (ok_i hr ⟨by decide, by decide⟩)
  · refine ok (m_iload_n (q := 6) rfl rfl rfl rfl) ?_
    refine ok (m_iload_n (q := 7) rfl rfl rfl rfl) ?_
    refine okp (m_cmpgt (qt := 14) (qf := 10) rfl rfl h0 h2 rfl rfl) (fun c2 => ?_) (fun c2 => ?_)
    · refine ok (m_iconst (q := 15) rfl rfl rfl) ?_
      exact ok (m_retb rfl rfl ⟨by decide, by decide⟩) (ok_i hr ⟨by decide, by decide⟩)
    · refine ok (m_iconst (q := 11) rfl rfl rfl) ?_
      refine ok (m_goto (q := 15) rfl rfl rfl) ?_
      exact ok (m_retb rfl rfl ⟨by decide, by decide⟩) (ok_i hr ⟨by decide, by decide⟩)
abbrev P_X11_isDay : Nat → Option am_E := am_fy tb_X11_isDay
def v_X11_isDay (D : aD) (a0 : Int) : Int := v_X11_between D a0 0 999
theorem b_X11_isDay (D : aD) (a0 : Int) : 0 ≤ v_X11_isDay D a0 ∧ v_X11_isDay D a0 ≤ 1 := (b_X11_between D a0 0 999)
set_option maxRecDepth 100000 in
theorem ev_X11_isDay {n : Nat} {A : aA} {D : aD} (a0 : Int) (h0 : rg a0) : Ev (n) 2 108 [am_i (wz a0)] A D (ri (v_X11_isDay D a0)) A D := by
  unfold v_X11_isDay
  refine Ev_of (c := 1) (P := P_X11_isDay) (lo := [some (am_i (wz a0))]) rfl rfl rfl (fun d hd s hr => ?_)
  refine ok (m_iload_n (q := 1) rfl rfl rfl rfl) ?_
  refine ok (m_iconst (q := 2) rfl rfl rfl) ?_
  refine ok (m_sipush (q := 5) rfl rfl rfl) ?_
  refine oke (e_ci (x_cs (q := 8) rfl rfl rfl rfl rfl rfl rfl rfl rfl) (ev_X11_between (D := D) a0 0 999 h0 ⟨by decide, by decide⟩ ⟨by decide, by decide⟩) (Nat.le_trans (by decide) hd) hr) (fun s1 r2 => ?_)
  exact ok (m_retb rfl rfl (b_X11_between D a0 0 999)) (ok_i r2 (Ev_rg (ev_X11_between (D := D) a0 0 999 h0 ⟨by decide, by decide⟩ ⟨by decide, by decide⟩) hr))
abbrev P_X12_isDay : Nat → Option am_E := am_fy tb_X12_isDay
def v_X12_isDay (D : aD) (a0 : Int) : Int := v_X12_isIn D a0 0 999
theorem b_X12_isDay (D : aD) (a0 : Int) : 0 ≤ v_X12_isDay D a0 ∧ v_X12_isDay D a0 ≤ 1 := (b_X12_isIn D a0 0 999)
set_option maxRecDepth 100000 in
theorem ev_X12_isDay {n : Nat} {A : aA} {D : aD} (a0 : Int) (h0 : rg a0) : Ev (n) 2 123 [am_i (wz a0)] A D (ri (v_X12_isDay D a0)) A D := by
  unfold v_X12_isDay
  refine Ev_of (c := 1) (P := P_X12_isDay) (lo := [some (am_i (wz a0))]) rfl rfl rfl (fun d hd s hr => ?_)
  refine ok (m_iload_n (q := 1) rfl rfl rfl rfl) ?_
  refine ok (m_iconst (q := 2) rfl rfl rfl) ?_
  refine ok (m_sipush (q := 5) rfl rfl rfl) ?_
  refine oke (e_ci (x_cs (q := 8) rfl rfl rfl rfl rfl rfl rfl rfl rfl) (ev_X12_isIn (D := D) a0 0 999 h0 ⟨by decide, by decide⟩ ⟨by decide, by decide⟩) (Nat.le_trans (by decide) hd) hr) (fun s1 r2 => ?_)
  exact ok (m_retb rfl rfl (b_X12_isIn D a0 0 999)) (ok_i r2 (Ev_rg (ev_X12_isIn (D := D) a0 0 999 h0 ⟨by decide, by decide⟩ ⟨by decide, by decide⟩) hr))
abbrev P_X11_isHouse : Nat → Option am_E := am_fy tb_X11_isHouse
def v_X11_isHouse (D : aD) (a1 : Int) : Int := v_X11_between D a1 0 (wr ((D 32 15) - 1))
theorem b_X11_isHouse (D : aD) (a1 : Int) : 0 ≤ v_X11_isHouse D a1 ∧ v_X11_isHouse D a1 ≤ 1 := (b_X11_between D a1 0 (wr ((D 32 15) - 1)))
set_option maxRecDepth 100000 in
theorem ev_X11_isHouse {n : Nat} {A : aA} {D : aD} (a1 : Int) (h1 : rg a1) : Ev (n) 2 110 [am_r (some 32), am_i (wz a1)] A D (ri (v_X11_isHouse D a1)) A D := by
  unfold v_X11_isHouse
  refine Ev_of (c := 1) (P := P_X11_isHouse) (lo := [some (am_r (some 32)), some (am_i (wz a1))]) rfl rfl rfl (fun d hd s hr => ?_)
  refine ok (m_iload_n (q := 1) rfl rfl rfl rfl) ?_
  refine ok (m_iconst (q := 2) rfl rfl rfl) ?_
  refine ok (m_aload_n (q := 3) rfl rfl rfl rfl) ?_
  refine ok (m_gfs (z := 15) (q := 6) rfl rfl rfl hr rfl rfl rfl rfl rfl) ?_
  refine ok (m_iconst (q := 7) rfl rfl rfl) ?_
  refine ok (m_isub (q := 8) rfl rfl rfl) ?_
  refine oke (e_ci (x_cs (q := 11) rfl rfl rfl rfl rfl rfl rfl rfl rfl) (ev_X11_between (D := D) a1 0 (wr ((D 32 15) - 1)) h1 ⟨by decide, by decide⟩ (rg_wr _)) (Nat.le_trans (by decide) hd) hr) (fun s1 r2 => ?_)
  exact ok (m_retb rfl rfl (b_X11_between D a1 0 (wr ((D 32 15) - 1)))) (ok_i r2 (Ev_rg (ev_X11_between (D := D) a1 0 (wr ((D 32 15) - 1)) h1 ⟨by decide, by decide⟩ (rg_wr _)) hr))
abbrev P_X12_isHouse : Nat → Option am_E := am_fy tb_X12_isHouse
def v_X12_isHouse (D : aD) (a1 : Int) : Int := v_X12_isIn D a1 0 (wr ((D 70 2) - 1))
theorem b_X12_isHouse (D : aD) (a1 : Int) : 0 ≤ v_X12_isHouse D a1 ∧ v_X12_isHouse D a1 ≤ 1 := (b_X12_isIn D a1 0 (wr ((D 70 2) - 1)))
set_option maxRecDepth 100000 in
theorem ev_X12_isHouse {n : Nat} {A : aA} {D : aD} (a1 : Int) (h1 : rg a1) : Ev (n) 2 125 [am_r (some 70), am_i (wz a1)] A D (ri (v_X12_isHouse D a1)) A D := by
  unfold v_X12_isHouse
  refine Ev_of (c := 1) (P := P_X12_isHouse) (lo := [some (am_r (some 70)), some (am_i (wz a1))]) rfl rfl rfl (fun d hd s hr => ?_)
  refine ok (m_iload_n (q := 1) rfl rfl rfl rfl) ?_
  refine ok (m_iconst (q := 2) rfl rfl rfl) ?_
  refine ok (m_aload_n (q := 3) rfl rfl rfl rfl) ?_
  refine ok (m_gfs (z := 2) (q := 6) rfl rfl rfl hr rfl rfl rfl rfl rfl) ?_
  refine ok (m_iconst (q := 7) rfl rfl rfl) ?_
  refine ok (m_isub (q := 8) rfl rfl rfl) ?_
  refine oke (e_ci (x_cs (q := 11) rfl rfl rfl rfl rfl rfl rfl rfl rfl) (ev_X12_isIn (D := D) a1 0 (wr ((D 70 2) - 1)) h1 ⟨by decide, by decide⟩ (rg_wr _)) (Nat.le_trans (by decide) hd) hr) (fun s1 r2 => ?_)
  exact ok (m_retb rfl rfl (b_X12_isIn D a1 0 (wr ((D 70 2) - 1)))) (ok_i r2 (Ev_rg (ev_X12_isIn (D := D) a1 0 (wr ((D 70 2) - 1)) h1 ⟨by decide, by decide⟩ (rg_wr _)) hr))
abbrev P_X11_isServant : Nat → Option am_E := am_fy tb_X11_isServant
def v_X11_isServant (D : aD) (a1 : Int) : Int := v_X11_between D a1 0 (wr ((D 1002 0) - 1))
theorem b_X11_isServant (D : aD) (a1 : Int) : 0 ≤ v_X11_isServant D a1 ∧ v_X11_isServant D a1 ≤ 1 := (b_X11_between D a1 0 (wr ((D 1002 0) - 1)))
set_option maxRecDepth 100000 in
theorem ev_X11_isServant {n : Nat} {A : aA} {D : aD} (a1 : Int) (h1 : rg a1) : Ev (n) 2 109 [am_r (some 32), am_i (wz a1)] A D (ri (v_X11_isServant D a1)) A D := by
  unfold v_X11_isServant
  refine Ev_of (c := 1) (P := P_X11_isServant) (lo := [some (am_r (some 32)), some (am_i (wz a1))]) rfl rfl rfl (fun d hd s hr => ?_)
  refine ok (m_iload_n (q := 1) rfl rfl rfl rfl) ?_
  refine ok (m_iconst (q := 2) rfl rfl rfl) ?_
  refine ok (m_aload_n (q := 3) rfl rfl rfl rfl) ?_
  have f_1 := Rp_fx0_0 hr
  refine ok (m_gfy (q := 6) rfl rfl rfl hr rfl rfl rfl) ?_
  refine oke (e_ci (x_cv (q := 9) rfl rfl rfl rfl rfl rfl rfl rfl rfl rfl (is_ty hr rfl f_1)) (ev_size 0 f_1) (Nat.le_trans (by decide) hd) hr) (fun s2 r3 => ?_)
  refine ok (m_iconst (q := 10) rfl rfl rfl) ?_
  refine ok (m_isub (q := 11) rfl rfl rfl) ?_
  refine oke (e_ci (x_cs (q := 14) rfl rfl rfl rfl rfl rfl rfl rfl rfl) (ev_X11_between (D := D) a1 0 (wr ((D 1002 0) - 1)) h1 ⟨by decide, by decide⟩ (rg_wr _)) (Nat.le_trans (by decide) hd) r3) (fun s4 r5 => ?_)
  exact ok (m_retb rfl rfl (b_X11_between D a1 0 (wr ((D 1002 0) - 1)))) (ok_i r5 (Ev_rg (ev_X11_between (D := D) a1 0 (wr ((D 1002 0) - 1)) h1 ⟨by decide, by decide⟩ (rg_wr _)) r3))
abbrev P_X12_isServant : Nat → Option am_E := am_fy tb_X12_isServant
def v_X12_isServant (D : aD) (a1 : Int) : Int := v_X12_isIn D a1 0 (wr ((D 70 1) - 1))
theorem b_X12_isServant (D : aD) (a1 : Int) : 0 ≤ v_X12_isServant D a1 ∧ v_X12_isServant D a1 ≤ 1 := (b_X12_isIn D a1 0 (wr ((D 70 1) - 1)))
set_option maxRecDepth 100000 in
theorem ev_X12_isServant {n : Nat} {A : aA} {D : aD} (a1 : Int) (h1 : rg a1) : Ev (n) 2 124 [am_r (some 70), am_i (wz a1)] A D (ri (v_X12_isServant D a1)) A D := by
  unfold v_X12_isServant
  refine Ev_of (c := 1) (P := P_X12_isServant) (lo := [some (am_r (some 70)), some (am_i (wz a1))]) rfl rfl rfl (fun d hd s hr => ?_)
  refine ok (m_iload_n (q := 1) rfl rfl rfl rfl) ?_
  refine ok (m_iconst (q := 2) rfl rfl rfl) ?_
  refine ok (m_aload_n (q := 3) rfl rfl rfl rfl) ?_
  refine ok (m_gfs (z := 1) (q := 6) rfl rfl rfl hr rfl rfl rfl rfl rfl) ?_
  refine ok (m_iconst (q := 7) rfl rfl rfl) ?_
  refine ok (m_isub (q := 8) rfl rfl rfl) ?_
  refine oke (e_ci (x_cs (q := 11) rfl rfl rfl rfl rfl rfl rfl rfl rfl) (ev_X12_isIn (D := D) a1 0 (wr ((D 70 1) - 1)) h1 ⟨by decide, by decide⟩ (rg_wr _)) (Nat.le_trans (by decide) hd) hr) (fun s1 r2 => ?_)
  exact ok (m_retb rfl rfl (b_X12_isIn D a1 0 (wr ((D 70 1) - 1)))) (ok_i r2 (Ev_rg (ev_X12_isIn (D := D) a1 0 (wr ((D 70 1) - 1)) h1 ⟨by decide, by decide⟩ (rg_wr _)) hr))
abbrev P_X11_isPlace : Nat → Option am_E := am_fy tb_X11_isPlace
def v_X11_isPlace (D : aD) (a1 : Int) : Int := v_X11_between D a1 0 (wr ((D 1002 1) - 1))
theorem b_X11_isPlace (D : aD) (a1 : Int) : 0 ≤ v_X11_isPlace D a1 ∧ v_X11_isPlace D a1 ≤ 1 := (b_X11_between D a1 0 (wr ((D 1002 1) - 1)))
set_option maxRecDepth 100000 in
theorem ev_X11_isPlace {n : Nat} {A : aA} {D : aD} (a1 : Int) (h1 : rg a1) : Ev (n) 2 111 [am_r (some 32), am_i (wz a1)] A D (ri (v_X11_isPlace D a1)) A D := by
  unfold v_X11_isPlace
  refine Ev_of (c := 1) (P := P_X11_isPlace) (lo := [some (am_r (some 32)), some (am_i (wz a1))]) rfl rfl rfl (fun d hd s hr => ?_)
  refine ok (m_iload_n (q := 1) rfl rfl rfl rfl) ?_
  refine ok (m_iconst (q := 2) rfl rfl rfl) ?_
  refine ok (m_aload_n (q := 3) rfl rfl rfl rfl) ?_
  have f_1 := Rp_fx0_1 hr
  refine ok (m_gfy (q := 6) rfl rfl rfl hr rfl rfl rfl) ?_
  refine oke (e_ci (x_cv (q := 9) rfl rfl rfl rfl rfl rfl rfl rfl rfl rfl (is_ty hr rfl f_1)) (ev_size 1 f_1) (Nat.le_trans (by decide) hd) hr) (fun s2 r3 => ?_)
  refine ok (m_iconst (q := 10) rfl rfl rfl) ?_
  refine ok (m_isub (q := 11) rfl rfl rfl) ?_
  refine oke (e_ci (x_cs (q := 14) rfl rfl rfl rfl rfl rfl rfl rfl rfl) (ev_X11_between (D := D) a1 0 (wr ((D 1002 1) - 1)) h1 ⟨by decide, by decide⟩ (rg_wr _)) (Nat.le_trans (by decide) hd) r3) (fun s4 r5 => ?_)
  exact ok (m_retb rfl rfl (b_X11_between D a1 0 (wr ((D 1002 1) - 1)))) (ok_i r5 (Ev_rg (ev_X11_between (D := D) a1 0 (wr ((D 1002 1) - 1)) h1 ⟨by decide, by decide⟩ (rg_wr _)) r3))
abbrev P_X12_isPlace : Nat → Option am_E := am_fy tb_X12_isPlace
def v_X12_isPlace (D : aD) (a1 : Int) : Int := v_X12_isIn D a1 0 (wr ((D 70 3) - 1))
theorem b_X12_isPlace (D : aD) (a1 : Int) : 0 ≤ v_X12_isPlace D a1 ∧ v_X12_isPlace D a1 ≤ 1 := (b_X12_isIn D a1 0 (wr ((D 70 3) - 1)))
set_option maxRecDepth 100000 in
theorem ev_X12_isPlace {n : Nat} {A : aA} {D : aD} (a1 : Int) (h1 : rg a1) : Ev (n) 2 126 [am_r (some 70), am_i (wz a1)] A D (ri (v_X12_isPlace D a1)) A D := by
  unfold v_X12_isPlace
  refine Ev_of (c := 1) (P := P_X12_isPlace) (lo := [some (am_r (some 70)), some (am_i (wz a1))]) rfl rfl rfl (fun d hd s hr => ?_)
  refine ok (m_iload_n (q := 1) rfl rfl rfl rfl) ?_
  refine ok (m_iconst (q := 2) rfl rfl rfl) ?_
  refine ok (m_aload_n (q := 3) rfl rfl rfl rfl) ?_
  refine ok (m_gfs (z := 3) (q := 6) rfl rfl rfl hr rfl rfl rfl rfl rfl) ?_
  refine ok (m_iconst (q := 7) rfl rfl rfl) ?_
  refine ok (m_isub (q := 8) rfl rfl rfl) ?_
  refine oke (e_ci (x_cs (q := 11) rfl rfl rfl rfl rfl rfl rfl rfl rfl) (ev_X12_isIn (D := D) a1 0 (wr ((D 70 3) - 1)) h1 ⟨by decide, by decide⟩ (rg_wr _)) (Nat.le_trans (by decide) hd) hr) (fun s1 r2 => ?_)
  exact ok (m_retb rfl rfl (b_X12_isIn D a1 0 (wr ((D 70 3) - 1)))) (ok_i r2 (Ev_rg (ev_X12_isIn (D := D) a1 0 (wr ((D 70 3) - 1)) h1 ⟨by decide, by decide⟩ (rg_wr _)) hr))
abbrev P_X11_isPlacing : Nat → Option am_E := am_fy tb_X11_isPlacing
def v_X11_isPlacing (D : aD) (a1 : Int) : Int := v_X11_between D a1 0 (wr ((D 1002 5) - 1))
theorem b_X11_isPlacing (D : aD) (a1 : Int) : 0 ≤ v_X11_isPlacing D a1 ∧ v_X11_isPlacing D a1 ≤ 1 := (b_X11_between D a1 0 (wr ((D 1002 5) - 1)))
set_option maxRecDepth 100000 in
theorem ev_X11_isPlacing {n : Nat} {A : aA} {D : aD} (a1 : Int) (h1 : rg a1) : Ev (n) 2 112 [am_r (some 32), am_i (wz a1)] A D (ri (v_X11_isPlacing D a1)) A D := by
  unfold v_X11_isPlacing
  refine Ev_of (c := 1) (P := P_X11_isPlacing) (lo := [some (am_r (some 32)), some (am_i (wz a1))]) rfl rfl rfl (fun d hd s hr => ?_)
  refine ok (m_iload_n (q := 1) rfl rfl rfl rfl) ?_
  refine ok (m_iconst (q := 2) rfl rfl rfl) ?_
  refine ok (m_aload_n (q := 3) rfl rfl rfl rfl) ?_
  refine ok (m_gfc (q := 6) rfl rfl rfl hr rfl rfl rfl) ?_
  have f_1 := Rp_fx0_5 hr
  refine ok (m_gfy (q := 9) rfl rfl rfl hr rfl rfl rfl) ?_
  refine oke (e_ci (x_cv (q := 12) rfl rfl rfl rfl rfl rfl rfl rfl rfl rfl (is_ty hr rfl f_1)) (ev_size 5 f_1) (Nat.le_trans (by decide) hd) hr) (fun s2 r3 => ?_)
  refine ok (m_iconst (q := 13) rfl rfl rfl) ?_
  refine ok (m_isub (q := 14) rfl rfl rfl) ?_
  refine oke (e_ci (x_cs (q := 17) rfl rfl rfl rfl rfl rfl rfl rfl rfl) (ev_X11_between (D := D) a1 0 (wr ((D 1002 5) - 1)) h1 ⟨by decide, by decide⟩ (rg_wr _)) (Nat.le_trans (by decide) hd) r3) (fun s4 r5 => ?_)
  exact ok (m_retb rfl rfl (b_X11_between D a1 0 (wr ((D 1002 5) - 1)))) (ok_i r5 (Ev_rg (ev_X11_between (D := D) a1 0 (wr ((D 1002 5) - 1)) h1 ⟨by decide, by decide⟩ (rg_wr _)) r3))
abbrev P_X12_isPlacing : Nat → Option am_E := am_fy tb_X12_isPlacing
def v_X12_isPlacing (D : aD) (a1 : Int) : Int := v_X12_isIn D a1 0 (wr ((D 70 4) - 1))
theorem b_X12_isPlacing (D : aD) (a1 : Int) : 0 ≤ v_X12_isPlacing D a1 ∧ v_X12_isPlacing D a1 ≤ 1 := (b_X12_isIn D a1 0 (wr ((D 70 4) - 1)))
set_option maxRecDepth 100000 in
theorem ev_X12_isPlacing {n : Nat} {A : aA} {D : aD} (a1 : Int) (h1 : rg a1) : Ev (n) 2 127 [am_r (some 70), am_i (wz a1)] A D (ri (v_X12_isPlacing D a1)) A D := by
  unfold v_X12_isPlacing
  refine Ev_of (c := 1) (P := P_X12_isPlacing) (lo := [some (am_r (some 70)), some (am_i (wz a1))]) rfl rfl rfl (fun d hd s hr => ?_)
  refine ok (m_iload_n (q := 1) rfl rfl rfl rfl) ?_
  refine ok (m_iconst (q := 2) rfl rfl rfl) ?_
  refine ok (m_aload_n (q := 3) rfl rfl rfl rfl) ?_
  refine ok (m_gfs (z := 4) (q := 6) rfl rfl rfl hr rfl rfl rfl rfl rfl) ?_
  refine ok (m_iconst (q := 7) rfl rfl rfl) ?_
  refine ok (m_isub (q := 8) rfl rfl rfl) ?_
  refine oke (e_ci (x_cs (q := 11) rfl rfl rfl rfl rfl rfl rfl rfl rfl) (ev_X12_isIn (D := D) a1 0 (wr ((D 70 4) - 1)) h1 ⟨by decide, by decide⟩ (rg_wr _)) (Nat.le_trans (by decide) hd) hr) (fun s1 r2 => ?_)
  exact ok (m_retb rfl rfl (b_X12_isIn D a1 0 (wr ((D 70 4) - 1)))) (ok_i r2 (Ev_rg (ev_X12_isIn (D := D) a1 0 (wr ((D 70 4) - 1)) h1 ⟨by decide, by decide⟩ (rg_wr _)) hr))
abbrev P_X12_letters : Nat → Option am_E := am_fy tb_X12_letters
def v_X12_letters (D : aD) (a1 : Int) : Int := wr ((D 70 0) + (D 76 (D 75 (D 77 a1))))
def p_X12_letters (D : aD) (a1 : Int) : Prop := (0 ≤ a1 ∧ a1 < 30) ∧ (0 ≤ D 77 a1 ∧ D 77 a1 < 12) ∧ (0 ≤ D 75 (D 77 a1) ∧ D 75 (D 77 a1) < 5)
set_option maxRecDepth 100000 in
theorem ev_X12_letters {n : Nat} {A : aA} {D : aD} (a1 : Int) (h1 : rg a1) (hp : p_X12_letters D a1) : Ev (n) 1 135 [am_r (some 70), am_i (wz a1)] A D (ri (v_X12_letters D a1)) A D := by
  unfold p_X12_letters at hp
  unfold v_X12_letters
  refine Ev_of (c := 0) (P := P_X12_letters) (lo := [some (am_r (some 70)), some (am_i (wz a1))]) rfl rfl rfl (fun d hd s hr => ?_)
  refine ok (m_aload_n (q := 1) rfl rfl rfl rfl) ?_
  refine ok (m_gfs (z := 0) (q := 4) rfl rfl rfl hr rfl rfl rfl rfl rfl) ?_
  refine ok (m_aload_n (q := 5) rfl rfl rfl rfl) ?_
  refine ok (m_gfc (q := 8) rfl rfl rfl hr rfl rfl rfl) ?_
  refine ok (m_aload_n (q := 9) rfl rfl rfl rfl) ?_
  refine ok (m_gfc (q := 12) rfl rfl rfl hr rfl rfl rfl) ?_
  refine ok (m_aload_n (q := 13) rfl rfl rfl rfl) ?_
  refine ok (m_gfc (q := 16) rfl rfl rfl hr rfl rfl rfl) ?_
  refine ok (m_iload_n (q := 17) rfl rfl rfl rfl) ?_
  obtain ⟨g1, hp⟩ := hp
  refine ok (m_ials (q := 18) rfl rfl rfl hr rfl rfl g1 rfl) ?_
  obtain ⟨g2, hp⟩ := hp
  refine ok (m_ials (q := 19) rfl rfl rfl hr rfl rfl g2 rfl) ?_
  have g3 := hp
  refine ok (m_ials (q := 20) rfl rfl rfl hr rfl rfl g3 rfl) ?_
  refine ok (m_iadd (q := 21) rfl rfl rfl) ?_
  exact ok (m_reti rfl rfl) (ok_i hr (rg_wr _))
abbrev P_X5_isKnownBy : Nat → Option am_E := am_fy tb_X5_isKnownBy
def v_X5_isKnownBy (D : aD) (i0 : Int) (a1 : Int) : Int := if a1 < D 2504 i0 then 0 else if D 2509 i0 = (-1) then 1 else if D 2509 i0 ≤ a1 then 0 else 1
theorem b_X5_isKnownBy (D : aD) (i0 : Int) (a1 : Int) : 0 ≤ v_X5_isKnownBy D i0 a1 ∧ v_X5_isKnownBy D i0 a1 ≤ 1 := b01 (fun c1 => ⟨by decide, by decide⟩) (fun c1 => b01 (fun c2 => ⟨by decide, by decide⟩) (fun c2 => b01 (fun c3 => ⟨by decide, by decide⟩) (fun c3 => ⟨by decide, by decide⟩)))
set_option maxRecDepth 100000 in
theorem ev_X5_isKnownBy {n : Nat} {A : aA} {D : aD} (i0 : Int) (a1 : Int) (f0 : D 915 i0 = 1) (h1 : rg a1) : Ev (n) 1 35 [am_r (some (A 15 i0)), am_i (wz a1)] A D (ri (v_X5_isKnownBy D i0 a1)) A D := by
  unfold v_X5_isKnownBy
  refine Ev_of (c := 0) (P := P_X5_isKnownBy) (lo := [some (am_r (some (A 15 i0))), some (am_i (wz a1))]) rfl rfl rfl (fun d hd s hr => ?_)
  refine ok (m_aload_n (q := 1) rfl rfl rfl rfl) ?_
  refine ok (m_gft (t := 15) (q := 4) rfl rfl rfl hr rfl f0 rfl rfl rfl) ?_
  refine ok (m_iload_n (q := 5) rfl rfl rfl rfl) ?_
  refine okp (m_cmpgt (qt := 28) (qf := 8) rfl rfl (show rg (D 2504 i0) from Rp_rg hr 2504 i0) h1 rfl rfl) (fun c1 => ?_) (fun c1 => ?_)
  · refine ok (m_iconst (q := 29) rfl rfl rfl) ?_
    exact ok (m_retb rfl rfl ⟨by decide, by decide⟩) (ok_i hr ⟨by decide, by decide⟩)
  · refine ok (m_aload_n (q := 9) rfl rfl rfl rfl) ?_
    refine ok (m_gft (t := 15) (q := 12) rfl rfl rfl hr rfl f0 rfl rfl rfl) ?_
    refine ok (m_iconst (q := 13) rfl rfl rfl) ?_
    refine okp (m_cmpeq (qt := 24) (qf := 16) rfl rfl (show rg (D 2509 i0) from Rp_rg hr 2509 i0) ⟨by decide, by decide⟩ rfl rfl) (fun c2 => ?_) (fun c2 => ?_)
    · refine ok (m_iconst (q := 25) rfl rfl rfl) ?_
      refine ok (m_goto (q := 29) rfl rfl rfl) ?_
      exact ok (m_retb rfl rfl ⟨by decide, by decide⟩) (ok_i hr ⟨by decide, by decide⟩)
    · refine ok (m_iload_n (q := 17) rfl rfl rfl rfl) ?_
      refine ok (m_aload_n (q := 18) rfl rfl rfl rfl) ?_
      refine ok (m_gft (t := 15) (q := 21) rfl rfl rfl hr rfl f0 rfl rfl rfl) ?_
      refine okp (m_cmpge (qt := 28) (qf := 24) rfl rfl h1 (show rg (D 2509 i0) from Rp_rg hr 2509 i0) rfl rfl) (fun c3 => ?_) (fun c3 => ?_)
      · refine ok (m_iconst (q := 29) rfl rfl rfl) ?_
        exact ok (m_retb rfl rfl ⟨by decide, by decide⟩) (ok_i hr ⟨by decide, by decide⟩)
      · refine ok (m_iconst (q := 25) rfl rfl rfl) ?_
        refine ok (m_goto (q := 29) rfl rfl rfl) ?_
        exact ok (m_retb rfl rfl ⟨by decide, by decide⟩) (ok_i hr ⟨by decide, by decide⟩)
abbrev P_X5_isKnownLeftBy : Nat → Option am_E := am_fy tb_X5_isKnownLeftBy
def v_X5_isKnownLeftBy (D : aD) (i0 : Int) (a1 : Int) : Int := if D 2505 i0 = (-1) then 0 else if a1 < D 2506 i0 then 0 else 1
theorem b_X5_isKnownLeftBy (D : aD) (i0 : Int) (a1 : Int) : 0 ≤ v_X5_isKnownLeftBy D i0 a1 ∧ v_X5_isKnownLeftBy D i0 a1 ≤ 1 := b01 (fun c1 => ⟨by decide, by decide⟩) (fun c1 => b01 (fun c2 => ⟨by decide, by decide⟩) (fun c2 => ⟨by decide, by decide⟩))
set_option maxRecDepth 100000 in
theorem ev_X5_isKnownLeftBy {n : Nat} {A : aA} {D : aD} (i0 : Int) (a1 : Int) (f0 : D 915 i0 = 1) (h1 : rg a1) : Ev (n) 1 36 [am_r (some (A 15 i0)), am_i (wz a1)] A D (ri (v_X5_isKnownLeftBy D i0 a1)) A D := by
  unfold v_X5_isKnownLeftBy
  refine Ev_of (c := 0) (P := P_X5_isKnownLeftBy) (lo := [some (am_r (some (A 15 i0))), some (am_i (wz a1))]) rfl rfl rfl (fun d hd s hr => ?_)
  refine ok (m_aload_n (q := 1) rfl rfl rfl rfl) ?_
  refine ok (m_gft (t := 15) (q := 4) rfl rfl rfl hr rfl f0 rfl rfl rfl) ?_
  refine ok (m_iconst (q := 5) rfl rfl rfl) ?_
  refine okp (m_cmpeq (qt := 20) (qf := 8) rfl rfl (show rg (D 2505 i0) from Rp_rg hr 2505 i0) ⟨by decide, by decide⟩ rfl rfl) (fun c1 => ?_) (fun c1 => ?_)
  · refine ok (m_iconst (q := 21) rfl rfl rfl) ?_
    exact ok (m_retb rfl rfl ⟨by decide, by decide⟩) (ok_i hr ⟨by decide, by decide⟩)
  · refine ok (m_aload_n (q := 9) rfl rfl rfl rfl) ?_
    refine ok (m_gft (t := 15) (q := 12) rfl rfl rfl hr rfl f0 rfl rfl rfl) ?_
    refine ok (m_iload_n (q := 13) rfl rfl rfl rfl) ?_
    refine okp (m_cmpgt (qt := 20) (qf := 16) rfl rfl (show rg (D 2506 i0) from Rp_rg hr 2506 i0) h1 rfl rfl) (fun c2 => ?_) (fun c2 => ?_)
    · refine ok (m_iconst (q := 21) rfl rfl rfl) ?_
      exact ok (m_retb rfl rfl ⟨by decide, by decide⟩) (ok_i hr ⟨by decide, by decide⟩)
    · refine ok (m_iconst (q := 17) rfl rfl rfl) ?_
      refine ok (m_goto (q := 21) rfl rfl rfl) ?_
      exact ok (m_retb rfl rfl ⟨by decide, by decide⟩) (ok_i hr ⟨by decide, by decide⟩)
abbrev P_X5_endAsKnown : Nat → Option am_E := am_fy tb_X5_endAsKnown
def v_X5_endAsKnown (D : aD) (i0 : Int) (a1 : Int) : Int := if v_X5_isKnownLeftBy D i0 a1 = 0 then 1000 else D 2505 i0
set_option maxRecDepth 100000 in
theorem ev_X5_endAsKnown {n : Nat} {A : aA} {D : aD} (i0 : Int) (a1 : Int) (f0 : D 915 i0 = 1) (h1 : rg a1) : Ev (n) 2 37 [am_r (some (A 15 i0)), am_i (wz a1)] A D (ri (v_X5_endAsKnown D i0 a1)) A D := by
  unfold v_X5_endAsKnown
  refine Ev_of (c := 1) (P := P_X5_endAsKnown) (lo := [some (am_r (some (A 15 i0))), some (am_i (wz a1))]) rfl rfl rfl (fun d hd s hr => ?_)
  refine ok (m_aload_n (q := 1) rfl rfl rfl rfl) ?_
  refine ok (m_iload_n (q := 2) rfl rfl rfl rfl) ?_
  refine oke (e_ci (x_cv (q := 5) rfl rfl rfl rfl rfl rfl rfl rfl rfl rfl (is_ty hr rfl f0)) (ev_X5_isKnownLeftBy (D := D) i0 a1 f0 h1) (Nat.le_trans (by decide) hd) hr) (fun s1 r2 => ?_)
  refine okp (m_ifeq (qt := 15) (qf := 8) rfl rfl (Ev_rg (ev_X5_isKnownLeftBy (D := D) i0 a1 f0 h1) hr) rfl rfl) (fun c3 => ?_) (fun c3 => ?_)
  · refine ok (m_sipush (q := 18) rfl rfl rfl) ?_
    exact ok (m_reti rfl rfl) (ok_i r2 ⟨by decide, by decide⟩)
  · refine ok (m_aload_n (q := 9) rfl rfl rfl rfl) ?_
    refine ok (m_gft (t := 15) (q := 12) rfl rfl rfl r2 rfl f0 rfl rfl rfl) ?_
    refine ok (m_goto (q := 18) rfl rfl rfl) ?_
    exact ok (m_reti rfl rfl) (ok_i r2 (show rg (D 2505 i0) from Rp_rg r2 2505 i0))
abbrev P_X5_sharesDayWith : Nat → Option am_E := am_fy tb_X5_sharesDayWith
def v_X5_sharesDayWith (D : aD) (i0 : Int) (i1 : Int) (a2 : Int) : Int := if v_X5_endAsKnown D i0 a2 ≤ max (D 2503 i0) (D 2503 i1) then 0 else if v_X5_endAsKnown D i1 a2 ≤ max (D 2503 i0) (D 2503 i1) then 0 else 1
theorem b_X5_sharesDayWith (D : aD) (i0 : Int) (i1 : Int) (a2 : Int) : 0 ≤ v_X5_sharesDayWith D i0 i1 a2 ∧ v_X5_sharesDayWith D i0 i1 a2 ≤ 1 := b01 (fun c3 => ⟨by decide, by decide⟩) (fun c3 => b01 (fun c6 => ⟨by decide, by decide⟩) (fun c6 => ⟨by decide, by decide⟩))
set_option maxRecDepth 100000 in
theorem ev_X5_sharesDayWith {n : Nat} {A : aA} {D : aD} (i0 : Int) (i1 : Int) (a2 : Int) (f0 : D 915 i0 = 1) (f1 : D 915 i1 = 1) (h2 : rg a2) : Ev (n) 3 38 [am_r (some (A 15 i0)), am_r (some (A 15 i1)), am_i (wz a2)] A D (ri (v_X5_sharesDayWith D i0 i1 a2)) A D := by
  unfold v_X5_sharesDayWith
  refine Ev_of (c := 2) (P := P_X5_sharesDayWith) (lo := [some (am_r (some (A 15 i0))), some (am_r (some (A 15 i1))), some (am_i (wz a2)), none]) rfl rfl rfl (fun d hd s hr => ?_)
  refine ok (m_aload_n (q := 1) rfl rfl rfl rfl) ?_
  refine ok (m_gft (t := 15) (q := 4) rfl rfl rfl hr rfl f0 rfl rfl rfl) ?_
  refine ok (m_aload_n (q := 5) rfl rfl rfl rfl) ?_
  refine ok (m_gft (t := 15) (q := 8) rfl rfl rfl hr rfl f1 rfl rfl rfl) ?_
  refine ok (m_max (q := 11) rfl rfl rfl (show rg (D 2503 i0) from Rp_rg hr 2503 i0) (show rg (D 2503 i1) from Rp_rg hr 2503 i1) rfl) ?_
  refine ok (m_istore_n (q := 12) (lo' := [some (am_r (some (A 15 i0))), some (am_r (some (A 15 i1))), some (am_i (wz a2)), some (am_i (wz (max (D 2503 i0) (D 2503 i1))))]) rfl rfl rfl rfl rfl) ?_
  refine ok (m_iload_n (q := 13) rfl rfl rfl rfl) ?_
  refine ok (m_aload_n (q := 14) rfl rfl rfl rfl) ?_
  refine ok (m_iload_n (q := 15) rfl rfl rfl rfl) ?_
  refine oke (e_ci (x_cv (q := 18) rfl rfl rfl rfl rfl rfl rfl rfl rfl rfl (is_ty hr rfl f0)) (ev_X5_endAsKnown (D := D) i0 a2 f0 h2) (Nat.le_trans (by decide) hd) hr) (fun s1 r2 => ?_)
  refine okp (m_cmpge (qt := 34) (qf := 21) rfl rfl (rg_max (show rg (D 2503 i0) from Rp_rg hr 2503 i0) (show rg (D 2503 i1) from Rp_rg hr 2503 i1)) (Ev_rg (ev_X5_endAsKnown (D := D) i0 a2 f0 h2) hr) rfl rfl) (fun c3 => ?_) (fun c3 => ?_)
  · refine ok (m_iconst (q := 35) rfl rfl rfl) ?_
    exact ok (m_retb rfl rfl ⟨by decide, by decide⟩) (ok_i r2 ⟨by decide, by decide⟩)
  · refine ok (m_iload_n (q := 22) rfl rfl rfl rfl) ?_
    refine ok (m_aload_n (q := 23) rfl rfl rfl rfl) ?_
    refine ok (m_iload_n (q := 24) rfl rfl rfl rfl) ?_
    refine oke (e_ci (x_cv (q := 27) rfl rfl rfl rfl rfl rfl rfl rfl rfl rfl (is_ty r2 rfl f1)) (ev_X5_endAsKnown (D := D) i1 a2 f1 h2) (Nat.le_trans (by decide) hd) r2) (fun s4 r5 => ?_)
    refine okp (m_cmpge (qt := 34) (qf := 30) rfl rfl (rg_max (show rg (D 2503 i0) from Rp_rg hr 2503 i0) (show rg (D 2503 i1) from Rp_rg hr 2503 i1)) (Ev_rg (ev_X5_endAsKnown (D := D) i1 a2 f1 h2) r2) rfl rfl) (fun c6 => ?_) (fun c6 => ?_)
    · refine ok (m_iconst (q := 35) rfl rfl rfl) ?_
      exact ok (m_retb rfl rfl ⟨by decide, by decide⟩) (ok_i r5 ⟨by decide, by decide⟩)
    · refine ok (m_iconst (q := 31) rfl rfl rfl) ?_
      refine ok (m_goto (q := 35) rfl rfl rfl) ?_
      exact ok (m_retb rfl rfl ⟨by decide, by decide⟩) (ok_i r5 ⟨by decide, by decide⟩)
abbrev P_X5_isLeftSoonForFault : Nat → Option am_E := am_fy tb_X5_isLeftSoonForFault
def v_X5_isLeftSoonForFault (D : aD) (i0 : Int) (a1 : Int) : Int := if v_X5_isKnownLeftBy D i0 a1 = 0 then 0 else if 60 < wr ((D 2505 i0) - (D 2503 i0)) then 0 else if 2 < D 2508 i0 then 0 else 1
theorem b_X5_isLeftSoonForFault (D : aD) (i0 : Int) (a1 : Int) : 0 ≤ v_X5_isLeftSoonForFault D i0 a1 ∧ v_X5_isLeftSoonForFault D i0 a1 ≤ 1 := b01 (fun c3 => ⟨by decide, by decide⟩) (fun c3 => b01 (fun c4 => ⟨by decide, by decide⟩) (fun c4 => b01 (fun c5 => ⟨by decide, by decide⟩) (fun c5 => ⟨by decide, by decide⟩)))
set_option maxRecDepth 100000 in
theorem ev_X5_isLeftSoonForFault {n : Nat} {A : aA} {D : aD} (i0 : Int) (a1 : Int) (f0 : D 915 i0 = 1) (h1 : rg a1) : Ev (n) 2 39 [am_r (some (A 15 i0)), am_i (wz a1)] A D (ri (v_X5_isLeftSoonForFault D i0 a1)) A D := by
  unfold v_X5_isLeftSoonForFault
  refine Ev_of (c := 1) (P := P_X5_isLeftSoonForFault) (lo := [some (am_r (some (A 15 i0))), some (am_i (wz a1))]) rfl rfl rfl (fun d hd s hr => ?_)
  refine ok (m_aload_n (q := 1) rfl rfl rfl rfl) ?_
  refine ok (m_iload_n (q := 2) rfl rfl rfl rfl) ?_
  refine oke (e_ci (x_cv (q := 5) rfl rfl rfl rfl rfl rfl rfl rfl rfl rfl (is_ty hr rfl f0)) (ev_X5_isKnownLeftBy (D := D) i0 a1 f0 h1) (Nat.le_trans (by decide) hd) hr) (fun s1 r2 => ?_)
  refine okp (m_ifeq (qt := 34) (qf := 8) rfl rfl (Ev_rg (ev_X5_isKnownLeftBy (D := D) i0 a1 f0 h1) hr) rfl rfl) (fun c3 => ?_) (fun c3 => ?_)
  · refine ok (m_iconst (q := 35) rfl rfl rfl) ?_
    exact ok (m_retb rfl rfl ⟨by decide, by decide⟩) (ok_i r2 ⟨by decide, by decide⟩)
  · refine ok (m_aload_n (q := 9) rfl rfl rfl rfl) ?_
    refine ok (m_gft (t := 15) (q := 12) rfl rfl rfl r2 rfl f0 rfl rfl rfl) ?_
    refine ok (m_aload_n (q := 13) rfl rfl rfl rfl) ?_
    refine ok (m_gft (t := 15) (q := 16) rfl rfl rfl r2 rfl f0 rfl rfl rfl) ?_
    refine ok (m_isub (q := 17) rfl rfl rfl) ?_
    refine ok (m_bipush (q := 19) rfl rfl rfl) ?_
    refine okp (m_cmpgt (qt := 34) (qf := 22) rfl rfl (rg_wr _) ⟨by decide, by decide⟩ rfl rfl) (fun c4 => ?_) (fun c4 => ?_)
    · refine ok (m_iconst (q := 35) rfl rfl rfl) ?_
      exact ok (m_retb rfl rfl ⟨by decide, by decide⟩) (ok_i r2 ⟨by decide, by decide⟩)
    · refine ok (m_aload_n (q := 23) rfl rfl rfl rfl) ?_
      refine ok (m_gft (t := 15) (q := 26) rfl rfl rfl r2 rfl f0 rfl rfl rfl) ?_
      refine ok (m_iconst (q := 27) rfl rfl rfl) ?_
      refine okp (m_cmpgt (qt := 34) (qf := 30) rfl rfl (show rg (D 2508 i0) from Rp_rg r2 2508 i0) ⟨by decide, by decide⟩ rfl rfl) (fun c5 => ?_) (fun c5 => ?_)
      · refine ok (m_iconst (q := 35) rfl rfl rfl) ?_
        exact ok (m_retb rfl rfl ⟨by decide, by decide⟩) (ok_i r2 ⟨by decide, by decide⟩)
      · refine ok (m_iconst (q := 31) rfl rfl rfl) ?_
        refine ok (m_goto (q := 35) rfl rfl rfl) ?_
        exact ok (m_retb rfl rfl ⟨by decide, by decide⟩) (ok_i r2 ⟨by decide, by decide⟩)
abbrev P_X12_isKnown : Nat → Option am_E := am_fy tb_X12_isKnown
def v_X12_isKnown (D : aD) (a1 : Int) (a2 : Int) : Int := if a2 < D 86 a1 then 0 else if D 87 a1 ≤ a2 then 0 else 1
def p_X12_isKnown (D : aD) (a1 : Int) (a2 : Int) : Prop := (0 ≤ a1 ∧ a1 < 60)
theorem b_X12_isKnown (D : aD) (a1 : Int) (a2 : Int) : 0 ≤ v_X12_isKnown D a1 a2 ∧ v_X12_isKnown D a1 a2 ≤ 1 := b01 (fun c2 => ⟨by decide, by decide⟩) (fun c2 => b01 (fun c3 => ⟨by decide, by decide⟩) (fun c3 => ⟨by decide, by decide⟩))
set_option maxRecDepth 100000 in
theorem ev_X12_isKnown {n : Nat} {A : aA} {D : aD} (a1 : Int) (a2 : Int) (h1 : rg a1) (h2 : rg a2) (hp : p_X12_isKnown D a1 a2) : Ev (n) 1 139 [am_r (some 70), am_i (wz a1), am_i (wz a2)] A D (ri (v_X12_isKnown D a1 a2)) A D := by
  unfold p_X12_isKnown at hp
  unfold v_X12_isKnown
  refine Ev_of (c := 0) (P := P_X12_isKnown) (lo := [some (am_r (some 70)), some (am_i (wz a1)), some (am_i (wz a2))]) rfl rfl rfl (fun d hd s hr => ?_)
  refine ok (m_aload_n (q := 1) rfl rfl rfl rfl) ?_
  refine ok (m_gfc (q := 4) rfl rfl rfl hr rfl rfl rfl) ?_
  refine ok (m_iload_n (q := 5) rfl rfl rfl rfl) ?_
  have g1 := hp
  refine ok (m_ials (q := 6) rfl rfl rfl hr rfl rfl g1 rfl) ?_
  refine ok (m_iload_n (q := 7) rfl rfl rfl rfl) ?_
  refine okp (m_cmpgt (qt := 24) (qf := 10) rfl rfl (Rp_rg hr 86 a1) h2 rfl rfl) (fun c2 => ?_) (fun c2 => ?_)
  · refine ok (m_iconst (q := 25) rfl rfl rfl) ?_
    exact ok (m_retb rfl rfl ⟨by decide, by decide⟩) (ok_i hr ⟨by decide, by decide⟩)
  · refine ok (m_aload_n (q := 11) rfl rfl rfl rfl) ?_
    refine ok (m_gfc (q := 14) rfl rfl rfl hr rfl rfl rfl) ?_
    refine ok (m_iload_n (q := 15) rfl rfl rfl rfl) ?_
    refine ok (m_ials (q := 16) rfl rfl rfl hr rfl rfl g1 rfl) ?_
    refine ok (m_iload_n (q := 17) rfl rfl rfl rfl) ?_
    refine okp (m_cmple (qt := 24) (qf := 20) rfl rfl (Rp_rg hr 87 a1) h2 rfl rfl) (fun c3 => ?_) (fun c3 => ?_)
    · refine ok (m_iconst (q := 25) rfl rfl rfl) ?_
      exact ok (m_retb rfl rfl ⟨by decide, by decide⟩) (ok_i hr ⟨by decide, by decide⟩)
    · refine ok (m_iconst (q := 21) rfl rfl rfl) ?_
      refine ok (m_goto (q := 25) rfl rfl rfl) ?_
      exact ok (m_retb rfl rfl ⟨by decide, by decide⟩) (ok_i hr ⟨by decide, by decide⟩)
abbrev P_X12_endOf : Nat → Option am_E := am_fy tb_X12_endOf
def v_X12_endOf (D : aD) (a1 : Int) (a2 : Int) : Int := if a2 < D 91 a1 then 5000 else D 88 a1
def p_X12_endOf (D : aD) (a1 : Int) (a2 : Int) : Prop := (0 ≤ a1 ∧ a1 < 60)
set_option maxRecDepth 100000 in
theorem ev_X12_endOf {n : Nat} {A : aA} {D : aD} (a1 : Int) (a2 : Int) (h1 : rg a1) (h2 : rg a2) (hp : p_X12_endOf D a1 a2) : Ev (n) 1 140 [am_r (some 70), am_i (wz a1), am_i (wz a2)] A D (ri (v_X12_endOf D a1 a2)) A D := by
  unfold p_X12_endOf at hp
  unfold v_X12_endOf
  refine Ev_of (c := 0) (P := P_X12_endOf) (lo := [some (am_r (some 70)), some (am_i (wz a1)), some (am_i (wz a2))]) rfl rfl rfl (fun d hd s hr => ?_)
  refine ok (m_aload_n (q := 1) rfl rfl rfl rfl) ?_
  refine ok (m_gfc (q := 4) rfl rfl rfl hr rfl rfl rfl) ?_
  refine ok (m_iload_n (q := 5) rfl rfl rfl rfl) ?_
  have g1 := hp
  refine ok (m_ials (q := 6) rfl rfl rfl hr rfl rfl g1 rfl) ?_
  refine ok (m_iload_n (q := 7) rfl rfl rfl rfl) ?_
  refine okp (m_cmpgt (qt := 19) (qf := 10) rfl rfl (Rp_rg hr 91 a1) h2 rfl rfl) (fun c2 => ?_) (fun c2 => ?_)
  · refine ok (m_sipush (q := 22) rfl rfl rfl) ?_
    exact ok (m_reti rfl rfl) (ok_i hr ⟨by decide, by decide⟩)
  · refine ok (m_aload_n (q := 11) rfl rfl rfl rfl) ?_
    refine ok (m_gfc (q := 14) rfl rfl rfl hr rfl rfl rfl) ?_
    refine ok (m_iload_n (q := 15) rfl rfl rfl rfl) ?_
    refine ok (m_ials (q := 16) rfl rfl rfl hr rfl rfl g1 rfl) ?_
    refine ok (m_goto (q := 22) rfl rfl rfl) ?_
    exact ok (m_reti rfl rfl) (ok_i hr (Rp_rg hr 88 a1))
abbrev P_X12_wasLeftSoon : Nat → Option am_E := am_fy tb_X12_wasLeftSoon
def v_X12_wasLeftSoon (D : aD) (a1 : Int) : Int := if v_X12_endOf D a1 (D 70 0) = 5000 then 0 else if 60 < wr ((D 88 a1) - (D 85 a1)) then 0 else if 2 < D 90 a1 then 0 else 1
def p_X12_wasLeftSoon (D : aD) (a1 : Int) : Prop := (p_X12_endOf D a1 (D 70 0)) ∧ (if v_X12_endOf D a1 (D 70 0) = 5000 then True else (0 ≤ a1 ∧ a1 < 60))
theorem b_X12_wasLeftSoon (D : aD) (a1 : Int) : 0 ≤ v_X12_wasLeftSoon D a1 ∧ v_X12_wasLeftSoon D a1 ≤ 1 := b01 (fun c4 => ⟨by decide, by decide⟩) (fun c4 => b01 (fun c6 => ⟨by decide, by decide⟩) (fun c6 => b01 (fun c7 => ⟨by decide, by decide⟩) (fun c7 => ⟨by decide, by decide⟩)))
set_option maxRecDepth 100000 in
theorem ev_X12_wasLeftSoon {n : Nat} {A : aA} {D : aD} (a1 : Int) (h1 : rg a1) (hp : p_X12_wasLeftSoon D a1) : Ev (n) 2 209 [am_r (some 70), am_i (wz a1)] A D (ri (v_X12_wasLeftSoon D a1)) A D := by
  unfold p_X12_wasLeftSoon at hp
  unfold v_X12_wasLeftSoon
  refine Ev_of (c := 1) (P := P_X12_wasLeftSoon) (lo := [some (am_r (some 70)), some (am_i (wz a1))]) rfl rfl rfl (fun d hd s hr => ?_)
  refine ok (m_aload_n (q := 1) rfl rfl rfl rfl) ?_
  refine ok (m_iload_n (q := 2) rfl rfl rfl rfl) ?_
  refine ok (m_aload_n (q := 3) rfl rfl rfl rfl) ?_
  refine ok (m_gfs (z := 0) (q := 6) rfl rfl rfl hr rfl rfl rfl rfl rfl) ?_
  obtain ⟨g3, hp⟩ := hp
  refine oke (e_ci (x_cv (q := 9) rfl rfl rfl rfl rfl rfl rfl rfl rfl rfl (is_st hr rfl rfl)) (ev_X12_endOf (D := D) a1 (D 70 0) h1 (Rp_rg hr 70 0) g3) (Nat.le_trans (by decide) hd) hr) (fun s1 r2 => ?_)
  refine ok (m_sipush (q := 12) rfl rfl rfl) ?_
  refine okp (m_cmpeq (qt := 47) (qf := 15) rfl rfl (Ev_rg (ev_X12_endOf (D := D) a1 (D 70 0) h1 (Rp_rg hr 70 0) g3) hr) ⟨by decide, by decide⟩ rfl rfl) (fun c4 => ?_) (fun c4 => ?_)
  · refine ok (m_iconst (q := 48) rfl rfl rfl) ?_
    exact ok (m_retb rfl rfl ⟨by decide, by decide⟩) (ok_i r2 ⟨by decide, by decide⟩)
  · replace hp := iq c4 hp
    refine ok (m_aload_n (q := 16) rfl rfl rfl rfl) ?_
    refine ok (m_gfc (q := 19) rfl rfl rfl r2 rfl rfl rfl) ?_
    refine ok (m_iload_n (q := 20) rfl rfl rfl rfl) ?_
    have g5 := hp
    refine ok (m_ials (q := 21) rfl rfl rfl r2 rfl rfl g5 rfl) ?_
    refine ok (m_aload_n (q := 22) rfl rfl rfl rfl) ?_
    refine ok (m_gfc (q := 25) rfl rfl rfl r2 rfl rfl rfl) ?_
    refine ok (m_iload_n (q := 26) rfl rfl rfl rfl) ?_
    refine ok (m_ials (q := 27) rfl rfl rfl r2 rfl rfl g5 rfl) ?_
    refine ok (m_isub (q := 28) rfl rfl rfl) ?_
    refine ok (m_bipush (q := 30) rfl rfl rfl) ?_
    refine okp (m_cmpgt (qt := 47) (qf := 33) rfl rfl (rg_wr _) ⟨by decide, by decide⟩ rfl rfl) (fun c6 => ?_) (fun c6 => ?_)
    · refine ok (m_iconst (q := 48) rfl rfl rfl) ?_
      exact ok (m_retb rfl rfl ⟨by decide, by decide⟩) (ok_i r2 ⟨by decide, by decide⟩)
    · refine ok (m_aload_n (q := 34) rfl rfl rfl rfl) ?_
      refine ok (m_gfc (q := 37) rfl rfl rfl r2 rfl rfl rfl) ?_
      refine ok (m_iload_n (q := 38) rfl rfl rfl rfl) ?_
      refine ok (m_ials (q := 39) rfl rfl rfl r2 rfl rfl g5 rfl) ?_
      refine ok (m_iconst (q := 40) rfl rfl rfl) ?_
      refine okp (m_cmpgt (qt := 47) (qf := 43) rfl rfl (Rp_rg r2 90 a1) ⟨by decide, by decide⟩ rfl rfl) (fun c7 => ?_) (fun c7 => ?_)
      · refine ok (m_iconst (q := 48) rfl rfl rfl) ?_
        exact ok (m_retb rfl rfl ⟨by decide, by decide⟩) (ok_i r2 ⟨by decide, by decide⟩)
      · refine ok (m_iconst (q := 44) rfl rfl rfl) ?_
        refine ok (m_goto (q := 48) rfl rfl rfl) ?_
        exact ok (m_retb rfl rfl ⟨by decide, by decide⟩) (ok_i r2 ⟨by decide, by decide⟩)
abbrev P_X8_ageOn : Nat → Option am_E := am_fy tb_X8_ageOn
def v_X8_ageOn (D : aD) (i0 : Int) (a1 : Int) : Int := wr ((max 0 (wr (a1 - (D 2001 i0)))).tdiv 365)
set_option maxRecDepth 100000 in
theorem ev_X8_ageOn {n : Nat} {A : aA} {D : aD} (i0 : Int) (a1 : Int) (f0 : D 910 i0 = 1) (h1 : rg a1) : Ev (n) 1 67 [am_r (some (A 10 i0)), am_i (wz a1)] A D (ri (v_X8_ageOn D i0 a1)) A D := by
  unfold v_X8_ageOn
  refine Ev_of (c := 0) (P := P_X8_ageOn) (lo := [some (am_r (some (A 10 i0))), some (am_i (wz a1))]) rfl rfl rfl (fun d hd s hr => ?_)
  refine ok (m_iconst (q := 1) rfl rfl rfl) ?_
  refine ok (m_iload_n (q := 2) rfl rfl rfl rfl) ?_
  refine ok (m_aload_n (q := 3) rfl rfl rfl rfl) ?_
  refine ok (m_gft (t := 10) (q := 6) rfl rfl rfl hr rfl f0 rfl rfl rfl) ?_
  refine ok (m_isub (q := 7) rfl rfl rfl) ?_
  refine ok (m_max (q := 10) rfl rfl rfl ⟨by decide, by decide⟩ (rg_wr _) rfl) ?_
  refine ok (m_sipush (q := 13) rfl rfl rfl) ?_
  refine ok (m_idiv (q := 14) rfl rfl (rg_max ⟨by decide, by decide⟩ (rg_wr _)) ⟨by decide, by decide⟩ (by decide) rfl) ?_
  exact ok (m_reti rfl rfl) (ok_i hr (rg_wr _))
abbrev P_X12_ageOn : Nat → Option am_E := am_fy tb_X12_ageOn
def v_X12_ageOn (D : aD) (a1 : Int) (a2 : Int) : Int := max 0 (wr ((wr (a2 - (D 71 a1))).tdiv 365))
def p_X12_ageOn (D : aD) (a1 : Int) (a2 : Int) : Prop := (0 ≤ a1 ∧ a1 < 24)
set_option maxRecDepth 100000 in
theorem ev_X12_ageOn {n : Nat} {A : aA} {D : aD} (a1 : Int) (a2 : Int) (h1 : rg a1) (h2 : rg a2) (hp : p_X12_ageOn D a1 a2) : Ev (n) 1 129 [am_r (some 70), am_i (wz a1), am_i (wz a2)] A D (ri (v_X12_ageOn D a1 a2)) A D := by
  unfold p_X12_ageOn at hp
  unfold v_X12_ageOn
  refine Ev_of (c := 0) (P := P_X12_ageOn) (lo := [some (am_r (some 70)), some (am_i (wz a1)), some (am_i (wz a2))]) rfl rfl rfl (fun d hd s hr => ?_)
  refine ok (m_iconst (q := 1) rfl rfl rfl) ?_
  refine ok (m_iload_n (q := 2) rfl rfl rfl rfl) ?_
  refine ok (m_aload_n (q := 3) rfl rfl rfl rfl) ?_
  refine ok (m_gfc (q := 6) rfl rfl rfl hr rfl rfl rfl) ?_
  refine ok (m_iload_n (q := 7) rfl rfl rfl rfl) ?_
  have g1 := hp
  refine ok (m_ials (q := 8) rfl rfl rfl hr rfl rfl g1 rfl) ?_
  refine ok (m_isub (q := 9) rfl rfl rfl) ?_
  refine ok (m_sipush (q := 12) rfl rfl rfl) ?_
  refine ok (m_idiv (q := 13) rfl rfl (rg_wr _) ⟨by decide, by decide⟩ (by decide) rfl) ?_
  refine ok (m_max (q := 16) rfl rfl rfl ⟨by decide, by decide⟩ (rg_wr _) rfl) ?_
  exact ok (m_reti rfl rfl) (ok_i hr (rg_max ⟨by decide, by decide⟩ (rg_wr _)))
abbrev P_J6_bitCount_0f7a4 : Nat → Option am_E := am_fy tb_J6_bitCount_0f7a4
def v_J6_bitCount_0f7a4 (D : aD) (a0 : Int) : Int := o_and (wr ((wr ((o_and (wr ((wr ((o_and (wr (a0 - (o_and (o_ushr a0 1) 1431655765))) 858993459) + (o_and (o_ushr (wr (a0 - (o_and (o_ushr a0 1) 1431655765))) 2) 858993459))) + (o_ushr (wr ((o_and (wr (a0 - (o_and (o_ushr a0 1) 1431655765))) 858993459) + (o_and (o_ushr (wr (a0 - (o_and (o_ushr a0 1) 1431655765))) 2) 858993459))) 4))) 252645135) + (o_ushr (o_and (wr ((wr ((o_and (wr (a0 - (o_and (o_ushr a0 1) 1431655765))) 858993459) + (o_and (o_ushr (wr (a0 - (o_and (o_ushr a0 1) 1431655765))) 2) 858993459))) + (o_ushr (wr ((o_and (wr (a0 - (o_and (o_ushr a0 1) 1431655765))) 858993459) + (o_and (o_ushr (wr (a0 - (o_and (o_ushr a0 1) 1431655765))) 2) 858993459))) 4))) 252645135) 8))) + (o_ushr (wr ((o_and (wr ((wr ((o_and (wr (a0 - (o_and (o_ushr a0 1) 1431655765))) 858993459) + (o_and (o_ushr (wr (a0 - (o_and (o_ushr a0 1) 1431655765))) 2) 858993459))) + (o_ushr (wr ((o_and (wr (a0 - (o_and (o_ushr a0 1) 1431655765))) 858993459) + (o_and (o_ushr (wr (a0 - (o_and (o_ushr a0 1) 1431655765))) 2) 858993459))) 4))) 252645135) + (o_ushr (o_and (wr ((wr ((o_and (wr (a0 - (o_and (o_ushr a0 1) 1431655765))) 858993459) + (o_and (o_ushr (wr (a0 - (o_and (o_ushr a0 1) 1431655765))) 2) 858993459))) + (o_ushr (wr ((o_and (wr (a0 - (o_and (o_ushr a0 1) 1431655765))) 858993459) + (o_and (o_ushr (wr (a0 - (o_and (o_ushr a0 1) 1431655765))) 2) 858993459))) 4))) 252645135) 8))) 16))) 63
set_option maxRecDepth 100000 in
theorem ev_J6_bitCount_0f7a4 {n : Nat} {A : aA} {D : aD} (a0 : Int) (h0 : rg a0) : Ev (n) 1 212 [am_i (wz a0)] A D (ri (v_J6_bitCount_0f7a4 D a0)) A D := by
  unfold v_J6_bitCount_0f7a4
  refine Ev_of (c := 0) (P := P_J6_bitCount_0f7a4) (lo := [some (am_i (wz a0))]) rfl rfl rfl (fun d hd s hr => ?_)
  refine ok (m_iload_n (q := 1) rfl rfl rfl rfl) ?_
  refine ok (m_iload_n (q := 2) rfl rfl rfl rfl) ?_
  refine ok (m_iconst (q := 3) rfl rfl rfl) ?_
  refine ok (m_iushr (q := 4) rfl rfl rfl) ?_
  refine ok (m_ldc_w (q := 7) rfl rfl rfl) ?_
  refine ok (m_iand (q := 8) rfl rfl rfl) ?_
  refine ok (m_isub (q := 9) rfl rfl rfl) ?_
  refine ok (m_istore_n (q := 10) (lo' := [some (am_i (wz (wr (a0 - (o_and (o_ushr a0 1) 1431655765)))))]) rfl rfl rfl rfl rfl) ?_
  refine ok (m_iload_n (q := 11) rfl rfl rfl rfl) ?_
  refine ok (m_ldc_w (q := 14) rfl rfl rfl) ?_
  refine ok (m_iand (q := 15) rfl rfl rfl) ?_
  refine ok (m_iload_n (q := 16) rfl rfl rfl rfl) ?_
  refine ok (m_iconst (q := 17) rfl rfl rfl) ?_
  refine ok (m_iushr (q := 18) rfl rfl rfl) ?_
  refine ok (m_ldc_w (q := 21) rfl rfl rfl) ?_
  refine ok (m_iand (q := 22) rfl rfl rfl) ?_
  refine ok (m_iadd (q := 23) rfl rfl rfl) ?_
  refine ok (m_istore_n (q := 24) (lo' := [some (am_i (wz (wr ((o_and (wr (a0 - (o_and (o_ushr a0 1) 1431655765))) 858993459) + (o_and (o_ushr (wr (a0 - (o_and (o_ushr a0 1) 1431655765))) 2) 858993459)))))]) rfl rfl rfl rfl rfl) ?_
  refine ok (m_iload_n (q := 25) rfl rfl rfl rfl) ?_
  refine ok (m_iload_n (q := 26) rfl rfl rfl rfl) ?_
  refine ok (m_iconst (q := 27) rfl rfl rfl) ?_
  refine ok (m_iushr (q := 28) rfl rfl rfl) ?_
  refine ok (m_iadd (q := 29) rfl rfl rfl) ?_
  refine ok (m_ldc_w (q := 32) rfl rfl rfl) ?_
  refine ok (m_iand (q := 33) rfl rfl rfl) ?_
  refine ok (m_istore_n (q := 34) (lo' := [some (am_i (wz (o_and (wr ((wr ((o_and (wr (a0 - (o_and (o_ushr a0 1) 1431655765))) 858993459) + (o_and (o_ushr (wr (a0 - (o_and (o_ushr a0 1) 1431655765))) 2) 858993459))) + (o_ushr (wr ((o_and (wr (a0 - (o_and (o_ushr a0 1) 1431655765))) 858993459) + (o_and (o_ushr (wr (a0 - (o_and (o_ushr a0 1) 1431655765))) 2) 858993459))) 4))) 252645135)))]) rfl rfl rfl rfl rfl) ?_
  refine ok (m_iload_n (q := 35) rfl rfl rfl rfl) ?_
  refine ok (m_iload_n (q := 36) rfl rfl rfl rfl) ?_
  refine ok (m_bipush (q := 38) rfl rfl rfl) ?_
  refine ok (m_iushr (q := 39) rfl rfl rfl) ?_
  refine ok (m_iadd (q := 40) rfl rfl rfl) ?_
  refine ok (m_istore_n (q := 41) (lo' := [some (am_i (wz (wr ((o_and (wr ((wr ((o_and (wr (a0 - (o_and (o_ushr a0 1) 1431655765))) 858993459) + (o_and (o_ushr (wr (a0 - (o_and (o_ushr a0 1) 1431655765))) 2) 858993459))) + (o_ushr (wr ((o_and (wr (a0 - (o_and (o_ushr a0 1) 1431655765))) 858993459) + (o_and (o_ushr (wr (a0 - (o_and (o_ushr a0 1) 1431655765))) 2) 858993459))) 4))) 252645135) + (o_ushr (o_and (wr ((wr ((o_and (wr (a0 - (o_and (o_ushr a0 1) 1431655765))) 858993459) + (o_and (o_ushr (wr (a0 - (o_and (o_ushr a0 1) 1431655765))) 2) 858993459))) + (o_ushr (wr ((o_and (wr (a0 - (o_and (o_ushr a0 1) 1431655765))) 858993459) + (o_and (o_ushr (wr (a0 - (o_and (o_ushr a0 1) 1431655765))) 2) 858993459))) 4))) 252645135) 8)))))]) rfl rfl rfl rfl rfl) ?_
  refine ok (m_iload_n (q := 42) rfl rfl rfl rfl) ?_
  refine ok (m_iload_n (q := 43) rfl rfl rfl rfl) ?_
  refine ok (m_bipush (q := 45) rfl rfl rfl) ?_
  refine ok (m_iushr (q := 46) rfl rfl rfl) ?_
  refine ok (m_iadd (q := 47) rfl rfl rfl) ?_
  refine ok (m_istore_n (q := 48) (lo' := [some (am_i (wz (wr ((wr ((o_and (wr ((wr ((o_and (wr (a0 - (o_and (o_ushr a0 1) 1431655765))) 858993459) + (o_and (o_ushr (wr (a0 - (o_and (o_ushr a0 1) 1431655765))) 2) 858993459))) + (o_ushr (wr ((o_and (wr (a0 - (o_and (o_ushr a0 1) 1431655765))) 858993459) + (o_and (o_ushr (wr (a0 - (o_and (o_ushr a0 1) 1431655765))) 2) 858993459))) 4))) 252645135) + (o_ushr (o_and (wr ((wr ((o_and (wr (a0 - (o_and (o_ushr a0 1) 1431655765))) 858993459) + (o_and (o_ushr (wr (a0 - (o_and (o_ushr a0 1) 1431655765))) 2) 858993459))) + (o_ushr (wr ((o_and (wr (a0 - (o_and (o_ushr a0 1) 1431655765))) 858993459) + (o_and (o_ushr (wr (a0 - (o_and (o_ushr a0 1) 1431655765))) 2) 858993459))) 4))) 252645135) 8))) + (o_ushr (wr ((o_and (wr ((wr ((o_and (wr (a0 - (o_and (o_ushr a0 1) 1431655765))) 858993459) + (o_and (o_ushr (wr (a0 - (o_and (o_ushr a0 1) 1431655765))) 2) 858993459))) + (o_ushr (wr ((o_and (wr (a0 - (o_and (o_ushr a0 1) 1431655765))) 858993459) + (o_and (o_ushr (wr (a0 - (o_and (o_ushr a0 1) 1431655765))) 2) 858993459))) 4))) 252645135) + (o_ushr (o_and (wr ((wr ((o_and (wr (a0 - (o_and (o_ushr a0 1) 1431655765))) 858993459) + (o_and (o_ushr (wr (a0 - (o_and (o_ushr a0 1) 1431655765))) 2) 858993459))) + (o_ushr (wr ((o_and (wr (a0 - (o_and (o_ushr a0 1) 1431655765))) 858993459) + (o_and (o_ushr (wr (a0 - (o_and (o_ushr a0 1) 1431655765))) 2) 858993459))) 4))) 252645135) 8))) 16)))))]) rfl rfl rfl rfl rfl) ?_
  refine ok (m_iload_n (q := 49) rfl rfl rfl rfl) ?_
  refine ok (m_bipush (q := 51) rfl rfl rfl) ?_
  refine ok (m_iand (q := 52) rfl rfl rfl) ?_
  exact ok (m_reti rfl rfl) (ok_i hr (rg_o _))
abbrev P_X12_one : Nat → Option am_E := am_fy tb_X12_one
def v_X12_one (D : aD) (a0 : Int) : Int := if a0 = 0 then 0 else 1
set_option maxRecDepth 100000 in
theorem ev_X12_one {n : Nat} {A : aA} {D : aD} (a0 : Int) (h0 : rg a0) (b0 : 0 ≤ a0 ∧ a0 ≤ 1) : Ev (n) 1 122 [am_i (wz a0)] A D (ri (v_X12_one D a0)) A D := by
  unfold v_X12_one
  refine Ev_of (c := 0) (P := P_X12_one) (lo := [some (am_i (wz a0))]) rfl rfl rfl (fun d hd s hr => ?_)
  refine ok (m_iload_n (q := 1) rfl rfl rfl rfl) ?_
  refine okp (m_ifeq (qt := 8) (qf := 4) rfl rfl h0 rfl rfl) (fun c1 => ?_) (fun c1 => ?_)
  · refine ok (m_iconst (q := 9) rfl rfl rfl) ?_
    exact ok (m_reti rfl rfl) (ok_i hr ⟨by decide, by decide⟩)
  · refine ok (m_iconst (q := 5) rfl rfl rfl) ?_
    refine ok (m_goto (q := 9) rfl rfl rfl) ?_
    exact ok (m_reti rfl rfl) (ok_i hr ⟨by decide, by decide⟩)
abbrev P_X12_told : Nat → Option am_E := am_fy tb_X12_told
def v_X12_told (D : aD) (l0 : Int64) : Int := if o_lcmp l0 (2002872165 : Int64) = 0 then 0 else if o_lcmp l0 (1886352244 : Int64) = 0 then 1 else if o_lcmp l0 (1953462126 : Int64) = 0 then 2 else if o_lcmp l0 (6383461 : Int64) = 0 then 3 else if o_lcmp l0 (126905167408243 : Int64) = 0 then 4 else if o_lcmp l0 (6578553 : Int64) = 0 then 5 else (-1)
set_option maxRecDepth 100000 in
theorem ev_X12_told {n : Nat} {A : aA} {D : aD} (l0 : Int64) : Ev (n) 1 162 [am_l l0] A D (ri (v_X12_told D l0)) A D := by
  unfold v_X12_told
  refine Ev_of (c := 0) (P := P_X12_told) (lo := [some (am_l l0), none]) rfl rfl rfl (fun d hd s hr => ?_)
  refine ok (m_lload_n (q := 1) rfl rfl rfl rfl) ?_
  refine ok (m_ldc2_w (q := 4) rfl rfl rfl) ?_
  refine ok (m_lcmp (q := 5) rfl rfl rfl) ?_
  refine okp (m_ifne (qt := 12) (qf := 8) rfl rfl (rg_lcmp _ _) rfl rfl) (fun c1 => ?_) (fun c1 => ?_)
  · refine ok (m_iconst (q := 9) rfl rfl rfl) ?_
    refine ok (m_goto (q := 73) rfl rfl rfl) ?_
    exact ok (m_reti rfl rfl) (ok_i hr ⟨by decide, by decide⟩)
  · refine ok (m_lload_n (q := 13) rfl rfl rfl rfl) ?_
    refine ok (m_ldc2_w (q := 16) rfl rfl rfl) ?_
    refine ok (m_lcmp (q := 17) rfl rfl rfl) ?_
    refine okp (m_ifne (qt := 24) (qf := 20) rfl rfl (rg_lcmp _ _) rfl rfl) (fun c2 => ?_) (fun c2 => ?_)
    · refine ok (m_iconst (q := 21) rfl rfl rfl) ?_
      refine ok (m_goto (q := 73) rfl rfl rfl) ?_
      exact ok (m_reti rfl rfl) (ok_i hr ⟨by decide, by decide⟩)
    · refine ok (m_lload_n (q := 25) rfl rfl rfl rfl) ?_
      refine ok (m_ldc2_w (q := 28) rfl rfl rfl) ?_
      refine ok (m_lcmp (q := 29) rfl rfl rfl) ?_
      refine okp (m_ifne (qt := 36) (qf := 32) rfl rfl (rg_lcmp _ _) rfl rfl) (fun c3 => ?_) (fun c3 => ?_)
      · refine ok (m_iconst (q := 33) rfl rfl rfl) ?_
        refine ok (m_goto (q := 73) rfl rfl rfl) ?_
        exact ok (m_reti rfl rfl) (ok_i hr ⟨by decide, by decide⟩)
      · refine ok (m_lload_n (q := 37) rfl rfl rfl rfl) ?_
        refine ok (m_ldc2_w (q := 40) rfl rfl rfl) ?_
        refine ok (m_lcmp (q := 41) rfl rfl rfl) ?_
        refine okp (m_ifne (qt := 48) (qf := 44) rfl rfl (rg_lcmp _ _) rfl rfl) (fun c4 => ?_) (fun c4 => ?_)
        · refine ok (m_iconst (q := 45) rfl rfl rfl) ?_
          refine ok (m_goto (q := 73) rfl rfl rfl) ?_
          exact ok (m_reti rfl rfl) (ok_i hr ⟨by decide, by decide⟩)
        · refine ok (m_lload_n (q := 49) rfl rfl rfl rfl) ?_
          refine ok (m_ldc2_w (q := 52) rfl rfl rfl) ?_
          refine ok (m_lcmp (q := 53) rfl rfl rfl) ?_
          refine okp (m_ifne (qt := 60) (qf := 56) rfl rfl (rg_lcmp _ _) rfl rfl) (fun c5 => ?_) (fun c5 => ?_)
          · refine ok (m_iconst (q := 57) rfl rfl rfl) ?_
            refine ok (m_goto (q := 73) rfl rfl rfl) ?_
            exact ok (m_reti rfl rfl) (ok_i hr ⟨by decide, by decide⟩)
          · refine ok (m_lload_n (q := 61) rfl rfl rfl rfl) ?_
            refine ok (m_ldc2_w (q := 64) rfl rfl rfl) ?_
            refine ok (m_lcmp (q := 65) rfl rfl rfl) ?_
            refine okp (m_ifne (qt := 72) (qf := 68) rfl rfl (rg_lcmp _ _) rfl rfl) (fun c6 => ?_) (fun c6 => ?_)
            · refine ok (m_iconst (q := 69) rfl rfl rfl) ?_
              refine ok (m_goto (q := 73) rfl rfl rfl) ?_
              exact ok (m_reti rfl rfl) (ok_i hr ⟨by decide, by decide⟩)
            · refine ok (m_iconst (q := 73) rfl rfl rfl) ?_
              exact ok (m_reti rfl rfl) (ok_i hr ⟨by decide, by decide⟩)
abbrev P_X11_day : Nat → Option am_E := am_fy tb_X11_day
def v_X11_day (D : aD) (a1 : Int) : Int := if a1 ≤ D 32 14 then 0 else if a1 ≤ 999 then 1 else 0
def u_X11_day (D : aD) (a1 : Int) : aD := if a1 ≤ D 32 14 then D else if a1 ≤ 999 then (up D 32 14 a1) else D
theorem b_X11_day (D : aD) (a1 : Int) : 0 ≤ v_X11_day D a1 ∧ v_X11_day D a1 ≤ 1 := b01 (fun c1 => ⟨by decide, by decide⟩) (fun c1 => b01 (fun c2 => ⟨by decide, by decide⟩) (fun c2 => ⟨by decide, by decide⟩))
set_option maxRecDepth 100000 in
theorem ev_X11_day {n : Nat} {A : aA} {D : aD} (a1 : Int) (h1 : rg a1) : Ev (n) 1 71 [am_r (some 32), am_i (wz a1)] A D (ri (v_X11_day D a1)) A (u_X11_day D a1) := by
  unfold v_X11_day u_X11_day
  refine Ev_of (c := 0) (P := P_X11_day) (lo := [some (am_r (some 32)), some (am_i (wz a1))]) rfl rfl rfl (fun d hd s hr => ?_)
  refine ok (m_iload_n (q := 1) rfl rfl rfl rfl) ?_
  refine ok (m_aload_n (q := 2) rfl rfl rfl rfl) ?_
  refine ok (m_gfs (z := 14) (q := 5) rfl rfl rfl hr rfl rfl rfl rfl rfl) ?_
  refine okf (m_cmple (qt := 15) (qf := 8) rfl rfl h1 (Rp_rg hr 32 14) rfl rfl) (fun c1 => ?_) (fun c1 => ?_)
  · refine ok (m_iconst (q := 16) rfl rfl rfl) ?_
    exact ok (m_retb rfl rfl ⟨by decide, by decide⟩) (ok_i hr ⟨by decide, by decide⟩)
  · refine ok (m_iload_n (q := 9) rfl rfl rfl rfl) ?_
    refine ok (m_sipush (q := 12) rfl rfl rfl) ?_
    refine okf (m_cmple (qt := 17) (qf := 15) rfl rfl h1 ⟨by decide, by decide⟩ rfl rfl) (fun c2 => ?_) (fun c2 => ?_)
    · refine ok (m_aload_n (q := 18) rfl rfl rfl rfl) ?_
      refine ok (m_iload_n (q := 19) rfl rfl rfl rfl) ?_
      refine oke (e_pfs (q := 22) rfl rfl rfl hr rfl rfl rfl rfl h1) (fun s4 r3 => ?_)
      refine ok (m_iconst (q := 23) rfl rfl rfl) ?_
      exact ok (m_retb rfl rfl ⟨by decide, by decide⟩) (ok_i r3 ⟨by decide, by decide⟩)
    · refine ok (m_iconst (q := 16) rfl rfl rfl) ?_
      exact ok (m_retb rfl rfl ⟨by decide, by decide⟩) (ok_i hr ⟨by decide, by decide⟩)
theorem fl_X11_day (D : aD) (a1 : Int) (t : Nat) (i : Int) (ht : Nat.ble t 49 = true) : u_X11_day D a1 (900 + t) i = D (900 + t) i := fl_if (rfl) (fl_if ((up_c (fl_ne rfl ht)).trans (rfl)) (rfl))
abbrev P_X12_day : Nat → Option am_E := am_fy tb_X12_day
def v_X12_day (D : aD) (a1 : Int) : Int := if a1 ≤ D 70 0 then 0 else if a1 ≤ 999 then 1 else 0
def u_X12_day (D : aD) (a1 : Int) : aD := if a1 ≤ D 70 0 then D else if a1 ≤ 999 then (up D 70 0 a1) else D
theorem b_X12_day (D : aD) (a1 : Int) : 0 ≤ v_X12_day D a1 ∧ v_X12_day D a1 ≤ 1 := b01 (fun c1 => ⟨by decide, by decide⟩) (fun c1 => b01 (fun c2 => ⟨by decide, by decide⟩) (fun c2 => ⟨by decide, by decide⟩))
set_option maxRecDepth 100000 in
theorem ev_X12_day {n : Nat} {A : aA} {D : aD} (a1 : Int) (h1 : rg a1) : Ev (n) 1 130 [am_r (some 70), am_i (wz a1)] A D (ri (v_X12_day D a1)) A (u_X12_day D a1) := by
  unfold v_X12_day u_X12_day
  refine Ev_of (c := 0) (P := P_X12_day) (lo := [some (am_r (some 70)), some (am_i (wz a1))]) rfl rfl rfl (fun d hd s hr => ?_)
  refine ok (m_iload_n (q := 1) rfl rfl rfl rfl) ?_
  refine ok (m_aload_n (q := 2) rfl rfl rfl rfl) ?_
  refine ok (m_gfs (z := 0) (q := 5) rfl rfl rfl hr rfl rfl rfl rfl rfl) ?_
  refine okf (m_cmple (qt := 15) (qf := 8) rfl rfl h1 (Rp_rg hr 70 0) rfl rfl) (fun c1 => ?_) (fun c1 => ?_)
  · refine ok (m_iconst (q := 16) rfl rfl rfl) ?_
    exact ok (m_retb rfl rfl ⟨by decide, by decide⟩) (ok_i hr ⟨by decide, by decide⟩)
  · refine ok (m_iload_n (q := 9) rfl rfl rfl rfl) ?_
    refine ok (m_sipush (q := 12) rfl rfl rfl) ?_
    refine okf (m_cmple (qt := 17) (qf := 15) rfl rfl h1 ⟨by decide, by decide⟩ rfl rfl) (fun c2 => ?_) (fun c2 => ?_)
    · refine ok (m_aload_n (q := 18) rfl rfl rfl rfl) ?_
      refine ok (m_iload_n (q := 19) rfl rfl rfl rfl) ?_
      refine oke (e_pfs (q := 22) rfl rfl rfl hr rfl rfl rfl rfl h1) (fun s4 r3 => ?_)
      refine ok (m_iconst (q := 23) rfl rfl rfl) ?_
      exact ok (m_retb rfl rfl ⟨by decide, by decide⟩) (ok_i r3 ⟨by decide, by decide⟩)
    · refine ok (m_iconst (q := 16) rfl rfl rfl) ?_
      exact ok (m_retb rfl rfl ⟨by decide, by decide⟩) (ok_i hr ⟨by decide, by decide⟩)
theorem fl_X12_day (D : aD) (a1 : Int) (t : Nat) (i : Int) (ht : Nat.ble t 49 = true) : u_X12_day D a1 (900 + t) i = D (900 + t) i := fl_if (rfl) (fl_if ((up_c (fl_ne rfl ht)).trans (rfl)) (rfl))
abbrev P_X12_servant : Nat → Option am_E := am_fy tb_X12_servant
def v_X12_servant (D : aD) (a1 : Int) (a2 : Int) (a3 : Int) (a4 : Int) : Int := if v_X12_isIn D a1 (-20000) (D 70 0) = 0 then (-1) else if v_X12_isIn D a2 0 255 = 0 then (-1) else if v_X12_isIn D a3 0 3 = 0 then (-1) else if v_X12_isIn D a4 0 4 = 0 then (-1) else if D 70 1 = 24 then (-1) else wr ((wr ((D 70 1) + 1)) - 1)
def u_X12_servant (D : aD) (a1 : Int) (a2 : Int) (a3 : Int) (a4 : Int) : aD := if v_X12_isIn D a1 (-20000) (D 70 0) = 0 then D else if v_X12_isIn D a2 0 255 = 0 then D else if v_X12_isIn D a3 0 3 = 0 then D else if v_X12_isIn D a4 0 4 = 0 then D else if D 70 1 = 24 then D else (up (up (up (up (up D 71 (D 70 1) a1) 72 (D 70 1) a2) 73 (D 70 1) a3) 74 (D 70 1) a4) 70 1 (wr ((D 70 1) + 1)))
def p_X12_servant (D : aD) (a1 : Int) (a2 : Int) (a3 : Int) (a4 : Int) : Prop := (if v_X12_isIn D a1 (-20000) (D 70 0) = 0 then True else (if v_X12_isIn D a2 0 255 = 0 then True else (if v_X12_isIn D a3 0 3 = 0 then True else (if v_X12_isIn D a4 0 4 = 0 then True else (if D 70 1 = 24 then True else (0 ≤ D 70 1 ∧ D 70 1 < 24))))))
set_option maxRecDepth 100000 in
theorem ev_X12_servant {n : Nat} {A : aA} {D : aD} (a1 : Int) (a2 : Int) (a3 : Int) (a4 : Int) (h1 : rg a1) (h2 : rg a2) (h3 : rg a3) (h4 : rg a4) (hp : p_X12_servant D a1 a2 a3 a4) : Ev (n) 2 131 [am_r (some 70), am_i (wz a1), am_i (wz a2), am_i (wz a3), am_i (wz a4)] A D (ri (v_X12_servant D a1 a2 a3 a4)) A (u_X12_servant D a1 a2 a3 a4) := by
  unfold p_X12_servant at hp
  unfold v_X12_servant u_X12_servant
  refine Ev_of (c := 1) (P := P_X12_servant) (lo := [some (am_r (some 70)), some (am_i (wz a1)), some (am_i (wz a2)), some (am_i (wz a3)), some (am_i (wz a4))]) rfl rfl rfl (fun d hd s hr => ?_)
  refine ok (m_iload_n (q := 1) rfl rfl rfl rfl) ?_
  refine ok (m_sipush (q := 4) rfl rfl rfl) ?_
  refine ok (m_aload_n (q := 5) rfl rfl rfl rfl) ?_
  refine ok (m_gfs (z := 0) (q := 8) rfl rfl rfl hr rfl rfl rfl rfl rfl) ?_
  refine oke (e_ci (x_cs (q := 11) rfl rfl rfl rfl rfl rfl rfl rfl rfl) (ev_X12_isIn (D := D) a1 (-20000) (D 70 0) h1 ⟨by decide, by decide⟩ (Rp_rg hr 70 0)) (Nat.le_trans (by decide) hd) hr) (fun s1 r2 => ?_)
  refine okf (m_ifeq (qt := 53) (qf := 14) rfl rfl (Ev_rg (ev_X12_isIn (D := D) a1 (-20000) (D 70 0) h1 ⟨by decide, by decide⟩ (Rp_rg hr 70 0)) hr) rfl rfl) (fun c3 => ?_) (fun c3 => ?_)
  · refine ok (m_iconst (q := 54) rfl rfl rfl) ?_
    exact ok (m_reti rfl rfl) (ok_i r2 ⟨by decide, by decide⟩)
  · replace hp := iq c3 hp
    refine ok (m_iload_n (q := 15) rfl rfl rfl rfl) ?_
    refine ok (m_iconst (q := 16) rfl rfl rfl) ?_
    refine ok (m_sipush (q := 19) rfl rfl rfl) ?_
    refine oke (e_ci (x_cs (q := 22) rfl rfl rfl rfl rfl rfl rfl rfl rfl) (ev_X12_isIn (D := D) a2 0 255 h2 ⟨by decide, by decide⟩ ⟨by decide, by decide⟩) (Nat.le_trans (by decide) hd) r2) (fun s4 r5 => ?_)
    refine okf (m_ifeq (qt := 53) (qf := 25) rfl rfl (Ev_rg (ev_X12_isIn (D := D) a2 0 255 h2 ⟨by decide, by decide⟩ ⟨by decide, by decide⟩) r2) rfl rfl) (fun c6 => ?_) (fun c6 => ?_)
    · refine ok (m_iconst (q := 54) rfl rfl rfl) ?_
      exact ok (m_reti rfl rfl) (ok_i r5 ⟨by decide, by decide⟩)
    · replace hp := iq c6 hp
      refine ok (m_iload_n (q := 26) rfl rfl rfl rfl) ?_
      refine ok (m_iconst (q := 27) rfl rfl rfl) ?_
      refine ok (m_iconst (q := 28) rfl rfl rfl) ?_
      refine oke (e_ci (x_cs (q := 31) rfl rfl rfl rfl rfl rfl rfl rfl rfl) (ev_X12_isIn (D := D) a3 0 3 h3 ⟨by decide, by decide⟩ ⟨by decide, by decide⟩) (Nat.le_trans (by decide) hd) r5) (fun s7 r8 => ?_)
      refine okf (m_ifeq (qt := 53) (qf := 34) rfl rfl (Ev_rg (ev_X12_isIn (D := D) a3 0 3 h3 ⟨by decide, by decide⟩ ⟨by decide, by decide⟩) r5) rfl rfl) (fun c9 => ?_) (fun c9 => ?_)
      · refine ok (m_iconst (q := 54) rfl rfl rfl) ?_
        exact ok (m_reti rfl rfl) (ok_i r8 ⟨by decide, by decide⟩)
      · replace hp := iq c9 hp
        refine ok (m_iload (q := 36) rfl rfl rfl rfl) ?_
        refine ok (m_iconst (q := 37) rfl rfl rfl) ?_
        refine ok (m_iconst (q := 38) rfl rfl rfl) ?_
        refine oke (e_ci (x_cs (q := 41) rfl rfl rfl rfl rfl rfl rfl rfl rfl) (ev_X12_isIn (D := D) a4 0 4 h4 ⟨by decide, by decide⟩ ⟨by decide, by decide⟩) (Nat.le_trans (by decide) hd) r8) (fun s10 r11 => ?_)
        refine okf (m_ifeq (qt := 53) (qf := 44) rfl rfl (Ev_rg (ev_X12_isIn (D := D) a4 0 4 h4 ⟨by decide, by decide⟩ ⟨by decide, by decide⟩) r8) rfl rfl) (fun c12 => ?_) (fun c12 => ?_)
        · refine ok (m_iconst (q := 54) rfl rfl rfl) ?_
          exact ok (m_reti rfl rfl) (ok_i r11 ⟨by decide, by decide⟩)
        · replace hp := iq c12 hp
          refine ok (m_aload_n (q := 45) rfl rfl rfl rfl) ?_
          refine ok (m_gfs (z := 1) (q := 48) rfl rfl rfl r11 rfl rfl rfl rfl rfl) ?_
          refine ok (m_bipush (q := 50) rfl rfl rfl) ?_
          refine okf (m_cmpne (qt := 55) (qf := 53) rfl rfl (Rp_rg r11 70 1) ⟨by decide, by decide⟩ rfl rfl) (fun c13 => ?_) (fun c13 => ?_)
          · refine ok (m_iconst (q := 54) rfl rfl rfl) ?_
            exact ok (m_reti rfl rfl) (ok_i r11 ⟨by decide, by decide⟩)
          · replace hp := iq c13 hp
            refine ok (m_aload_n (q := 56) rfl rfl rfl rfl) ?_
            refine ok (m_gfc (q := 59) rfl rfl rfl r11 rfl rfl rfl) ?_
            refine ok (m_aload_n (q := 60) rfl rfl rfl rfl) ?_
            refine ok (m_gfs (z := 1) (q := 63) rfl rfl rfl r11 rfl rfl rfl rfl rfl) ?_
            refine ok (m_iload_n (q := 64) rfl rfl rfl rfl) ?_
            have g16 := hp
            refine oke (e_ias (q := 65) rfl rfl rfl r11 rfl rfl g16 h1) (fun s15 r14 => ?_)
            refine ok (m_aload_n (q := 66) rfl rfl rfl rfl) ?_
            refine ok (m_gfc (q := 69) rfl rfl rfl r14 rfl rfl rfl) ?_
            refine ok (m_aload_n (q := 70) rfl rfl rfl rfl) ?_
            refine ok (m_gfs (z := 1) (q := 73) (w := D 70 1) rfl rfl rfl r14 rfl rfl rfl rfl rfl) ?_
            refine ok (m_iload_n (q := 74) rfl rfl rfl rfl) ?_
            refine oke (e_ias (q := 75) rfl rfl rfl r14 rfl rfl g16 h2) (fun s18 r17 => ?_)
            refine ok (m_aload_n (q := 76) rfl rfl rfl rfl) ?_
            refine ok (m_gfc (q := 79) rfl rfl rfl r17 rfl rfl rfl) ?_
            refine ok (m_aload_n (q := 80) rfl rfl rfl rfl) ?_
            refine ok (m_gfs (z := 1) (q := 83) (w := D 70 1) rfl rfl rfl r17 rfl rfl rfl rfl rfl) ?_
            refine ok (m_iload_n (q := 84) rfl rfl rfl rfl) ?_
            refine oke (e_ias (q := 85) rfl rfl rfl r17 rfl rfl g16 h3) (fun s20 r19 => ?_)
            refine ok (m_aload_n (q := 86) rfl rfl rfl rfl) ?_
            refine ok (m_gfc (q := 89) rfl rfl rfl r19 rfl rfl rfl) ?_
            refine ok (m_aload_n (q := 90) rfl rfl rfl rfl) ?_
            refine ok (m_gfs (z := 1) (q := 93) (w := D 70 1) rfl rfl rfl r19 rfl rfl rfl rfl rfl) ?_
            refine ok (m_iload (q := 95) rfl rfl rfl rfl) ?_
            refine oke (e_ias (q := 96) rfl rfl rfl r19 rfl rfl g16 h4) (fun s22 r21 => ?_)
            refine ok (m_aload_n (q := 97) rfl rfl rfl rfl) ?_
            refine ok (m_dup (q := 98) rfl rfl rfl rfl) ?_
            refine ok (m_gfs (z := 1) (q := 101) (w := D 70 1) rfl rfl rfl r21 rfl rfl rfl rfl rfl) ?_
            refine ok (m_iconst (q := 102) rfl rfl rfl) ?_
            refine ok (m_iadd (q := 103) rfl rfl rfl) ?_
            refine oke (e_pfs (q := 106) rfl rfl rfl r21 rfl rfl rfl rfl (rg_wr _)) (fun s24 r23 => ?_)
            refine ok (m_aload_n (q := 107) rfl rfl rfl rfl) ?_
            refine ok (m_gfs (z := 1) (q := 110) (w := wr ((D 70 1) + 1)) rfl rfl rfl r23 rfl rfl rfl rfl up_eq) ?_
            refine ok (m_iconst (q := 111) rfl rfl rfl) ?_
            refine ok (m_isub (q := 112) rfl rfl rfl) ?_
            exact ok (m_reti rfl rfl) (ok_i r23 (rg_wr _))
theorem fl_X12_servant (D : aD) (a1 : Int) (a2 : Int) (a3 : Int) (a4 : Int) (t : Nat) (i : Int) (ht : Nat.ble t 49 = true) : u_X12_servant D a1 a2 a3 a4 (900 + t) i = D (900 + t) i := fl_if (rfl) (fl_if (rfl) (fl_if (rfl) (fl_if (rfl) (fl_if (rfl) ((up_c (fl_ne rfl ht)).trans ((up_c (fl_ne rfl ht)).trans ((up_c (fl_ne rfl ht)).trans ((up_c (fl_ne rfl ht)).trans ((up_c (fl_ne rfl ht)).trans (rfl))))))))))
abbrev P_X11_house : Nat → Option am_E := am_fy tb_X11_house
def v_X11_house (D : aD) (a1 : Int) : Int := if v_X11_between D a1 0 4 = 0 then (-1) else if D 32 15 < 12 then wr ((wr ((D 32 15) + 1)) - 1) else (-1)
def u_X11_house (D : aD) (a1 : Int) : aD := if v_X11_between D a1 0 4 = 0 then D else if D 32 15 < 12 then (up (up D 34 (D 32 15) a1) 32 15 (wr ((D 32 15) + 1))) else D
def p_X11_house (D : aD) (a1 : Int) : Prop := (if v_X11_between D a1 0 4 = 0 then True else (if D 32 15 < 12 then (0 ≤ D 32 15 ∧ D 32 15 < 12) else True))
set_option maxRecDepth 100000 in
theorem ev_X11_house {n : Nat} {A : aA} {D : aD} (a1 : Int) (h1 : rg a1) (hp : p_X11_house D a1) : Ev (n) 2 73 [am_r (some 32), am_i (wz a1)] A D (ri (v_X11_house D a1)) A (u_X11_house D a1) := by
  unfold p_X11_house at hp
  unfold v_X11_house u_X11_house
  refine Ev_of (c := 1) (P := P_X11_house) (lo := [some (am_r (some 32)), some (am_i (wz a1))]) rfl rfl rfl (fun d hd s hr => ?_)
  refine ok (m_iload_n (q := 1) rfl rfl rfl rfl) ?_
  refine ok (m_iconst (q := 2) rfl rfl rfl) ?_
  refine ok (m_iconst (q := 3) rfl rfl rfl) ?_
  refine oke (e_ci (x_cs (q := 6) rfl rfl rfl rfl rfl rfl rfl rfl rfl) (ev_X11_between (D := D) a1 0 4 h1 ⟨by decide, by decide⟩ ⟨by decide, by decide⟩) (Nat.le_trans (by decide) hd) hr) (fun s1 r2 => ?_)
  refine okf (m_ifeq (qt := 18) (qf := 9) rfl rfl (Ev_rg (ev_X11_between (D := D) a1 0 4 h1 ⟨by decide, by decide⟩ ⟨by decide, by decide⟩) hr) rfl rfl) (fun c3 => ?_) (fun c3 => ?_)
  · refine ok (m_iconst (q := 19) rfl rfl rfl) ?_
    exact ok (m_reti rfl rfl) (ok_i r2 ⟨by decide, by decide⟩)
  · replace hp := iq c3 hp
    refine ok (m_aload_n (q := 10) rfl rfl rfl rfl) ?_
    refine ok (m_gfs (z := 15) (q := 13) rfl rfl rfl r2 rfl rfl rfl rfl rfl) ?_
    refine ok (m_bipush (q := 15) rfl rfl rfl) ?_
    refine okf (m_cmplt (qt := 20) (qf := 18) rfl rfl (Rp_rg r2 32 15) ⟨by decide, by decide⟩ rfl rfl) (fun c4 => ?_) (fun c4 => ?_)
    · replace hp := ip c4 hp
      refine ok (m_aload_n (q := 21) rfl rfl rfl rfl) ?_
      refine ok (m_gfc (q := 24) rfl rfl rfl r2 rfl rfl rfl) ?_
      refine ok (m_aload_n (q := 25) rfl rfl rfl rfl) ?_
      refine ok (m_gfs (z := 15) (q := 28) rfl rfl rfl r2 rfl rfl rfl rfl rfl) ?_
      refine ok (m_iload_n (q := 29) rfl rfl rfl rfl) ?_
      have g7 := hp
      refine oke (e_ias (q := 30) rfl rfl rfl r2 rfl rfl g7 h1) (fun s6 r5 => ?_)
      refine ok (m_aload_n (q := 31) rfl rfl rfl rfl) ?_
      refine ok (m_dup (q := 32) rfl rfl rfl rfl) ?_
      refine ok (m_gfs (z := 15) (q := 35) (w := D 32 15) rfl rfl rfl r5 rfl rfl rfl rfl rfl) ?_
      refine ok (m_iconst (q := 36) rfl rfl rfl) ?_
      refine ok (m_iadd (q := 37) rfl rfl rfl) ?_
      refine oke (e_pfs (q := 40) rfl rfl rfl r5 rfl rfl rfl rfl (rg_wr _)) (fun s9 r8 => ?_)
      refine ok (m_aload_n (q := 41) rfl rfl rfl rfl) ?_
      refine ok (m_gfs (z := 15) (q := 44) (w := wr ((D 32 15) + 1)) rfl rfl rfl r8 rfl rfl rfl rfl up_eq) ?_
      refine ok (m_iconst (q := 45) rfl rfl rfl) ?_
      refine ok (m_isub (q := 46) rfl rfl rfl) ?_
      exact ok (m_reti rfl rfl) (ok_i r8 (rg_wr _))
    · refine ok (m_iconst (q := 19) rfl rfl rfl) ?_
      exact ok (m_reti rfl rfl) (ok_i r2 ⟨by decide, by decide⟩)
theorem fl_X11_house (D : aD) (a1 : Int) (t : Nat) (i : Int) (ht : Nat.ble t 49 = true) : u_X11_house D a1 (900 + t) i = D (900 + t) i := fl_if (rfl) (fl_if ((up_c (fl_ne rfl ht)).trans ((up_c (fl_ne rfl ht)).trans (rfl))) (rfl))
abbrev P_X12_house : Nat → Option am_E := am_fy tb_X12_house
def v_X12_house (D : aD) (a1 : Int) : Int := if v_X12_isIn D a1 0 4 = 0 then (-1) else if D 70 2 = 12 then (-1) else wr ((wr ((D 70 2) + 1)) - 1)
def u_X12_house (D : aD) (a1 : Int) : aD := if v_X12_isIn D a1 0 4 = 0 then D else if D 70 2 = 12 then D else (up (up D 75 (D 70 2) a1) 70 2 (wr ((D 70 2) + 1)))
def p_X12_house (D : aD) (a1 : Int) : Prop := (if v_X12_isIn D a1 0 4 = 0 then True else (if D 70 2 = 12 then True else (0 ≤ D 70 2 ∧ D 70 2 < 12)))
set_option maxRecDepth 100000 in
theorem ev_X12_house {n : Nat} {A : aA} {D : aD} (a1 : Int) (h1 : rg a1) (hp : p_X12_house D a1) : Ev (n) 2 132 [am_r (some 70), am_i (wz a1)] A D (ri (v_X12_house D a1)) A (u_X12_house D a1) := by
  unfold p_X12_house at hp
  unfold v_X12_house u_X12_house
  refine Ev_of (c := 1) (P := P_X12_house) (lo := [some (am_r (some 70)), some (am_i (wz a1))]) rfl rfl rfl (fun d hd s hr => ?_)
  refine ok (m_iload_n (q := 1) rfl rfl rfl rfl) ?_
  refine ok (m_iconst (q := 2) rfl rfl rfl) ?_
  refine ok (m_iconst (q := 3) rfl rfl rfl) ?_
  refine oke (e_ci (x_cs (q := 6) rfl rfl rfl rfl rfl rfl rfl rfl rfl) (ev_X12_isIn (D := D) a1 0 4 h1 ⟨by decide, by decide⟩ ⟨by decide, by decide⟩) (Nat.le_trans (by decide) hd) hr) (fun s1 r2 => ?_)
  refine okf (m_ifeq (qt := 18) (qf := 9) rfl rfl (Ev_rg (ev_X12_isIn (D := D) a1 0 4 h1 ⟨by decide, by decide⟩ ⟨by decide, by decide⟩) hr) rfl rfl) (fun c3 => ?_) (fun c3 => ?_)
  · refine ok (m_iconst (q := 19) rfl rfl rfl) ?_
    exact ok (m_reti rfl rfl) (ok_i r2 ⟨by decide, by decide⟩)
  · replace hp := iq c3 hp
    refine ok (m_aload_n (q := 10) rfl rfl rfl rfl) ?_
    refine ok (m_gfs (z := 2) (q := 13) rfl rfl rfl r2 rfl rfl rfl rfl rfl) ?_
    refine ok (m_bipush (q := 15) rfl rfl rfl) ?_
    refine okf (m_cmpne (qt := 20) (qf := 18) rfl rfl (Rp_rg r2 70 2) ⟨by decide, by decide⟩ rfl rfl) (fun c4 => ?_) (fun c4 => ?_)
    · refine ok (m_iconst (q := 19) rfl rfl rfl) ?_
      exact ok (m_reti rfl rfl) (ok_i r2 ⟨by decide, by decide⟩)
    · replace hp := iq c4 hp
      refine ok (m_aload_n (q := 21) rfl rfl rfl rfl) ?_
      refine ok (m_gfc (q := 24) rfl rfl rfl r2 rfl rfl rfl) ?_
      refine ok (m_aload_n (q := 25) rfl rfl rfl rfl) ?_
      refine ok (m_gfs (z := 2) (q := 28) rfl rfl rfl r2 rfl rfl rfl rfl rfl) ?_
      refine ok (m_iload_n (q := 29) rfl rfl rfl rfl) ?_
      have g7 := hp
      refine oke (e_ias (q := 30) rfl rfl rfl r2 rfl rfl g7 h1) (fun s6 r5 => ?_)
      refine ok (m_aload_n (q := 31) rfl rfl rfl rfl) ?_
      refine ok (m_dup (q := 32) rfl rfl rfl rfl) ?_
      refine ok (m_gfs (z := 2) (q := 35) (w := D 70 2) rfl rfl rfl r5 rfl rfl rfl rfl rfl) ?_
      refine ok (m_iconst (q := 36) rfl rfl rfl) ?_
      refine ok (m_iadd (q := 37) rfl rfl rfl) ?_
      refine oke (e_pfs (q := 40) rfl rfl rfl r5 rfl rfl rfl rfl (rg_wr _)) (fun s9 r8 => ?_)
      refine ok (m_aload_n (q := 41) rfl rfl rfl rfl) ?_
      refine ok (m_gfs (z := 2) (q := 44) (w := wr ((D 70 2) + 1)) rfl rfl rfl r8 rfl rfl rfl rfl up_eq) ?_
      refine ok (m_iconst (q := 45) rfl rfl rfl) ?_
      refine ok (m_isub (q := 46) rfl rfl rfl) ?_
      exact ok (m_reti rfl rfl) (ok_i r8 (rg_wr _))
theorem fl_X12_house (D : aD) (a1 : Int) (t : Nat) (i : Int) (ht : Nat.ble t 49 = true) : u_X12_house D a1 (900 + t) i = D (900 + t) i := fl_if (rfl) (fl_if (rfl) ((up_c (fl_ne rfl ht)).trans ((up_c (fl_ne rfl ht)).trans (rfl))))
abbrev P_X11_lag : Nat → Option am_E := am_fy tb_X11_lag
def v_X11_lag (D : aD) (a1 : Int) (a2 : Int) : Int := if v_X11_between D a1 0 4 = 0 then 0 else if v_X11_between D a2 0 30 = 0 then 0 else 1
def u_X11_lag (D : aD) (a1 : Int) (a2 : Int) : aD := if v_X11_between D a1 0 4 = 0 then D else if v_X11_between D a2 0 30 = 0 then D else (up D 33 a1 a2)
def p_X11_lag (D : aD) (a1 : Int) (a2 : Int) : Prop := (if v_X11_between D a1 0 4 = 0 then True else (if v_X11_between D a2 0 30 = 0 then True else (0 ≤ a1 ∧ a1 < 5)))
theorem b_X11_lag (D : aD) (a1 : Int) (a2 : Int) : 0 ≤ v_X11_lag D a1 a2 ∧ v_X11_lag D a1 a2 ≤ 1 := b01 (fun c3 => ⟨by decide, by decide⟩) (fun c3 => b01 (fun c6 => ⟨by decide, by decide⟩) (fun c6 => ⟨by decide, by decide⟩))
set_option maxRecDepth 100000 in
theorem ev_X11_lag {n : Nat} {A : aA} {D : aD} (a1 : Int) (a2 : Int) (h1 : rg a1) (h2 : rg a2) (hp : p_X11_lag D a1 a2) : Ev (n) 2 74 [am_r (some 32), am_i (wz a1), am_i (wz a2)] A D (ri (v_X11_lag D a1 a2)) A (u_X11_lag D a1 a2) := by
  unfold p_X11_lag at hp
  unfold v_X11_lag u_X11_lag
  refine Ev_of (c := 1) (P := P_X11_lag) (lo := [some (am_r (some 32)), some (am_i (wz a1)), some (am_i (wz a2))]) rfl rfl rfl (fun d hd s hr => ?_)
  refine ok (m_iload_n (q := 1) rfl rfl rfl rfl) ?_
  refine ok (m_iconst (q := 2) rfl rfl rfl) ?_
  refine ok (m_iconst (q := 3) rfl rfl rfl) ?_
  refine oke (e_ci (x_cs (q := 6) rfl rfl rfl rfl rfl rfl rfl rfl rfl) (ev_X11_between (D := D) a1 0 4 h1 ⟨by decide, by decide⟩ ⟨by decide, by decide⟩) (Nat.le_trans (by decide) hd) hr) (fun s1 r2 => ?_)
  refine okf (m_ifeq (qt := 19) (qf := 9) rfl rfl (Ev_rg (ev_X11_between (D := D) a1 0 4 h1 ⟨by decide, by decide⟩ ⟨by decide, by decide⟩) hr) rfl rfl) (fun c3 => ?_) (fun c3 => ?_)
  · refine ok (m_iconst (q := 20) rfl rfl rfl) ?_
    exact ok (m_retb rfl rfl ⟨by decide, by decide⟩) (ok_i r2 ⟨by decide, by decide⟩)
  · replace hp := iq c3 hp
    refine ok (m_iload_n (q := 10) rfl rfl rfl rfl) ?_
    refine ok (m_iconst (q := 11) rfl rfl rfl) ?_
    refine ok (m_bipush (q := 13) rfl rfl rfl) ?_
    refine oke (e_ci (x_cs (q := 16) rfl rfl rfl rfl rfl rfl rfl rfl rfl) (ev_X11_between (D := D) a2 0 30 h2 ⟨by decide, by decide⟩ ⟨by decide, by decide⟩) (Nat.le_trans (by decide) hd) r2) (fun s4 r5 => ?_)
    refine okf (m_ifne (qt := 21) (qf := 19) rfl rfl (Ev_rg (ev_X11_between (D := D) a2 0 30 h2 ⟨by decide, by decide⟩ ⟨by decide, by decide⟩) r2) rfl rfl) (fun c6 => ?_) (fun c6 => ?_)
    · refine ok (m_iconst (q := 20) rfl rfl rfl) ?_
      exact ok (m_retb rfl rfl ⟨by decide, by decide⟩) (ok_i r5 ⟨by decide, by decide⟩)
    · replace hp := iq c6 hp
      refine ok (m_aload_n (q := 22) rfl rfl rfl rfl) ?_
      refine ok (m_gfc (q := 25) rfl rfl rfl r5 rfl rfl rfl) ?_
      refine ok (m_iload_n (q := 26) rfl rfl rfl rfl) ?_
      refine ok (m_iload_n (q := 27) rfl rfl rfl rfl) ?_
      have g9 := hp
      refine oke (e_ias (q := 28) rfl rfl rfl r5 rfl rfl g9 h2) (fun s8 r7 => ?_)
      refine ok (m_iconst (q := 29) rfl rfl rfl) ?_
      exact ok (m_retb rfl rfl ⟨by decide, by decide⟩) (ok_i r7 ⟨by decide, by decide⟩)
theorem fl_X11_lag (D : aD) (a1 : Int) (a2 : Int) (t : Nat) (i : Int) (ht : Nat.ble t 49 = true) : u_X11_lag D a1 a2 (900 + t) i = D (900 + t) i := fl_if (rfl) (fl_if (rfl) ((up_c (fl_ne rfl ht)).trans (rfl)))
abbrev P_X12_lag : Nat → Option am_E := am_fy tb_X12_lag
def v_X12_lag (D : aD) (a1 : Int) (a2 : Int) : Int := if v_X12_isIn D a1 0 4 = 0 then 0 else if v_X12_isIn D a2 0 30 = 0 then 0 else 1
def u_X12_lag (D : aD) (a1 : Int) (a2 : Int) : aD := if v_X12_isIn D a1 0 4 = 0 then D else if v_X12_isIn D a2 0 30 = 0 then D else (up D 76 a1 a2)
def p_X12_lag (D : aD) (a1 : Int) (a2 : Int) : Prop := (if v_X12_isIn D a1 0 4 = 0 then True else (if v_X12_isIn D a2 0 30 = 0 then True else (0 ≤ a1 ∧ a1 < 5)))
theorem b_X12_lag (D : aD) (a1 : Int) (a2 : Int) : 0 ≤ v_X12_lag D a1 a2 ∧ v_X12_lag D a1 a2 ≤ 1 := b01 (fun c3 => ⟨by decide, by decide⟩) (fun c3 => b01 (fun c6 => ⟨by decide, by decide⟩) (fun c6 => ⟨by decide, by decide⟩))
set_option maxRecDepth 100000 in
theorem ev_X12_lag {n : Nat} {A : aA} {D : aD} (a1 : Int) (a2 : Int) (h1 : rg a1) (h2 : rg a2) (hp : p_X12_lag D a1 a2) : Ev (n) 2 133 [am_r (some 70), am_i (wz a1), am_i (wz a2)] A D (ri (v_X12_lag D a1 a2)) A (u_X12_lag D a1 a2) := by
  unfold p_X12_lag at hp
  unfold v_X12_lag u_X12_lag
  refine Ev_of (c := 1) (P := P_X12_lag) (lo := [some (am_r (some 70)), some (am_i (wz a1)), some (am_i (wz a2))]) rfl rfl rfl (fun d hd s hr => ?_)
  refine ok (m_iload_n (q := 1) rfl rfl rfl rfl) ?_
  refine ok (m_iconst (q := 2) rfl rfl rfl) ?_
  refine ok (m_iconst (q := 3) rfl rfl rfl) ?_
  refine oke (e_ci (x_cs (q := 6) rfl rfl rfl rfl rfl rfl rfl rfl rfl) (ev_X12_isIn (D := D) a1 0 4 h1 ⟨by decide, by decide⟩ ⟨by decide, by decide⟩) (Nat.le_trans (by decide) hd) hr) (fun s1 r2 => ?_)
  refine okf (m_ifeq (qt := 19) (qf := 9) rfl rfl (Ev_rg (ev_X12_isIn (D := D) a1 0 4 h1 ⟨by decide, by decide⟩ ⟨by decide, by decide⟩) hr) rfl rfl) (fun c3 => ?_) (fun c3 => ?_)
  · refine ok (m_iconst (q := 20) rfl rfl rfl) ?_
    exact ok (m_retb rfl rfl ⟨by decide, by decide⟩) (ok_i r2 ⟨by decide, by decide⟩)
  · replace hp := iq c3 hp
    refine ok (m_iload_n (q := 10) rfl rfl rfl rfl) ?_
    refine ok (m_iconst (q := 11) rfl rfl rfl) ?_
    refine ok (m_bipush (q := 13) rfl rfl rfl) ?_
    refine oke (e_ci (x_cs (q := 16) rfl rfl rfl rfl rfl rfl rfl rfl rfl) (ev_X12_isIn (D := D) a2 0 30 h2 ⟨by decide, by decide⟩ ⟨by decide, by decide⟩) (Nat.le_trans (by decide) hd) r2) (fun s4 r5 => ?_)
    refine okf (m_ifne (qt := 21) (qf := 19) rfl rfl (Ev_rg (ev_X12_isIn (D := D) a2 0 30 h2 ⟨by decide, by decide⟩ ⟨by decide, by decide⟩) r2) rfl rfl) (fun c6 => ?_) (fun c6 => ?_)
    · refine ok (m_iconst (q := 20) rfl rfl rfl) ?_
      exact ok (m_retb rfl rfl ⟨by decide, by decide⟩) (ok_i r5 ⟨by decide, by decide⟩)
    · replace hp := iq c6 hp
      refine ok (m_aload_n (q := 22) rfl rfl rfl rfl) ?_
      refine ok (m_gfc (q := 25) rfl rfl rfl r5 rfl rfl rfl) ?_
      refine ok (m_iload_n (q := 26) rfl rfl rfl rfl) ?_
      refine ok (m_iload_n (q := 27) rfl rfl rfl rfl) ?_
      have g9 := hp
      refine oke (e_ias (q := 28) rfl rfl rfl r5 rfl rfl g9 h2) (fun s8 r7 => ?_)
      refine ok (m_iconst (q := 29) rfl rfl rfl) ?_
      exact ok (m_retb rfl rfl ⟨by decide, by decide⟩) (ok_i r7 ⟨by decide, by decide⟩)
theorem fl_X12_lag (D : aD) (a1 : Int) (a2 : Int) (t : Nat) (i : Int) (ht : Nat.ble t 49 = true) : u_X12_lag D a1 a2 (900 + t) i = D (900 + t) i := fl_if (rfl) (fl_if (rfl) ((up_c (fl_ne rfl ht)).trans (rfl)))
abbrev P_X12_place : Nat → Option am_E := am_fy tb_X12_place
def v_X12_place (D : aD) (a1 : Int) (a2 : Int) (a3 : Int) (a4 : Int) (a5 : Int) (a6 : Int) : Int := if v_X12_isHouse D a1 = 0 then (-1) else if v_X12_isIn D a2 0 5 = 0 then (-1) else if v_X12_isIn D a3 1 999 = 0 then (-1) else if v_X12_isIn D a4 0 255 = 0 then (-1) else if v_X12_isIn D a5 0 99 = 0 then (-1) else if v_X12_isIn D a6 (-1) 3 = 0 then (-1) else if D 70 3 = 30 then (-1) else wr ((wr ((D 70 3) + 1)) - 1)
def u_X12_place (D : aD) (a1 : Int) (a2 : Int) (a3 : Int) (a4 : Int) (a5 : Int) (a6 : Int) : aD := if v_X12_isHouse D a1 = 0 then D else if v_X12_isIn D a2 0 5 = 0 then D else if v_X12_isIn D a3 1 999 = 0 then D else if v_X12_isIn D a4 0 255 = 0 then D else if v_X12_isIn D a5 0 99 = 0 then D else if v_X12_isIn D a6 (-1) 3 = 0 then D else if D 70 3 = 30 then D else (up (up (up (up (up (up (up D 77 (D 70 3) a1) 78 (D 70 3) a2) 79 (D 70 3) a3) 80 (D 70 3) a4) 81 (D 70 3) a5) 82 (D 70 3) a6) 70 3 (wr ((D 70 3) + 1)))
def p_X12_place (D : aD) (a1 : Int) (a2 : Int) (a3 : Int) (a4 : Int) (a5 : Int) (a6 : Int) : Prop := (if v_X12_isHouse D a1 = 0 then True else (if v_X12_isIn D a2 0 5 = 0 then True else (if v_X12_isIn D a3 1 999 = 0 then True else (if v_X12_isIn D a4 0 255 = 0 then True else (if v_X12_isIn D a5 0 99 = 0 then True else (if v_X12_isIn D a6 (-1) 3 = 0 then True else (if D 70 3 = 30 then True else (0 ≤ D 70 3 ∧ D 70 3 < 30))))))))
set_option maxRecDepth 100000 in
theorem ev_X12_place {n : Nat} {A : aA} {D : aD} (a1 : Int) (a2 : Int) (a3 : Int) (a4 : Int) (a5 : Int) (a6 : Int) (h1 : rg a1) (h2 : rg a2) (h3 : rg a3) (h4 : rg a4) (h5 : rg a5) (h6 : rg a6) (hp : p_X12_place D a1 a2 a3 a4 a5 a6) : Ev (n) 3 134 [am_r (some 70), am_i (wz a1), am_i (wz a2), am_i (wz a3), am_i (wz a4), am_i (wz a5), am_i (wz a6)] A D (ri (v_X12_place D a1 a2 a3 a4 a5 a6)) A (u_X12_place D a1 a2 a3 a4 a5 a6) := by
  unfold p_X12_place at hp
  unfold v_X12_place u_X12_place
  refine Ev_of (c := 2) (P := P_X12_place) (lo := [some (am_r (some 70)), some (am_i (wz a1)), some (am_i (wz a2)), some (am_i (wz a3)), some (am_i (wz a4)), some (am_i (wz a5)), some (am_i (wz a6))]) rfl rfl rfl (fun d hd s hr => ?_)
  refine ok (m_aload_n (q := 1) rfl rfl rfl rfl) ?_
  refine ok (m_iload_n (q := 2) rfl rfl rfl rfl) ?_
  refine oke (e_ci (x_cv (q := 5) rfl rfl rfl rfl rfl rfl rfl rfl rfl rfl (is_st hr rfl rfl)) (ev_X12_isHouse (D := D) a1 h1) (Nat.le_trans (by decide) hd) hr) (fun s1 r2 => ?_)
  refine okf (m_ifeq (qt := 70) (qf := 8) rfl rfl (Ev_rg (ev_X12_isHouse (D := D) a1 h1) hr) rfl rfl) (fun c3 => ?_) (fun c3 => ?_)
  · refine ok (m_iconst (q := 71) rfl rfl rfl) ?_
    exact ok (m_reti rfl rfl) (ok_i r2 ⟨by decide, by decide⟩)
  · replace hp := iq c3 hp
    refine ok (m_iload_n (q := 9) rfl rfl rfl rfl) ?_
    refine ok (m_iconst (q := 10) rfl rfl rfl) ?_
    refine ok (m_iconst (q := 11) rfl rfl rfl) ?_
    refine oke (e_ci (x_cs (q := 14) rfl rfl rfl rfl rfl rfl rfl rfl rfl) (ev_X12_isIn (D := D) a2 0 5 h2 ⟨by decide, by decide⟩ ⟨by decide, by decide⟩) (Nat.le_trans (by decide) hd) r2) (fun s4 r5 => ?_)
    refine okf (m_ifeq (qt := 70) (qf := 17) rfl rfl (Ev_rg (ev_X12_isIn (D := D) a2 0 5 h2 ⟨by decide, by decide⟩ ⟨by decide, by decide⟩) r2) rfl rfl) (fun c6 => ?_) (fun c6 => ?_)
    · refine ok (m_iconst (q := 71) rfl rfl rfl) ?_
      exact ok (m_reti rfl rfl) (ok_i r5 ⟨by decide, by decide⟩)
    · replace hp := iq c6 hp
      refine ok (m_iload_n (q := 18) rfl rfl rfl rfl) ?_
      refine ok (m_iconst (q := 19) rfl rfl rfl) ?_
      refine ok (m_sipush (q := 22) rfl rfl rfl) ?_
      refine oke (e_ci (x_cs (q := 25) rfl rfl rfl rfl rfl rfl rfl rfl rfl) (ev_X12_isIn (D := D) a3 1 999 h3 ⟨by decide, by decide⟩ ⟨by decide, by decide⟩) (Nat.le_trans (by decide) hd) r5) (fun s7 r8 => ?_)
      refine okf (m_ifeq (qt := 70) (qf := 28) rfl rfl (Ev_rg (ev_X12_isIn (D := D) a3 1 999 h3 ⟨by decide, by decide⟩ ⟨by decide, by decide⟩) r5) rfl rfl) (fun c9 => ?_) (fun c9 => ?_)
      · refine ok (m_iconst (q := 71) rfl rfl rfl) ?_
        exact ok (m_reti rfl rfl) (ok_i r8 ⟨by decide, by decide⟩)
      · replace hp := iq c9 hp
        refine ok (m_iload (q := 30) rfl rfl rfl rfl) ?_
        refine ok (m_iconst (q := 31) rfl rfl rfl) ?_
        refine ok (m_sipush (q := 34) rfl rfl rfl) ?_
        refine oke (e_ci (x_cs (q := 37) rfl rfl rfl rfl rfl rfl rfl rfl rfl) (ev_X12_isIn (D := D) a4 0 255 h4 ⟨by decide, by decide⟩ ⟨by decide, by decide⟩) (Nat.le_trans (by decide) hd) r8) (fun s10 r11 => ?_)
        refine okf (m_ifeq (qt := 70) (qf := 40) rfl rfl (Ev_rg (ev_X12_isIn (D := D) a4 0 255 h4 ⟨by decide, by decide⟩ ⟨by decide, by decide⟩) r8) rfl rfl) (fun c12 => ?_) (fun c12 => ?_)
        · refine ok (m_iconst (q := 71) rfl rfl rfl) ?_
          exact ok (m_reti rfl rfl) (ok_i r11 ⟨by decide, by decide⟩)
        · replace hp := iq c12 hp
          refine ok (m_iload (q := 42) rfl rfl rfl rfl) ?_
          refine ok (m_iconst (q := 43) rfl rfl rfl) ?_
          refine ok (m_bipush (q := 45) rfl rfl rfl) ?_
          refine oke (e_ci (x_cs (q := 48) rfl rfl rfl rfl rfl rfl rfl rfl rfl) (ev_X12_isIn (D := D) a5 0 99 h5 ⟨by decide, by decide⟩ ⟨by decide, by decide⟩) (Nat.le_trans (by decide) hd) r11) (fun s13 r14 => ?_)
          refine okf (m_ifeq (qt := 70) (qf := 51) rfl rfl (Ev_rg (ev_X12_isIn (D := D) a5 0 99 h5 ⟨by decide, by decide⟩ ⟨by decide, by decide⟩) r11) rfl rfl) (fun c15 => ?_) (fun c15 => ?_)
          · refine ok (m_iconst (q := 71) rfl rfl rfl) ?_
            exact ok (m_reti rfl rfl) (ok_i r14 ⟨by decide, by decide⟩)
          · replace hp := iq c15 hp
            refine ok (m_iload (q := 53) rfl rfl rfl rfl) ?_
            refine ok (m_iconst (q := 54) rfl rfl rfl) ?_
            refine ok (m_iconst (q := 55) rfl rfl rfl) ?_
            refine oke (e_ci (x_cs (q := 58) rfl rfl rfl rfl rfl rfl rfl rfl rfl) (ev_X12_isIn (D := D) a6 (-1) 3 h6 ⟨by decide, by decide⟩ ⟨by decide, by decide⟩) (Nat.le_trans (by decide) hd) r14) (fun s16 r17 => ?_)
            refine okf (m_ifeq (qt := 70) (qf := 61) rfl rfl (Ev_rg (ev_X12_isIn (D := D) a6 (-1) 3 h6 ⟨by decide, by decide⟩ ⟨by decide, by decide⟩) r14) rfl rfl) (fun c18 => ?_) (fun c18 => ?_)
            · refine ok (m_iconst (q := 71) rfl rfl rfl) ?_
              exact ok (m_reti rfl rfl) (ok_i r17 ⟨by decide, by decide⟩)
            · replace hp := iq c18 hp
              refine ok (m_aload_n (q := 62) rfl rfl rfl rfl) ?_
              refine ok (m_gfs (z := 3) (q := 65) rfl rfl rfl r17 rfl rfl rfl rfl rfl) ?_
              refine ok (m_bipush (q := 67) rfl rfl rfl) ?_
              refine okf (m_cmpne (qt := 72) (qf := 70) rfl rfl (Rp_rg r17 70 3) ⟨by decide, by decide⟩ rfl rfl) (fun c19 => ?_) (fun c19 => ?_)
              · refine ok (m_iconst (q := 71) rfl rfl rfl) ?_
                exact ok (m_reti rfl rfl) (ok_i r17 ⟨by decide, by decide⟩)
              · replace hp := iq c19 hp
                refine ok (m_aload_n (q := 73) rfl rfl rfl rfl) ?_
                refine ok (m_gfc (q := 76) rfl rfl rfl r17 rfl rfl rfl) ?_
                refine ok (m_aload_n (q := 77) rfl rfl rfl rfl) ?_
                refine ok (m_gfs (z := 3) (q := 80) rfl rfl rfl r17 rfl rfl rfl rfl rfl) ?_
                refine ok (m_iload_n (q := 81) rfl rfl rfl rfl) ?_
                have g22 := hp
                refine oke (e_ias (q := 82) rfl rfl rfl r17 rfl rfl g22 h1) (fun s21 r20 => ?_)
                refine ok (m_aload_n (q := 83) rfl rfl rfl rfl) ?_
                refine ok (m_gfc (q := 86) rfl rfl rfl r20 rfl rfl rfl) ?_
                refine ok (m_aload_n (q := 87) rfl rfl rfl rfl) ?_
                refine ok (m_gfs (z := 3) (q := 90) (w := D 70 3) rfl rfl rfl r20 rfl rfl rfl rfl rfl) ?_
                refine ok (m_iload_n (q := 91) rfl rfl rfl rfl) ?_
                refine oke (e_ias (q := 92) rfl rfl rfl r20 rfl rfl g22 h2) (fun s24 r23 => ?_)
                refine ok (m_aload_n (q := 93) rfl rfl rfl rfl) ?_
                refine ok (m_gfc (q := 96) rfl rfl rfl r23 rfl rfl rfl) ?_
                refine ok (m_aload_n (q := 97) rfl rfl rfl rfl) ?_
                refine ok (m_gfs (z := 3) (q := 100) (w := D 70 3) rfl rfl rfl r23 rfl rfl rfl rfl rfl) ?_
                refine ok (m_iload_n (q := 101) rfl rfl rfl rfl) ?_
                refine oke (e_ias (q := 102) rfl rfl rfl r23 rfl rfl g22 h3) (fun s26 r25 => ?_)
                refine ok (m_aload_n (q := 103) rfl rfl rfl rfl) ?_
                refine ok (m_gfc (q := 106) rfl rfl rfl r25 rfl rfl rfl) ?_
                refine ok (m_aload_n (q := 107) rfl rfl rfl rfl) ?_
                refine ok (m_gfs (z := 3) (q := 110) (w := D 70 3) rfl rfl rfl r25 rfl rfl rfl rfl rfl) ?_
                refine ok (m_iload (q := 112) rfl rfl rfl rfl) ?_
                refine oke (e_ias (q := 113) rfl rfl rfl r25 rfl rfl g22 h4) (fun s28 r27 => ?_)
                refine ok (m_aload_n (q := 114) rfl rfl rfl rfl) ?_
                refine ok (m_gfc (q := 117) rfl rfl rfl r27 rfl rfl rfl) ?_
                refine ok (m_aload_n (q := 118) rfl rfl rfl rfl) ?_
                refine ok (m_gfs (z := 3) (q := 121) (w := D 70 3) rfl rfl rfl r27 rfl rfl rfl rfl rfl) ?_
                refine ok (m_iload (q := 123) rfl rfl rfl rfl) ?_
                refine oke (e_ias (q := 124) rfl rfl rfl r27 rfl rfl g22 h5) (fun s30 r29 => ?_)
                refine ok (m_aload_n (q := 125) rfl rfl rfl rfl) ?_
                refine ok (m_gfc (q := 128) rfl rfl rfl r29 rfl rfl rfl) ?_
                refine ok (m_aload_n (q := 129) rfl rfl rfl rfl) ?_
                refine ok (m_gfs (z := 3) (q := 132) (w := D 70 3) rfl rfl rfl r29 rfl rfl rfl rfl rfl) ?_
                refine ok (m_iload (q := 134) rfl rfl rfl rfl) ?_
                refine oke (e_ias (q := 135) rfl rfl rfl r29 rfl rfl g22 h6) (fun s32 r31 => ?_)
                refine ok (m_aload_n (q := 136) rfl rfl rfl rfl) ?_
                refine ok (m_dup (q := 137) rfl rfl rfl rfl) ?_
                refine ok (m_gfs (z := 3) (q := 140) (w := D 70 3) rfl rfl rfl r31 rfl rfl rfl rfl rfl) ?_
                refine ok (m_iconst (q := 141) rfl rfl rfl) ?_
                refine ok (m_iadd (q := 142) rfl rfl rfl) ?_
                refine oke (e_pfs (q := 145) rfl rfl rfl r31 rfl rfl rfl rfl (rg_wr _)) (fun s34 r33 => ?_)
                refine ok (m_aload_n (q := 146) rfl rfl rfl rfl) ?_
                refine ok (m_gfs (z := 3) (q := 149) (w := wr ((D 70 3) + 1)) rfl rfl rfl r33 rfl rfl rfl rfl up_eq) ?_
                refine ok (m_iconst (q := 150) rfl rfl rfl) ?_
                refine ok (m_isub (q := 151) rfl rfl rfl) ?_
                exact ok (m_reti rfl rfl) (ok_i r33 (rg_wr _))
theorem fl_X12_place (D : aD) (a1 : Int) (a2 : Int) (a3 : Int) (a4 : Int) (a5 : Int) (a6 : Int) (t : Nat) (i : Int) (ht : Nat.ble t 49 = true) : u_X12_place D a1 a2 a3 a4 a5 a6 (900 + t) i = D (900 + t) i := fl_if (rfl) (fl_if (rfl) (fl_if (rfl) (fl_if (rfl) (fl_if (rfl) (fl_if (rfl) (fl_if (rfl) ((up_c (fl_ne rfl ht)).trans ((up_c (fl_ne rfl ht)).trans ((up_c (fl_ne rfl ht)).trans ((up_c (fl_ne rfl ht)).trans ((up_c (fl_ne rfl ht)).trans ((up_c (fl_ne rfl ht)).trans ((up_c (fl_ne rfl ht)).trans (rfl))))))))))))))
abbrev P_X12_placing : Nat → Option am_E := am_fy tb_X12_placing
def v_X12_placing (D : aD) (a1 : Int) (a2 : Int) (a3 : Int) : Int := if v_X12_isServant D a1 = 0 then (-1) else if v_X12_isPlace D a2 = 0 then (-1) else if v_X12_isIn D a3 0 (D 70 0) = 0 then (-1) else if D 70 4 = 60 then (-1) else wr ((wr ((D 70 4) + 1)) - 1)
def u_X12_placing (D : aD) (a1 : Int) (a2 : Int) (a3 : Int) : aD := if v_X12_isServant D a1 = 0 then D else if v_X12_isPlace D a2 = 0 then D else if v_X12_isIn D a3 0 (D 70 0) = 0 then D else if D 70 4 = 60 then D else (up (up (up (up (up (up (up (up D 83 (D 70 4) a1) 84 (D 70 4) a2) 85 (D 70 4) a3) 86 (D 70 4) (v_X12_letters (up (up (up D 83 (D 70 4) a1) 84 (D 70 4) a2) 85 (D 70 4) a3) a2)) 87 (D 70 4) 5000) 88 (D 70 4) (-1)) 91 (D 70 4) 5000) 70 4 (wr ((D 70 4) + 1)))
def p_X12_placing (D : aD) (a1 : Int) (a2 : Int) (a3 : Int) : Prop := (if v_X12_isServant D a1 = 0 then True else (if v_X12_isPlace D a2 = 0 then True else (if v_X12_isIn D a3 0 (D 70 0) = 0 then True else (if D 70 4 = 60 then True else (0 ≤ D 70 4 ∧ D 70 4 < 60) ∧ (p_X12_letters (up (up (up D 83 (D 70 4) a1) 84 (D 70 4) a2) 85 (D 70 4) a3) a2)))))
set_option maxRecDepth 100000 in
theorem ev_X12_placing {n : Nat} {A : aA} {D : aD} (a1 : Int) (a2 : Int) (a3 : Int) (h1 : rg a1) (h2 : rg a2) (h3 : rg a3) (hp : p_X12_placing D a1 a2 a3) : Ev (n) 3 136 [am_r (some 70), am_i (wz a1), am_i (wz a2), am_i (wz a3)] A D (ri (v_X12_placing D a1 a2 a3)) A (u_X12_placing D a1 a2 a3) := by
  unfold p_X12_placing at hp
  unfold v_X12_placing u_X12_placing
  refine Ev_of (c := 2) (P := P_X12_placing) (lo := [some (am_r (some 70)), some (am_i (wz a1)), some (am_i (wz a2)), some (am_i (wz a3))]) rfl rfl rfl (fun d hd s hr => ?_)
  refine ok (m_aload_n (q := 1) rfl rfl rfl rfl) ?_
  refine ok (m_iload_n (q := 2) rfl rfl rfl rfl) ?_
  refine oke (e_ci (x_cv (q := 5) rfl rfl rfl rfl rfl rfl rfl rfl rfl rfl (is_st hr rfl rfl)) (ev_X12_isServant (D := D) a1 h1) (Nat.le_trans (by decide) hd) hr) (fun s1 r2 => ?_)
  refine okf (m_ifeq (qt := 37) (qf := 8) rfl rfl (Ev_rg (ev_X12_isServant (D := D) a1 h1) hr) rfl rfl) (fun c3 => ?_) (fun c3 => ?_)
  · refine ok (m_iconst (q := 38) rfl rfl rfl) ?_
    exact ok (m_reti rfl rfl) (ok_i r2 ⟨by decide, by decide⟩)
  · replace hp := iq c3 hp
    refine ok (m_aload_n (q := 9) rfl rfl rfl rfl) ?_
    refine ok (m_iload_n (q := 10) rfl rfl rfl rfl) ?_
    refine oke (e_ci (x_cv (q := 13) rfl rfl rfl rfl rfl rfl rfl rfl rfl rfl (is_st r2 rfl rfl)) (ev_X12_isPlace (D := D) a2 h2) (Nat.le_trans (by decide) hd) r2) (fun s4 r5 => ?_)
    refine okf (m_ifeq (qt := 37) (qf := 16) rfl rfl (Ev_rg (ev_X12_isPlace (D := D) a2 h2) r2) rfl rfl) (fun c6 => ?_) (fun c6 => ?_)
    · refine ok (m_iconst (q := 38) rfl rfl rfl) ?_
      exact ok (m_reti rfl rfl) (ok_i r5 ⟨by decide, by decide⟩)
    · replace hp := iq c6 hp
      refine ok (m_iload_n (q := 17) rfl rfl rfl rfl) ?_
      refine ok (m_iconst (q := 18) rfl rfl rfl) ?_
      refine ok (m_aload_n (q := 19) rfl rfl rfl rfl) ?_
      refine ok (m_gfs (z := 0) (q := 22) rfl rfl rfl r5 rfl rfl rfl rfl rfl) ?_
      refine oke (e_ci (x_cs (q := 25) rfl rfl rfl rfl rfl rfl rfl rfl rfl) (ev_X12_isIn (D := D) a3 0 (D 70 0) h3 ⟨by decide, by decide⟩ (Rp_rg r5 70 0)) (Nat.le_trans (by decide) hd) r5) (fun s7 r8 => ?_)
      refine okf (m_ifeq (qt := 37) (qf := 28) rfl rfl (Ev_rg (ev_X12_isIn (D := D) a3 0 (D 70 0) h3 ⟨by decide, by decide⟩ (Rp_rg r5 70 0)) r5) rfl rfl) (fun c9 => ?_) (fun c9 => ?_)
      · refine ok (m_iconst (q := 38) rfl rfl rfl) ?_
        exact ok (m_reti rfl rfl) (ok_i r8 ⟨by decide, by decide⟩)
      · replace hp := iq c9 hp
        refine ok (m_aload_n (q := 29) rfl rfl rfl rfl) ?_
        refine ok (m_gfs (z := 4) (q := 32) rfl rfl rfl r8 rfl rfl rfl rfl rfl) ?_
        refine ok (m_bipush (q := 34) rfl rfl rfl) ?_
        refine okf (m_cmpne (qt := 39) (qf := 37) rfl rfl (Rp_rg r8 70 4) ⟨by decide, by decide⟩ rfl rfl) (fun c10 => ?_) (fun c10 => ?_)
        · refine ok (m_iconst (q := 38) rfl rfl rfl) ?_
          exact ok (m_reti rfl rfl) (ok_i r8 ⟨by decide, by decide⟩)
        · replace hp := iq c10 hp
          refine ok (m_aload_n (q := 40) rfl rfl rfl rfl) ?_
          refine ok (m_gfc (q := 43) rfl rfl rfl r8 rfl rfl rfl) ?_
          refine ok (m_aload_n (q := 44) rfl rfl rfl rfl) ?_
          refine ok (m_gfs (z := 4) (q := 47) rfl rfl rfl r8 rfl rfl rfl rfl rfl) ?_
          refine ok (m_iload_n (q := 48) rfl rfl rfl rfl) ?_
          obtain ⟨g13, hp⟩ := hp
          refine oke (e_ias (q := 49) rfl rfl rfl r8 rfl rfl g13 h1) (fun s12 r11 => ?_)
          refine ok (m_aload_n (q := 50) rfl rfl rfl rfl) ?_
          refine ok (m_gfc (q := 53) rfl rfl rfl r11 rfl rfl rfl) ?_
          refine ok (m_aload_n (q := 54) rfl rfl rfl rfl) ?_
          refine ok (m_gfs (z := 4) (q := 57) (w := D 70 4) rfl rfl rfl r11 rfl rfl rfl rfl rfl) ?_
          refine ok (m_iload_n (q := 58) rfl rfl rfl rfl) ?_
          refine oke (e_ias (q := 59) rfl rfl rfl r11 rfl rfl g13 h2) (fun s15 r14 => ?_)
          refine ok (m_aload_n (q := 60) rfl rfl rfl rfl) ?_
          refine ok (m_gfc (q := 63) rfl rfl rfl r14 rfl rfl rfl) ?_
          refine ok (m_aload_n (q := 64) rfl rfl rfl rfl) ?_
          refine ok (m_gfs (z := 4) (q := 67) (w := D 70 4) rfl rfl rfl r14 rfl rfl rfl rfl rfl) ?_
          refine ok (m_iload_n (q := 68) rfl rfl rfl rfl) ?_
          refine oke (e_ias (q := 69) rfl rfl rfl r14 rfl rfl g13 h3) (fun s17 r16 => ?_)
          refine ok (m_aload_n (q := 70) rfl rfl rfl rfl) ?_
          refine ok (m_gfc (q := 73) rfl rfl rfl r16 rfl rfl rfl) ?_
          refine ok (m_aload_n (q := 74) rfl rfl rfl rfl) ?_
          refine ok (m_gfs (z := 4) (q := 77) (w := D 70 4) rfl rfl rfl r16 rfl rfl rfl rfl rfl) ?_
          refine ok (m_aload_n (q := 78) rfl rfl rfl rfl) ?_
          refine ok (m_iload_n (q := 79) rfl rfl rfl rfl) ?_
          have g20 := hp
          refine oke (e_ci (x_cv (q := 82) rfl rfl rfl rfl rfl rfl rfl rfl rfl rfl (is_st r16 rfl rfl)) (ev_X12_letters (D := (up (up (up D 83 (D 70 4) a1) 84 (D 70 4) a2) 85 (D 70 4) a3)) a2 h2 g20) (Nat.le_trans (by decide) hd) r16) (fun s18 r19 => ?_)
          refine oke (e_ias (q := 83) rfl rfl rfl r19 rfl rfl g13 (Ev_rg (ev_X12_letters (D := (up (up (up D 83 (D 70 4) a1) 84 (D 70 4) a2) 85 (D 70 4) a3)) a2 h2 g20) r16)) (fun s22 r21 => ?_)
          refine ok (m_aload_n (q := 84) rfl rfl rfl rfl) ?_
          refine ok (m_gfc (q := 87) rfl rfl rfl r21 rfl rfl rfl) ?_
          refine ok (m_aload_n (q := 88) rfl rfl rfl rfl) ?_
          refine ok (m_gfs (z := 4) (q := 91) (w := D 70 4) rfl rfl rfl r21 rfl rfl rfl rfl rfl) ?_
          refine ok (m_sipush (q := 94) rfl rfl rfl) ?_
          refine oke (e_ias (q := 95) rfl rfl rfl r21 rfl rfl g13 ⟨by decide, by decide⟩) (fun s24 r23 => ?_)
          refine ok (m_aload_n (q := 96) rfl rfl rfl rfl) ?_
          refine ok (m_gfc (q := 99) rfl rfl rfl r23 rfl rfl rfl) ?_
          refine ok (m_aload_n (q := 100) rfl rfl rfl rfl) ?_
          refine ok (m_gfs (z := 4) (q := 103) (w := D 70 4) rfl rfl rfl r23 rfl rfl rfl rfl rfl) ?_
          refine ok (m_iconst (q := 104) rfl rfl rfl) ?_
          refine oke (e_ias (q := 105) rfl rfl rfl r23 rfl rfl g13 ⟨by decide, by decide⟩) (fun s26 r25 => ?_)
          refine ok (m_aload_n (q := 106) rfl rfl rfl rfl) ?_
          refine ok (m_gfc (q := 109) rfl rfl rfl r25 rfl rfl rfl) ?_
          refine ok (m_aload_n (q := 110) rfl rfl rfl rfl) ?_
          refine ok (m_gfs (z := 4) (q := 113) (w := D 70 4) rfl rfl rfl r25 rfl rfl rfl rfl rfl) ?_
          refine ok (m_sipush (q := 116) rfl rfl rfl) ?_
          refine oke (e_ias (q := 117) rfl rfl rfl r25 rfl rfl g13 ⟨by decide, by decide⟩) (fun s28 r27 => ?_)
          refine ok (m_aload_n (q := 118) rfl rfl rfl rfl) ?_
          refine ok (m_dup (q := 119) rfl rfl rfl rfl) ?_
          refine ok (m_gfs (z := 4) (q := 122) (w := D 70 4) rfl rfl rfl r27 rfl rfl rfl rfl rfl) ?_
          refine ok (m_iconst (q := 123) rfl rfl rfl) ?_
          refine ok (m_iadd (q := 124) rfl rfl rfl) ?_
          refine oke (e_pfs (q := 127) rfl rfl rfl r27 rfl rfl rfl rfl (rg_wr _)) (fun s30 r29 => ?_)
          refine ok (m_aload_n (q := 128) rfl rfl rfl rfl) ?_
          refine ok (m_gfs (z := 4) (q := 131) (w := wr ((D 70 4) + 1)) rfl rfl rfl r29 rfl rfl rfl rfl up_eq) ?_
          refine ok (m_iconst (q := 132) rfl rfl rfl) ?_
          refine ok (m_isub (q := 133) rfl rfl rfl) ?_
          exact ok (m_reti rfl rfl) (ok_i r29 (rg_wr _))
theorem fl_X12_placing (D : aD) (a1 : Int) (a2 : Int) (a3 : Int) (t : Nat) (i : Int) (ht : Nat.ble t 49 = true) : u_X12_placing D a1 a2 a3 (900 + t) i = D (900 + t) i := fl_if (rfl) (fl_if (rfl) (fl_if (rfl) (fl_if (rfl) ((up_c (fl_ne rfl ht)).trans ((up_c (fl_ne rfl ht)).trans ((up_c (fl_ne rfl ht)).trans ((up_c (fl_ne rfl ht)).trans ((up_c (fl_ne rfl ht)).trans ((up_c (fl_ne rfl ht)).trans ((up_c (fl_ne rfl ht)).trans ((up_c (fl_ne rfl ht)).trans (rfl))))))))))))
abbrev P_X11_leave : Nat → Option am_E := am_fy tb_X11_leave
def v_X11_leave (D : aD) (a1 : Int) (a2 : Int) (a3 : Int) (a4 : Int) : Int := if v_X11_isPlacing D a1 = 0 then 0 else if v_X11_between D a3 0 99 = 0 then 0 else if v_X11_between D a4 0 4 = 0 then 0 else if D 2505 a1 = (-1) then if v_X11_between D a2 (D 2503 a1) (D 32 14) = 0 then 0 else 1 else 0
def u_X11_leave (D : aD) (a1 : Int) (a2 : Int) (a3 : Int) (a4 : Int) : aD := if v_X11_isPlacing D a1 = 0 then D else if v_X11_between D a3 0 99 = 0 then D else if v_X11_between D a4 0 4 = 0 then D else if D 2505 a1 = (-1) then if v_X11_between D a2 (D 2503 a1) (D 32 14) = 0 then D else (up (up (up (up D 2505 a1 a2) 2506 a1 (wr ((D 32 14) + (D 33 (D 2102 (D 2502 a1)))))) 2507 a1 a3) 2508 a1 a4) else D
def p_X11_leave (D : aD) (a1 : Int) (a2 : Int) (a3 : Int) (a4 : Int) : Prop := (if v_X11_isPlacing D a1 = 0 then True else (if v_X11_between D a3 0 99 = 0 then True else (if v_X11_between D a4 0 4 = 0 then True else (0 ≤ a1 ∧ a1 < D 1002 5) ∧ (if D 2505 a1 = (-1) then (if v_X11_between D a2 (D 2503 a1) (D 32 14) = 0 then True else (0 ≤ D 2102 (D 2502 a1) ∧ D 2102 (D 2502 a1) < 5)) else True))))
theorem b_X11_leave (D : aD) (a1 : Int) (a2 : Int) (a3 : Int) (a4 : Int) : 0 ≤ v_X11_leave D a1 a2 a3 a4 ∧ v_X11_leave D a1 a2 a3 a4 ≤ 1 := b01 (fun c3 => ⟨by decide, by decide⟩) (fun c3 => b01 (fun c6 => ⟨by decide, by decide⟩) (fun c6 => b01 (fun c9 => ⟨by decide, by decide⟩) (fun c9 => b01 (fun c15 => b01 (fun c18 => ⟨by decide, by decide⟩) (fun c18 => ⟨by decide, by decide⟩)) (fun c15 => ⟨by decide, by decide⟩))))
set_option maxRecDepth 100000 in
theorem ev_X11_leave {n : Nat} {A : aA} {D : aD} (a1 : Int) (a2 : Int) (a3 : Int) (a4 : Int) (h1 : rg a1) (h2 : rg a2) (h3 : rg a3) (h4 : rg a4) (hp : p_X11_leave D a1 a2 a3 a4) : Ev (n) 5 77 [am_r (some 32), am_i (wz a1), am_i (wz a2), am_i (wz a3), am_i (wz a4)] A D (ri (v_X11_leave D a1 a2 a3 a4)) A (u_X11_leave D a1 a2 a3 a4) := by
  unfold p_X11_leave at hp
  unfold v_X11_leave u_X11_leave
  refine Ev_of (c := 4) (P := P_X11_leave) (lo := [some (am_r (some 32)), some (am_i (wz a1)), some (am_i (wz a2)), some (am_i (wz a3)), some (am_i (wz a4)), none]) rfl rfl rfl (fun d hd s hr => ?_)
  refine ok (m_aload_n (q := 1) rfl rfl rfl rfl) ?_
  refine ok (m_iload_n (q := 2) rfl rfl rfl rfl) ?_
  refine oke (e_ci (x_cv (q := 5) rfl rfl rfl rfl rfl rfl rfl rfl rfl rfl (is_st hr rfl rfl)) (ev_X11_isPlacing (D := D) a1 h1) (Nat.le_trans (by decide) hd) hr) (fun s1 r2 => ?_)
  refine okf (m_ifeq (qt := 28) (qf := 8) rfl rfl (Ev_rg (ev_X11_isPlacing (D := D) a1 h1) hr) rfl rfl) (fun c3 => ?_) (fun c3 => ?_)
  · refine ok (m_iconst (q := 29) rfl rfl rfl) ?_
    exact ok (m_retb rfl rfl ⟨by decide, by decide⟩) (ok_i r2 ⟨by decide, by decide⟩)
  · replace hp := iq c3 hp
    refine ok (m_iload_n (q := 9) rfl rfl rfl rfl) ?_
    refine ok (m_iconst (q := 10) rfl rfl rfl) ?_
    refine ok (m_bipush (q := 12) rfl rfl rfl) ?_
    refine oke (e_ci (x_cs (q := 15) rfl rfl rfl rfl rfl rfl rfl rfl rfl) (ev_X11_between (D := D) a3 0 99 h3 ⟨by decide, by decide⟩ ⟨by decide, by decide⟩) (Nat.le_trans (by decide) hd) r2) (fun s4 r5 => ?_)
    refine okf (m_ifeq (qt := 28) (qf := 18) rfl rfl (Ev_rg (ev_X11_between (D := D) a3 0 99 h3 ⟨by decide, by decide⟩ ⟨by decide, by decide⟩) r2) rfl rfl) (fun c6 => ?_) (fun c6 => ?_)
    · refine ok (m_iconst (q := 29) rfl rfl rfl) ?_
      exact ok (m_retb rfl rfl ⟨by decide, by decide⟩) (ok_i r5 ⟨by decide, by decide⟩)
    · replace hp := iq c6 hp
      refine ok (m_iload (q := 20) rfl rfl rfl rfl) ?_
      refine ok (m_iconst (q := 21) rfl rfl rfl) ?_
      refine ok (m_iconst (q := 22) rfl rfl rfl) ?_
      refine oke (e_ci (x_cs (q := 25) rfl rfl rfl rfl rfl rfl rfl rfl rfl) (ev_X11_between (D := D) a4 0 4 h4 ⟨by decide, by decide⟩ ⟨by decide, by decide⟩) (Nat.le_trans (by decide) hd) r5) (fun s7 r8 => ?_)
      refine okf (m_ifne (qt := 30) (qf := 28) rfl rfl (Ev_rg (ev_X11_between (D := D) a4 0 4 h4 ⟨by decide, by decide⟩ ⟨by decide, by decide⟩) r5) rfl rfl) (fun c9 => ?_) (fun c9 => ?_)
      · refine ok (m_iconst (q := 29) rfl rfl rfl) ?_
        exact ok (m_retb rfl rfl ⟨by decide, by decide⟩) (ok_i r8 ⟨by decide, by decide⟩)
      · replace hp := iq c9 hp
        refine ok (m_aload_n (q := 31) rfl rfl rfl rfl) ?_
        refine ok (m_gfc (q := 34) rfl rfl rfl r8 rfl rfl rfl) ?_
        have f_10 := Rp_fx0_5 r8
        refine ok (m_gfy (q := 37) rfl rfl rfl r8 rfl rfl rfl) ?_
        refine ok (m_iload_n (q := 38) rfl rfl rfl rfl) ?_
        obtain ⟨g13, hp⟩ := hp
        have f_14 := Rp_el5 (D := D) r8 g13
        refine oke (e_cr (x_cv (q := 41) rfl rfl rfl rfl rfl rfl rfl rfl rfl rfl (is_ty r8 rfl f_10)) (ev_get5 a1 g13) (Nat.le_trans (by decide) hd) r8) (fun s11 r12 => ?_)
        refine ok (m_cast (q := 44) rfl rfl rfl (isN_ty r12 rfl f_14)) ?_
        refine ok (m_astore (q := 46) (lo' := [some (am_r (some 32)), some (am_i (wz a1)), some (am_i (wz a2)), some (am_i (wz a3)), some (am_i (wz a4)), some (am_r (some (A 15 a1)))]) rfl rfl rfl rfl rfl) ?_
        refine ok (m_aload (q := 48) rfl rfl rfl rfl) ?_
        refine ok (m_gft (t := 15) (q := 51) rfl rfl rfl r12 rfl f_14 rfl rfl rfl) ?_
        refine ok (m_iconst (q := 52) rfl rfl rfl) ?_
        refine okf (m_cmpne (qt := 71) (qf := 55) rfl rfl (show rg (D 2505 a1) from Rp_rg r12 2505 a1) ⟨by decide, by decide⟩ rfl rfl) (fun c15 => ?_) (fun c15 => ?_)
        · replace hp := ip c15 hp
          refine ok (m_iload_n (q := 56) rfl rfl rfl rfl) ?_
          refine ok (m_aload (q := 58) rfl rfl rfl rfl) ?_
          refine ok (m_gft (t := 15) (q := 61) rfl rfl rfl r12 rfl f_14 rfl rfl rfl) ?_
          refine ok (m_aload_n (q := 62) rfl rfl rfl rfl) ?_
          refine ok (m_gfs (z := 14) (q := 65) rfl rfl rfl r12 rfl rfl rfl rfl rfl) ?_
          refine oke (e_ci (x_cs (q := 68) rfl rfl rfl rfl rfl rfl rfl rfl rfl) (ev_X11_between (D := D) a2 (D 2503 a1) (D 32 14) h2 (show rg (D 2503 a1) from Rp_rg r12 2503 a1) (Rp_rg r12 32 14)) (Nat.le_trans (by decide) hd) r12) (fun s16 r17 => ?_)
          refine okf (m_ifne (qt := 73) (qf := 71) rfl rfl (Ev_rg (ev_X11_between (D := D) a2 (D 2503 a1) (D 32 14) h2 (show rg (D 2503 a1) from Rp_rg r12 2503 a1) (Rp_rg r12 32 14)) r12) rfl rfl) (fun c18 => ?_) (fun c18 => ?_)
          · refine ok (m_iconst (q := 72) rfl rfl rfl) ?_
            exact ok (m_retb rfl rfl ⟨by decide, by decide⟩) (ok_i r17 ⟨by decide, by decide⟩)
          · replace hp := iq c18 hp
            refine ok (m_aload (q := 75) rfl rfl rfl rfl) ?_
            refine ok (m_iload_n (q := 76) rfl rfl rfl rfl) ?_
            refine oke (e_pft (t := 15) (q := 79) rfl rfl rfl r17 rfl rfl f_14 rfl rfl h2) (fun s20 r19 => ?_)
            refine ok (m_aload (q := 81) rfl rfl rfl rfl) ?_
            refine ok (m_aload_n (q := 82) rfl rfl rfl rfl) ?_
            refine ok (m_gfs (z := 14) (q := 85) (w := D 32 14) rfl rfl rfl r19 rfl rfl rfl rfl rfl) ?_
            refine ok (m_aload_n (q := 86) rfl rfl rfl rfl) ?_
            refine ok (m_gfc (q := 89) rfl rfl rfl r19 rfl rfl rfl) ?_
            refine ok (m_aload (q := 91) rfl rfl rfl rfl) ?_
            have f_21 : (up D 2505 a1 a2) 911 (D 2502 a1) = 1 := Rp_f15_11 (D := (up D 2505 a1 a2)) (i := a1) r19 f_14
            refine ok (m_gfx (t := 15) (q := 94) (r := some (A 11 (D 2502 a1))) rfl rfl rfl r19 rfl f_14 rfl rfl rfl) ?_
            refine ok (m_gft (t := 11) (q := 97) (w := D 2102 (D 2502 a1)) rfl rfl rfl r19 rfl f_21 rfl rfl rfl) ?_
            have g22 := hp
            refine ok (m_ials (q := 98) (w := D 33 (D 2102 (D 2502 a1))) rfl rfl rfl r19 rfl rfl g22 rfl) ?_
            refine ok (m_iadd (q := 99) rfl rfl rfl) ?_
            refine oke (e_pft (t := 15) (q := 102) rfl rfl rfl r19 rfl rfl f_14 rfl rfl (rg_wr _)) (fun s24 r23 => ?_)
            refine ok (m_aload (q := 104) rfl rfl rfl rfl) ?_
            refine ok (m_iload_n (q := 105) rfl rfl rfl rfl) ?_
            refine oke (e_pft (t := 15) (q := 108) rfl rfl rfl r23 rfl rfl f_14 rfl rfl h3) (fun s26 r25 => ?_)
            refine ok (m_aload (q := 110) rfl rfl rfl rfl) ?_
            refine ok (m_iload (q := 112) rfl rfl rfl rfl) ?_
            refine oke (e_pft (t := 15) (q := 115) rfl rfl rfl r25 rfl rfl f_14 rfl rfl h4) (fun s28 r27 => ?_)
            refine ok (m_iconst (q := 116) rfl rfl rfl) ?_
            exact ok (m_retb rfl rfl ⟨by decide, by decide⟩) (ok_i r27 ⟨by decide, by decide⟩)
        · refine ok (m_iconst (q := 72) rfl rfl rfl) ?_
          exact ok (m_retb rfl rfl ⟨by decide, by decide⟩) (ok_i r12 ⟨by decide, by decide⟩)
theorem fl_X11_leave (D : aD) (a1 : Int) (a2 : Int) (a3 : Int) (a4 : Int) (t : Nat) (i : Int) (ht : Nat.ble t 49 = true) : u_X11_leave D a1 a2 a3 a4 (900 + t) i = D (900 + t) i := fl_if (rfl) (fl_if (rfl) (fl_if (rfl) (fl_if (fl_if (rfl) ((up_c (fl_ne rfl ht)).trans ((up_c (fl_ne rfl ht)).trans ((up_c (fl_ne rfl ht)).trans ((up_c (fl_ne rfl ht)).trans (rfl)))))) (rfl))))
abbrev P_X12_leave : Nat → Option am_E := am_fy tb_X12_leave
def v_X12_leave (D : aD) (a1 : Int) (a2 : Int) (a3 : Int) (a4 : Int) : Int := if v_X12_isPlacing D a1 = 0 then 0 else if v_X12_isIn D a2 (D 85 a1) (D 70 0) = 0 then 0 else if v_X12_isIn D a3 0 99 = 0 then 0 else if v_X12_isIn D a4 0 4 = 0 then 0 else if D 88 a1 = (-1) then 1 else 0
def u_X12_leave (D : aD) (a1 : Int) (a2 : Int) (a3 : Int) (a4 : Int) : aD := if v_X12_isPlacing D a1 = 0 then D else if v_X12_isIn D a2 (D 85 a1) (D 70 0) = 0 then D else if v_X12_isIn D a3 0 99 = 0 then D else if v_X12_isIn D a4 0 4 = 0 then D else if D 88 a1 = (-1) then (up (up (up (up D 88 a1 a2) 89 a1 a3) 90 a1 a4) 91 a1 (v_X12_letters (up (up (up D 88 a1 a2) 89 a1 a3) 90 a1 a4) (D 84 a1))) else D
def p_X12_leave (D : aD) (a1 : Int) (a2 : Int) (a3 : Int) (a4 : Int) : Prop := (if v_X12_isPlacing D a1 = 0 then True else (0 ≤ a1 ∧ a1 < 60) ∧ (if v_X12_isIn D a2 (D 85 a1) (D 70 0) = 0 then True else (if v_X12_isIn D a3 0 99 = 0 then True else (if v_X12_isIn D a4 0 4 = 0 then True else (if D 88 a1 = (-1) then (p_X12_letters (up (up (up D 88 a1 a2) 89 a1 a3) 90 a1 a4) (D 84 a1)) else True)))))
theorem b_X12_leave (D : aD) (a1 : Int) (a2 : Int) (a3 : Int) (a4 : Int) : 0 ≤ v_X12_leave D a1 a2 a3 a4 ∧ v_X12_leave D a1 a2 a3 a4 ≤ 1 := b01 (fun c3 => ⟨by decide, by decide⟩) (fun c3 => b01 (fun c7 => ⟨by decide, by decide⟩) (fun c7 => b01 (fun c10 => ⟨by decide, by decide⟩) (fun c10 => b01 (fun c13 => ⟨by decide, by decide⟩) (fun c13 => b01 (fun c14 => ⟨by decide, by decide⟩) (fun c14 => ⟨by decide, by decide⟩)))))
set_option maxRecDepth 100000 in
theorem ev_X12_leave {n : Nat} {A : aA} {D : aD} (a1 : Int) (a2 : Int) (a3 : Int) (a4 : Int) (h1 : rg a1) (h2 : rg a2) (h3 : rg a3) (h4 : rg a4) (hp : p_X12_leave D a1 a2 a3 a4) : Ev (n) 3 137 [am_r (some 70), am_i (wz a1), am_i (wz a2), am_i (wz a3), am_i (wz a4)] A D (ri (v_X12_leave D a1 a2 a3 a4)) A (u_X12_leave D a1 a2 a3 a4) := by
  unfold p_X12_leave at hp
  unfold v_X12_leave u_X12_leave
  refine Ev_of (c := 2) (P := P_X12_leave) (lo := [some (am_r (some 70)), some (am_i (wz a1)), some (am_i (wz a2)), some (am_i (wz a3)), some (am_i (wz a4))]) rfl rfl rfl (fun d hd s hr => ?_)
  refine ok (m_aload_n (q := 1) rfl rfl rfl rfl) ?_
  refine ok (m_iload_n (q := 2) rfl rfl rfl rfl) ?_
  refine oke (e_ci (x_cv (q := 5) rfl rfl rfl rfl rfl rfl rfl rfl rfl rfl (is_st hr rfl rfl)) (ev_X12_isPlacing (D := D) a1 h1) (Nat.le_trans (by decide) hd) hr) (fun s1 r2 => ?_)
  refine okf (m_ifeq (qt := 55) (qf := 8) rfl rfl (Ev_rg (ev_X12_isPlacing (D := D) a1 h1) hr) rfl rfl) (fun c3 => ?_) (fun c3 => ?_)
  · refine ok (m_iconst (q := 56) rfl rfl rfl) ?_
    exact ok (m_retb rfl rfl ⟨by decide, by decide⟩) (ok_i r2 ⟨by decide, by decide⟩)
  · replace hp := iq c3 hp
    refine ok (m_iload_n (q := 9) rfl rfl rfl rfl) ?_
    refine ok (m_aload_n (q := 10) rfl rfl rfl rfl) ?_
    refine ok (m_gfc (q := 13) rfl rfl rfl r2 rfl rfl rfl) ?_
    refine ok (m_iload_n (q := 14) rfl rfl rfl rfl) ?_
    obtain ⟨g4, hp⟩ := hp
    refine ok (m_ials (q := 15) rfl rfl rfl r2 rfl rfl g4 rfl) ?_
    refine ok (m_aload_n (q := 16) rfl rfl rfl rfl) ?_
    refine ok (m_gfs (z := 0) (q := 19) rfl rfl rfl r2 rfl rfl rfl rfl rfl) ?_
    refine oke (e_ci (x_cs (q := 22) rfl rfl rfl rfl rfl rfl rfl rfl rfl) (ev_X12_isIn (D := D) a2 (D 85 a1) (D 70 0) h2 (Rp_rg r2 85 a1) (Rp_rg r2 70 0)) (Nat.le_trans (by decide) hd) r2) (fun s5 r6 => ?_)
    refine okf (m_ifeq (qt := 55) (qf := 25) rfl rfl (Ev_rg (ev_X12_isIn (D := D) a2 (D 85 a1) (D 70 0) h2 (Rp_rg r2 85 a1) (Rp_rg r2 70 0)) r2) rfl rfl) (fun c7 => ?_) (fun c7 => ?_)
    · refine ok (m_iconst (q := 56) rfl rfl rfl) ?_
      exact ok (m_retb rfl rfl ⟨by decide, by decide⟩) (ok_i r6 ⟨by decide, by decide⟩)
    · replace hp := iq c7 hp
      refine ok (m_iload_n (q := 26) rfl rfl rfl rfl) ?_
      refine ok (m_iconst (q := 27) rfl rfl rfl) ?_
      refine ok (m_bipush (q := 29) rfl rfl rfl) ?_
      refine oke (e_ci (x_cs (q := 32) rfl rfl rfl rfl rfl rfl rfl rfl rfl) (ev_X12_isIn (D := D) a3 0 99 h3 ⟨by decide, by decide⟩ ⟨by decide, by decide⟩) (Nat.le_trans (by decide) hd) r6) (fun s8 r9 => ?_)
      refine okf (m_ifeq (qt := 55) (qf := 35) rfl rfl (Ev_rg (ev_X12_isIn (D := D) a3 0 99 h3 ⟨by decide, by decide⟩ ⟨by decide, by decide⟩) r6) rfl rfl) (fun c10 => ?_) (fun c10 => ?_)
      · refine ok (m_iconst (q := 56) rfl rfl rfl) ?_
        exact ok (m_retb rfl rfl ⟨by decide, by decide⟩) (ok_i r9 ⟨by decide, by decide⟩)
      · replace hp := iq c10 hp
        refine ok (m_iload (q := 37) rfl rfl rfl rfl) ?_
        refine ok (m_iconst (q := 38) rfl rfl rfl) ?_
        refine ok (m_iconst (q := 39) rfl rfl rfl) ?_
        refine oke (e_ci (x_cs (q := 42) rfl rfl rfl rfl rfl rfl rfl rfl rfl) (ev_X12_isIn (D := D) a4 0 4 h4 ⟨by decide, by decide⟩ ⟨by decide, by decide⟩) (Nat.le_trans (by decide) hd) r9) (fun s11 r12 => ?_)
        refine okf (m_ifeq (qt := 55) (qf := 45) rfl rfl (Ev_rg (ev_X12_isIn (D := D) a4 0 4 h4 ⟨by decide, by decide⟩ ⟨by decide, by decide⟩) r9) rfl rfl) (fun c13 => ?_) (fun c13 => ?_)
        · refine ok (m_iconst (q := 56) rfl rfl rfl) ?_
          exact ok (m_retb rfl rfl ⟨by decide, by decide⟩) (ok_i r12 ⟨by decide, by decide⟩)
        · replace hp := iq c13 hp
          refine ok (m_aload_n (q := 46) rfl rfl rfl rfl) ?_
          refine ok (m_gfc (q := 49) rfl rfl rfl r12 rfl rfl rfl) ?_
          refine ok (m_iload_n (q := 50) rfl rfl rfl rfl) ?_
          refine ok (m_ials (q := 51) rfl rfl rfl r12 rfl rfl g4 rfl) ?_
          refine ok (m_iconst (q := 52) rfl rfl rfl) ?_
          refine okf (m_cmpeq (qt := 57) (qf := 55) rfl rfl (Rp_rg r12 88 a1) ⟨by decide, by decide⟩ rfl rfl) (fun c14 => ?_) (fun c14 => ?_)
          · replace hp := ip c14 hp
            refine ok (m_aload_n (q := 58) rfl rfl rfl rfl) ?_
            refine ok (m_gfc (q := 61) rfl rfl rfl r12 rfl rfl rfl) ?_
            refine ok (m_iload_n (q := 62) rfl rfl rfl rfl) ?_
            refine ok (m_iload_n (q := 63) rfl rfl rfl rfl) ?_
            refine oke (e_ias (q := 64) rfl rfl rfl r12 rfl rfl g4 h2) (fun s16 r15 => ?_)
            refine ok (m_aload_n (q := 65) rfl rfl rfl rfl) ?_
            refine ok (m_gfc (q := 68) rfl rfl rfl r15 rfl rfl rfl) ?_
            refine ok (m_iload_n (q := 69) rfl rfl rfl rfl) ?_
            refine ok (m_iload_n (q := 70) rfl rfl rfl rfl) ?_
            refine oke (e_ias (q := 71) rfl rfl rfl r15 rfl rfl g4 h3) (fun s18 r17 => ?_)
            refine ok (m_aload_n (q := 72) rfl rfl rfl rfl) ?_
            refine ok (m_gfc (q := 75) rfl rfl rfl r17 rfl rfl rfl) ?_
            refine ok (m_iload_n (q := 76) rfl rfl rfl rfl) ?_
            refine ok (m_iload (q := 78) rfl rfl rfl rfl) ?_
            refine oke (e_ias (q := 79) rfl rfl rfl r17 rfl rfl g4 h4) (fun s20 r19 => ?_)
            refine ok (m_aload_n (q := 80) rfl rfl rfl rfl) ?_
            refine ok (m_gfc (q := 83) rfl rfl rfl r19 rfl rfl rfl) ?_
            refine ok (m_iload_n (q := 84) rfl rfl rfl rfl) ?_
            refine ok (m_aload_n (q := 85) rfl rfl rfl rfl) ?_
            refine ok (m_aload_n (q := 86) rfl rfl rfl rfl) ?_
            refine ok (m_gfc (q := 89) rfl rfl rfl r19 rfl rfl rfl) ?_
            refine ok (m_iload_n (q := 90) rfl rfl rfl rfl) ?_
            refine ok (m_ials (q := 91) (w := D 84 a1) rfl rfl rfl r19 rfl rfl g4 rfl) ?_
            have g23 := hp
            refine oke (e_ci (x_cv (q := 94) rfl rfl rfl rfl rfl rfl rfl rfl rfl rfl (is_st r19 rfl rfl)) (ev_X12_letters (D := (up (up (up D 88 a1 a2) 89 a1 a3) 90 a1 a4)) (D 84 a1) (show rg (D 84 a1) from Rp_rg r19 84 a1) g23) (Nat.le_trans (by decide) hd) r19) (fun s21 r22 => ?_)
            refine oke (e_ias (q := 95) rfl rfl rfl r22 rfl rfl g4 (Ev_rg (ev_X12_letters (D := (up (up (up D 88 a1 a2) 89 a1 a3) 90 a1 a4)) (D 84 a1) (show rg (D 84 a1) from Rp_rg r19 84 a1) g23) r19)) (fun s25 r24 => ?_)
            refine ok (m_iconst (q := 96) rfl rfl rfl) ?_
            exact ok (m_retb rfl rfl ⟨by decide, by decide⟩) (ok_i r24 ⟨by decide, by decide⟩)
          · refine ok (m_iconst (q := 56) rfl rfl rfl) ?_
            exact ok (m_retb rfl rfl ⟨by decide, by decide⟩) (ok_i r12 ⟨by decide, by decide⟩)
theorem fl_X12_leave (D : aD) (a1 : Int) (a2 : Int) (a3 : Int) (a4 : Int) (t : Nat) (i : Int) (ht : Nat.ble t 49 = true) : u_X12_leave D a1 a2 a3 a4 (900 + t) i = D (900 + t) i := fl_if (rfl) (fl_if (rfl) (fl_if (rfl) (fl_if (rfl) (fl_if ((up_c (fl_ne rfl ht)).trans ((up_c (fl_ne rfl ht)).trans ((up_c (fl_ne rfl ht)).trans ((up_c (fl_ne rfl ht)).trans (rfl))))) (rfl)))))
abbrev P_X11_undo : Nat → Option am_E := am_fy tb_X11_undo
def v_X11_undo (D : aD) (a1 : Int) : Int := if v_X11_isPlacing D a1 = 0 then 0 else if D 2509 a1 = (-1) then 1 else 0
def u_X11_undo (D : aD) (a1 : Int) : aD := if v_X11_isPlacing D a1 = 0 then D else if D 2509 a1 = (-1) then (up D 2509 a1 (D 32 14)) else D
def p_X11_undo (D : aD) (a1 : Int) : Prop := (if v_X11_isPlacing D a1 = 0 then True else (0 ≤ a1 ∧ a1 < D 1002 5))
theorem b_X11_undo (D : aD) (a1 : Int) : 0 ≤ v_X11_undo D a1 ∧ v_X11_undo D a1 ≤ 1 := b01 (fun c3 => ⟨by decide, by decide⟩) (fun c3 => b01 (fun c9 => ⟨by decide, by decide⟩) (fun c9 => ⟨by decide, by decide⟩))
set_option maxRecDepth 100000 in
theorem ev_X11_undo {n : Nat} {A : aA} {D : aD} (a1 : Int) (h1 : rg a1) (hp : p_X11_undo D a1) : Ev (n) 5 78 [am_r (some 32), am_i (wz a1)] A D (ri (v_X11_undo D a1)) A (u_X11_undo D a1) := by
  unfold p_X11_undo at hp
  unfold v_X11_undo u_X11_undo
  refine Ev_of (c := 4) (P := P_X11_undo) (lo := [some (am_r (some 32)), some (am_i (wz a1))]) rfl rfl rfl (fun d hd s hr => ?_)
  refine ok (m_aload_n (q := 1) rfl rfl rfl rfl) ?_
  refine ok (m_iload_n (q := 2) rfl rfl rfl rfl) ?_
  refine oke (e_ci (x_cv (q := 5) rfl rfl rfl rfl rfl rfl rfl rfl rfl rfl (is_st hr rfl rfl)) (ev_X11_isPlacing (D := D) a1 h1) (Nat.le_trans (by decide) hd) hr) (fun s1 r2 => ?_)
  refine okf (m_ifeq (qt := 29) (qf := 8) rfl rfl (Ev_rg (ev_X11_isPlacing (D := D) a1 h1) hr) rfl rfl) (fun c3 => ?_) (fun c3 => ?_)
  · refine ok (m_iconst (q := 30) rfl rfl rfl) ?_
    exact ok (m_retb rfl rfl ⟨by decide, by decide⟩) (ok_i r2 ⟨by decide, by decide⟩)
  · replace hp := iq c3 hp
    refine ok (m_aload_n (q := 9) rfl rfl rfl rfl) ?_
    refine ok (m_gfc (q := 12) rfl rfl rfl r2 rfl rfl rfl) ?_
    have f_4 := Rp_fx0_5 r2
    refine ok (m_gfy (q := 15) rfl rfl rfl r2 rfl rfl rfl) ?_
    refine ok (m_iload_n (q := 16) rfl rfl rfl rfl) ?_
    have g7 := hp
    have f_8 := Rp_el5 (D := D) r2 g7
    refine oke (e_cr (x_cv (q := 19) rfl rfl rfl rfl rfl rfl rfl rfl rfl rfl (is_ty r2 rfl f_4)) (ev_get5 a1 g7) (Nat.le_trans (by decide) hd) r2) (fun s5 r6 => ?_)
    refine ok (m_cast (q := 22) rfl rfl rfl (isN_ty r6 rfl f_8)) ?_
    refine ok (m_gft (t := 15) (q := 25) rfl rfl rfl r6 rfl f_8 rfl rfl rfl) ?_
    refine ok (m_iconst (q := 26) rfl rfl rfl) ?_
    refine okf (m_cmpeq (qt := 31) (qf := 29) rfl rfl (show rg (D 2509 a1) from Rp_rg r6 2509 a1) ⟨by decide, by decide⟩ rfl rfl) (fun c9 => ?_) (fun c9 => ?_)
    · refine ok (m_aload_n (q := 32) rfl rfl rfl rfl) ?_
      refine ok (m_gfc (q := 35) rfl rfl rfl r6 rfl rfl rfl) ?_
      have f_10 := Rp_fx0_5 r6
      refine ok (m_gfy (q := 38) rfl rfl rfl r6 rfl rfl rfl) ?_
      refine ok (m_iload_n (q := 39) rfl rfl rfl rfl) ?_
      have f_13 := Rp_el5 (D := D) r6 g7
      refine oke (e_cr (x_cv (q := 42) rfl rfl rfl rfl rfl rfl rfl rfl rfl rfl (is_ty r6 rfl f_10)) (ev_get5 a1 g7) (Nat.le_trans (by decide) hd) r6) (fun s11 r12 => ?_)
      refine ok (m_cast (q := 45) rfl rfl rfl (isN_ty r12 rfl f_13)) ?_
      refine ok (m_aload_n (q := 46) rfl rfl rfl rfl) ?_
      refine ok (m_gfs (z := 14) (q := 49) rfl rfl rfl r12 rfl rfl rfl rfl rfl) ?_
      refine oke (e_pft (t := 15) (q := 52) rfl rfl rfl r12 rfl rfl f_13 rfl rfl (Rp_rg r12 32 14)) (fun s15 r14 => ?_)
      refine ok (m_iconst (q := 53) rfl rfl rfl) ?_
      exact ok (m_retb rfl rfl ⟨by decide, by decide⟩) (ok_i r14 ⟨by decide, by decide⟩)
    · refine ok (m_iconst (q := 30) rfl rfl rfl) ?_
      exact ok (m_retb rfl rfl ⟨by decide, by decide⟩) (ok_i r6 ⟨by decide, by decide⟩)
theorem fl_X11_undo (D : aD) (a1 : Int) (t : Nat) (i : Int) (ht : Nat.ble t 49 = true) : u_X11_undo D a1 (900 + t) i = D (900 + t) i := fl_if (rfl) (fl_if ((up_c (fl_ne rfl ht)).trans (rfl)) (rfl))
abbrev P_X12_undo : Nat → Option am_E := am_fy tb_X12_undo
def v_X12_undo (D : aD) (a1 : Int) : Int := if v_X12_isPlacing D a1 = 0 then 0 else if D 87 a1 = 5000 then 1 else 0
def u_X12_undo (D : aD) (a1 : Int) : aD := if v_X12_isPlacing D a1 = 0 then D else if D 87 a1 = 5000 then (up D 87 a1 (D 70 0)) else D
def p_X12_undo (D : aD) (a1 : Int) : Prop := (if v_X12_isPlacing D a1 = 0 then True else (0 ≤ a1 ∧ a1 < 60))
theorem b_X12_undo (D : aD) (a1 : Int) : 0 ≤ v_X12_undo D a1 ∧ v_X12_undo D a1 ≤ 1 := b01 (fun c3 => ⟨by decide, by decide⟩) (fun c3 => b01 (fun c5 => ⟨by decide, by decide⟩) (fun c5 => ⟨by decide, by decide⟩))
set_option maxRecDepth 100000 in
theorem ev_X12_undo {n : Nat} {A : aA} {D : aD} (a1 : Int) (h1 : rg a1) (hp : p_X12_undo D a1) : Ev (n) 3 138 [am_r (some 70), am_i (wz a1)] A D (ri (v_X12_undo D a1)) A (u_X12_undo D a1) := by
  unfold p_X12_undo at hp
  unfold v_X12_undo u_X12_undo
  refine Ev_of (c := 2) (P := P_X12_undo) (lo := [some (am_r (some 70)), some (am_i (wz a1))]) rfl rfl rfl (fun d hd s hr => ?_)
  refine ok (m_aload_n (q := 1) rfl rfl rfl rfl) ?_
  refine ok (m_iload_n (q := 2) rfl rfl rfl rfl) ?_
  refine oke (e_ci (x_cv (q := 5) rfl rfl rfl rfl rfl rfl rfl rfl rfl rfl (is_st hr rfl rfl)) (ev_X12_isPlacing (D := D) a1 h1) (Nat.le_trans (by decide) hd) hr) (fun s1 r2 => ?_)
  refine okf (m_ifeq (qt := 20) (qf := 8) rfl rfl (Ev_rg (ev_X12_isPlacing (D := D) a1 h1) hr) rfl rfl) (fun c3 => ?_) (fun c3 => ?_)
  · refine ok (m_iconst (q := 21) rfl rfl rfl) ?_
    exact ok (m_retb rfl rfl ⟨by decide, by decide⟩) (ok_i r2 ⟨by decide, by decide⟩)
  · replace hp := iq c3 hp
    refine ok (m_aload_n (q := 9) rfl rfl rfl rfl) ?_
    refine ok (m_gfc (q := 12) rfl rfl rfl r2 rfl rfl rfl) ?_
    refine ok (m_iload_n (q := 13) rfl rfl rfl rfl) ?_
    have g4 := hp
    refine ok (m_ials (q := 14) rfl rfl rfl r2 rfl rfl g4 rfl) ?_
    refine ok (m_sipush (q := 17) rfl rfl rfl) ?_
    refine okf (m_cmpeq (qt := 22) (qf := 20) rfl rfl (Rp_rg r2 87 a1) ⟨by decide, by decide⟩ rfl rfl) (fun c5 => ?_) (fun c5 => ?_)
    · refine ok (m_aload_n (q := 23) rfl rfl rfl rfl) ?_
      refine ok (m_gfc (q := 26) rfl rfl rfl r2 rfl rfl rfl) ?_
      refine ok (m_iload_n (q := 27) rfl rfl rfl rfl) ?_
      refine ok (m_aload_n (q := 28) rfl rfl rfl rfl) ?_
      refine ok (m_gfs (z := 0) (q := 31) rfl rfl rfl r2 rfl rfl rfl rfl rfl) ?_
      refine oke (e_ias (q := 32) rfl rfl rfl r2 rfl rfl g4 (Rp_rg r2 70 0)) (fun s7 r6 => ?_)
      refine ok (m_iconst (q := 33) rfl rfl rfl) ?_
      exact ok (m_retb rfl rfl ⟨by decide, by decide⟩) (ok_i r6 ⟨by decide, by decide⟩)
    · refine ok (m_iconst (q := 21) rfl rfl rfl) ?_
      exact ok (m_retb rfl rfl ⟨by decide, by decide⟩) (ok_i r2 ⟨by decide, by decide⟩)
theorem fl_X12_undo (D : aD) (a1 : Int) (t : Nat) (i : Int) (ht : Nat.ble t 49 = true) : u_X12_undo D a1 (900 + t) i = D (900 + t) i := fl_if (rfl) (fl_if ((up_c (fl_ne rfl ht)).trans (rfl)) (rfl))
abbrev P_X11_wages : Nat → Option am_E := am_fy tb_X11_wages
def v_X11_wages (D : aD) (a1 : Int) (a2 : Int) (a3 : Int) : Int := if v_X11_isPlacing D a1 = 0 then (-1) else if v_X11_isDay D a2 = 0 then (-1) else if v_X11_isDay D a3 = 0 then (-1) else if a2 ≤ a3 then if D 2505 a1 = (-1) then wr ((wr ((max 0 (wr ((min (wr (a3 + 1)) 1000) - (max a2 (D 2503 a1))))) * (D 2104 (D 2502 a1)))).tdiv 30) else wr ((wr ((max 0 (wr ((min (wr (a3 + 1)) (D 2505 a1)) - (max a2 (D 2503 a1))))) * (D 2104 (D 2502 a1)))).tdiv 30) else (-1)
def p_X11_wages (D : aD) (a1 : Int) (a2 : Int) (a3 : Int) : Prop := (if v_X11_isPlacing D a1 = 0 then True else (if v_X11_isDay D a2 = 0 then True else (if v_X11_isDay D a3 = 0 then True else (if a2 ≤ a3 then (0 ≤ a1 ∧ a1 < D 1002 5) else True))))
set_option maxRecDepth 100000 in
theorem ev_X11_wages {n : Nat} {A : aA} {D : aD} (a1 : Int) (a2 : Int) (a3 : Int) (h1 : rg a1) (h2 : rg a2) (h3 : rg a3) (hp : p_X11_wages D a1 a2 a3) : Ev (n) 5 83 [am_r (some 32), am_i (wz a1), am_i (wz a2), am_i (wz a3)] A D (ri (v_X11_wages D a1 a2 a3)) A D := by
  unfold p_X11_wages at hp
  unfold v_X11_wages
  refine Ev_of (c := 4) (P := P_X11_wages) (lo := [some (am_r (some 32)), some (am_i (wz a1)), some (am_i (wz a2)), some (am_i (wz a3)), none, none, none]) rfl rfl rfl (fun d hd s hr => ?_)
  refine ok (m_aload_n (q := 1) rfl rfl rfl rfl) ?_
  refine ok (m_iload_n (q := 2) rfl rfl rfl rfl) ?_
  refine oke (e_ci (x_cv (q := 5) rfl rfl rfl rfl rfl rfl rfl rfl rfl rfl (is_st hr rfl rfl)) (ev_X11_isPlacing (D := D) a1 h1) (Nat.le_trans (by decide) hd) hr) (fun s1 r2 => ?_)
  refine okp (m_ifeq (qt := 27) (qf := 8) rfl rfl (Ev_rg (ev_X11_isPlacing (D := D) a1 h1) hr) rfl rfl) (fun c3 => ?_) (fun c3 => ?_)
  · refine ok (m_iconst (q := 28) rfl rfl rfl) ?_
    exact ok (m_reti rfl rfl) (ok_i r2 ⟨by decide, by decide⟩)
  · replace hp := iq c3 hp
    refine ok (m_iload_n (q := 9) rfl rfl rfl rfl) ?_
    refine oke (e_ci (x_cs (q := 12) rfl rfl rfl rfl rfl rfl rfl rfl rfl) (ev_X11_isDay (D := D) a2 h2) (Nat.le_trans (by decide) hd) r2) (fun s4 r5 => ?_)
    refine okp (m_ifeq (qt := 27) (qf := 15) rfl rfl (Ev_rg (ev_X11_isDay (D := D) a2 h2) r2) rfl rfl) (fun c6 => ?_) (fun c6 => ?_)
    · refine ok (m_iconst (q := 28) rfl rfl rfl) ?_
      exact ok (m_reti rfl rfl) (ok_i r5 ⟨by decide, by decide⟩)
    · replace hp := iq c6 hp
      refine ok (m_iload_n (q := 16) rfl rfl rfl rfl) ?_
      refine oke (e_ci (x_cs (q := 19) rfl rfl rfl rfl rfl rfl rfl rfl rfl) (ev_X11_isDay (D := D) a3 h3) (Nat.le_trans (by decide) hd) r5) (fun s7 r8 => ?_)
      refine okp (m_ifeq (qt := 27) (qf := 22) rfl rfl (Ev_rg (ev_X11_isDay (D := D) a3 h3) r5) rfl rfl) (fun c9 => ?_) (fun c9 => ?_)
      · refine ok (m_iconst (q := 28) rfl rfl rfl) ?_
        exact ok (m_reti rfl rfl) (ok_i r8 ⟨by decide, by decide⟩)
      · replace hp := iq c9 hp
        refine ok (m_iload_n (q := 23) rfl rfl rfl rfl) ?_
        refine ok (m_iload_n (q := 24) rfl rfl rfl rfl) ?_
        refine okp (m_cmpge (qt := 29) (qf := 27) rfl rfl h3 h2 rfl rfl) (fun c10 => ?_) (fun c10 => ?_)
        · replace hp := ip c10 hp
          refine ok (m_aload_n (q := 30) rfl rfl rfl rfl) ?_
          refine ok (m_gfc (q := 33) rfl rfl rfl r8 rfl rfl rfl) ?_
          have f_11 := Rp_fx0_5 r8
          refine ok (m_gfy (q := 36) rfl rfl rfl r8 rfl rfl rfl) ?_
          refine ok (m_iload_n (q := 37) rfl rfl rfl rfl) ?_
          have g14 := hp
          have f_15 := Rp_el5 (D := D) r8 g14
          refine oke (e_cr (x_cv (q := 40) rfl rfl rfl rfl rfl rfl rfl rfl rfl rfl (is_ty r8 rfl f_11)) (ev_get5 a1 g14) (Nat.le_trans (by decide) hd) r8) (fun s12 r13 => ?_)
          refine ok (m_cast (q := 43) rfl rfl rfl (isN_ty r13 rfl f_15)) ?_
          refine ok (m_astore (q := 45) (lo' := [some (am_r (some 32)), some (am_i (wz a1)), some (am_i (wz a2)), some (am_i (wz a3)), some (am_r (some (A 15 a1))), none, none]) rfl rfl rfl rfl rfl) ?_
          refine ok (m_aload (q := 47) rfl rfl rfl rfl) ?_
          refine ok (m_gft (t := 15) (q := 50) rfl rfl rfl r13 rfl f_15 rfl rfl rfl) ?_
          refine ok (m_iconst (q := 51) rfl rfl rfl) ?_
          refine okp (m_cmpne (qt := 60) (qf := 54) rfl rfl (show rg (D 2505 a1) from Rp_rg r13 2505 a1) ⟨by decide, by decide⟩ rfl rfl) (fun c16 => ?_) (fun c16 => ?_)
          · refine ok (m_sipush (q := 57) rfl rfl rfl) ?_
            refine ok (m_goto (q := 65) rfl rfl rfl) ?_
            refine ok (m_istore (q := 67) (lo' := [some (am_r (some 32)), some (am_i (wz a1)), some (am_i (wz a2)), some (am_i (wz a3)), some (am_r (some (A 15 a1))), some (am_i (wz 1000)), none]) rfl rfl rfl rfl rfl) ?_
            refine ok (m_iload_n (q := 68) rfl rfl rfl rfl) ?_
            refine ok (m_iconst (q := 69) rfl rfl rfl) ?_
            refine ok (m_iadd (q := 70) rfl rfl rfl) ?_
            refine ok (m_iload (q := 72) rfl rfl rfl rfl) ?_
            refine ok (m_min (q := 75) rfl rfl rfl (rg_wr _) ⟨by decide, by decide⟩ rfl) ?_
            refine ok (m_iload_n (q := 76) rfl rfl rfl rfl) ?_
            refine ok (m_aload (q := 78) rfl rfl rfl rfl) ?_
            refine ok (m_gft (t := 15) (q := 81) rfl rfl rfl r13 rfl f_15 rfl rfl rfl) ?_
            refine ok (m_max (q := 84) rfl rfl rfl h2 (show rg (D 2503 a1) from Rp_rg r13 2503 a1) rfl) ?_
            refine ok (m_isub (q := 85) rfl rfl rfl) ?_
            refine ok (m_istore (q := 87) (lo' := [some (am_r (some 32)), some (am_i (wz a1)), some (am_i (wz a2)), some (am_i (wz a3)), some (am_r (some (A 15 a1))), some (am_i (wz 1000)), some (am_i (wz (wr ((min (wr (a3 + 1)) 1000) - (max a2 (D 2503 a1))))))]) rfl rfl rfl rfl rfl) ?_
            refine ok (m_iconst (q := 88) rfl rfl rfl) ?_
            refine ok (m_iload (q := 90) rfl rfl rfl rfl) ?_
            refine ok (m_max (q := 93) rfl rfl rfl ⟨by decide, by decide⟩ (rg_wr _) rfl) ?_
            refine ok (m_aload (q := 95) rfl rfl rfl rfl) ?_
            have f_17 : D 911 (D 2502 a1) = 1 := Rp_f15_11 (D := D) (i := a1) r13 f_15
            refine ok (m_gfx (t := 15) (q := 98) (r := some (A 11 (D 2502 a1))) rfl rfl rfl r13 rfl f_15 rfl rfl rfl) ?_
            refine ok (m_gft (t := 11) (q := 101) rfl rfl rfl r13 rfl f_17 rfl rfl rfl) ?_
            refine ok (m_imul (q := 102) rfl rfl rfl) ?_
            refine ok (m_bipush (q := 104) rfl rfl rfl) ?_
            refine ok (m_idiv (q := 105) rfl rfl (rg_wr _) ⟨by decide, by decide⟩ (by decide) rfl) ?_
            exact ok (m_reti rfl rfl) (ok_i r13 (rg_wr _))
          · refine ok (m_aload (q := 62) rfl rfl rfl rfl) ?_
            refine ok (m_gft (t := 15) (q := 65) rfl rfl rfl r13 rfl f_15 rfl rfl rfl) ?_
            refine ok (m_istore (q := 67) (lo' := [some (am_r (some 32)), some (am_i (wz a1)), some (am_i (wz a2)), some (am_i (wz a3)), some (am_r (some (A 15 a1))), some (am_i (wz (D 2505 a1))), none]) rfl rfl rfl rfl rfl) ?_
            refine ok (m_iload_n (q := 68) rfl rfl rfl rfl) ?_
            refine ok (m_iconst (q := 69) rfl rfl rfl) ?_
            refine ok (m_iadd (q := 70) rfl rfl rfl) ?_
            refine ok (m_iload (q := 72) rfl rfl rfl rfl) ?_
            refine ok (m_min (q := 75) rfl rfl rfl (rg_wr _) (show rg (D 2505 a1) from Rp_rg r13 2505 a1) rfl) ?_
            refine ok (m_iload_n (q := 76) rfl rfl rfl rfl) ?_
            refine ok (m_aload (q := 78) rfl rfl rfl rfl) ?_
            refine ok (m_gft (t := 15) (q := 81) rfl rfl rfl r13 rfl f_15 rfl rfl rfl) ?_
            refine ok (m_max (q := 84) rfl rfl rfl h2 (show rg (D 2503 a1) from Rp_rg r13 2503 a1) rfl) ?_
            refine ok (m_isub (q := 85) rfl rfl rfl) ?_
            refine ok (m_istore (q := 87) (lo' := [some (am_r (some 32)), some (am_i (wz a1)), some (am_i (wz a2)), some (am_i (wz a3)), some (am_r (some (A 15 a1))), some (am_i (wz (D 2505 a1))), some (am_i (wz (wr ((min (wr (a3 + 1)) (D 2505 a1)) - (max a2 (D 2503 a1))))))]) rfl rfl rfl rfl rfl) ?_
            refine ok (m_iconst (q := 88) rfl rfl rfl) ?_
            refine ok (m_iload (q := 90) rfl rfl rfl rfl) ?_
            refine ok (m_max (q := 93) rfl rfl rfl ⟨by decide, by decide⟩ (rg_wr _) rfl) ?_
            refine ok (m_aload (q := 95) rfl rfl rfl rfl) ?_
            have f_18 : D 911 (D 2502 a1) = 1 := Rp_f15_11 (D := D) (i := a1) r13 f_15
            refine ok (m_gfx (t := 15) (q := 98) (r := some (A 11 (D 2502 a1))) rfl rfl rfl r13 rfl f_15 rfl rfl rfl) ?_
            refine ok (m_gft (t := 11) (q := 101) rfl rfl rfl r13 rfl f_18 rfl rfl rfl) ?_
            refine ok (m_imul (q := 102) rfl rfl rfl) ?_
            refine ok (m_bipush (q := 104) rfl rfl rfl) ?_
            refine ok (m_idiv (q := 105) rfl rfl (rg_wr _) ⟨by decide, by decide⟩ (by decide) rfl) ?_
            exact ok (m_reti rfl rfl) (ok_i r13 (rg_wr _))
        · refine ok (m_iconst (q := 28) rfl rfl rfl) ?_
          exact ok (m_reti rfl rfl) (ok_i r8 ⟨by decide, by decide⟩)
abbrev P_X12_wages : Nat → Option am_E := am_fy tb_X12_wages
def v_X12_wages (D : aD) (a1 : Int) (a2 : Int) (a3 : Int) : Int := if v_X12_isPlacing D a1 = 0 then (-1) else if v_X12_isDay D a2 = 0 then (-1) else if v_X12_isDay D a3 = 0 then (-1) else if a2 ≤ a3 then if D 88 a1 = (-1) then wr ((wr ((max 0 (wr ((wr (a3 + 1)) - (max a2 (D 85 a1))))) * (D 79 (D 84 a1)))).tdiv 30) else wr ((wr ((max 0 (wr ((min (wr (a3 + 1)) (D 88 a1)) - (max a2 (D 85 a1))))) * (D 79 (D 84 a1)))).tdiv 30) else (-1)
def p_X12_wages (D : aD) (a1 : Int) (a2 : Int) (a3 : Int) : Prop := (if v_X12_isPlacing D a1 = 0 then True else (if v_X12_isDay D a2 = 0 then True else (if v_X12_isDay D a3 = 0 then True else (if a2 ≤ a3 then (0 ≤ a1 ∧ a1 < 60) ∧ (if D 88 a1 = (-1) then (0 ≤ D 84 a1 ∧ D 84 a1 < 30) else (0 ≤ D 84 a1 ∧ D 84 a1 < 30)) else True))))
set_option maxRecDepth 100000 in
theorem ev_X12_wages {n : Nat} {A : aA} {D : aD} (a1 : Int) (a2 : Int) (a3 : Int) (h1 : rg a1) (h2 : rg a2) (h3 : rg a3) (hp : p_X12_wages D a1 a2 a3) : Ev (n) 3 150 [am_r (some 70), am_i (wz a1), am_i (wz a2), am_i (wz a3)] A D (ri (v_X12_wages D a1 a2 a3)) A D := by
  unfold p_X12_wages at hp
  unfold v_X12_wages
  refine Ev_of (c := 2) (P := P_X12_wages) (lo := [some (am_r (some 70)), some (am_i (wz a1)), some (am_i (wz a2)), some (am_i (wz a3)), none, none]) rfl rfl rfl (fun d hd s hr => ?_)
  refine ok (m_aload_n (q := 1) rfl rfl rfl rfl) ?_
  refine ok (m_iload_n (q := 2) rfl rfl rfl rfl) ?_
  refine oke (e_ci (x_cv (q := 5) rfl rfl rfl rfl rfl rfl rfl rfl rfl rfl (is_st hr rfl rfl)) (ev_X12_isPlacing (D := D) a1 h1) (Nat.le_trans (by decide) hd) hr) (fun s1 r2 => ?_)
  refine okp (m_ifeq (qt := 27) (qf := 8) rfl rfl (Ev_rg (ev_X12_isPlacing (D := D) a1 h1) hr) rfl rfl) (fun c3 => ?_) (fun c3 => ?_)
  · refine ok (m_iconst (q := 28) rfl rfl rfl) ?_
    exact ok (m_reti rfl rfl) (ok_i r2 ⟨by decide, by decide⟩)
  · replace hp := iq c3 hp
    refine ok (m_iload_n (q := 9) rfl rfl rfl rfl) ?_
    refine oke (e_ci (x_cs (q := 12) rfl rfl rfl rfl rfl rfl rfl rfl rfl) (ev_X12_isDay (D := D) a2 h2) (Nat.le_trans (by decide) hd) r2) (fun s4 r5 => ?_)
    refine okp (m_ifeq (qt := 27) (qf := 15) rfl rfl (Ev_rg (ev_X12_isDay (D := D) a2 h2) r2) rfl rfl) (fun c6 => ?_) (fun c6 => ?_)
    · refine ok (m_iconst (q := 28) rfl rfl rfl) ?_
      exact ok (m_reti rfl rfl) (ok_i r5 ⟨by decide, by decide⟩)
    · replace hp := iq c6 hp
      refine ok (m_iload_n (q := 16) rfl rfl rfl rfl) ?_
      refine oke (e_ci (x_cs (q := 19) rfl rfl rfl rfl rfl rfl rfl rfl rfl) (ev_X12_isDay (D := D) a3 h3) (Nat.le_trans (by decide) hd) r5) (fun s7 r8 => ?_)
      refine okp (m_ifeq (qt := 27) (qf := 22) rfl rfl (Ev_rg (ev_X12_isDay (D := D) a3 h3) r5) rfl rfl) (fun c9 => ?_) (fun c9 => ?_)
      · refine ok (m_iconst (q := 28) rfl rfl rfl) ?_
        exact ok (m_reti rfl rfl) (ok_i r8 ⟨by decide, by decide⟩)
      · replace hp := iq c9 hp
        refine ok (m_iload_n (q := 23) rfl rfl rfl rfl) ?_
        refine ok (m_iload_n (q := 24) rfl rfl rfl rfl) ?_
        refine okp (m_cmpge (qt := 29) (qf := 27) rfl rfl h3 h2 rfl rfl) (fun c10 => ?_) (fun c10 => ?_)
        · replace hp := ip c10 hp
          refine ok (m_iload_n (q := 30) rfl rfl rfl rfl) ?_
          refine ok (m_aload_n (q := 31) rfl rfl rfl rfl) ?_
          refine ok (m_gfc (q := 34) rfl rfl rfl r8 rfl rfl rfl) ?_
          refine ok (m_iload_n (q := 35) rfl rfl rfl rfl) ?_
          obtain ⟨g11, hp⟩ := hp
          refine ok (m_ials (q := 36) rfl rfl rfl r8 rfl rfl g11 rfl) ?_
          refine ok (m_max (q := 39) rfl rfl rfl h2 (Rp_rg r8 85 a1) rfl) ?_
          refine ok (m_istore (q := 41) (lo' := [some (am_r (some 70)), some (am_i (wz a1)), some (am_i (wz a2)), some (am_i (wz a3)), some (am_i (wz (max a2 (D 85 a1)))), none]) rfl rfl rfl rfl rfl) ?_
          refine ok (m_aload_n (q := 42) rfl rfl rfl rfl) ?_
          refine ok (m_gfc (q := 45) rfl rfl rfl r8 rfl rfl rfl) ?_
          refine ok (m_iload_n (q := 46) rfl rfl rfl rfl) ?_
          refine ok (m_ials (q := 47) rfl rfl rfl r8 rfl rfl g11 rfl) ?_
          refine ok (m_iconst (q := 48) rfl rfl rfl) ?_
          refine okp (m_cmpne (qt := 57) (qf := 51) rfl rfl (Rp_rg r8 88 a1) ⟨by decide, by decide⟩ rfl rfl) (fun c12 => ?_) (fun c12 => ?_)
          · replace hp := ip c12 hp
            refine ok (m_iload_n (q := 52) rfl rfl rfl rfl) ?_
            refine ok (m_iconst (q := 53) rfl rfl rfl) ?_
            refine ok (m_iadd (q := 54) rfl rfl rfl) ?_
            refine ok (m_goto (q := 69) rfl rfl rfl) ?_
            refine ok (m_istore (q := 71) (lo' := [some (am_r (some 70)), some (am_i (wz a1)), some (am_i (wz a2)), some (am_i (wz a3)), some (am_i (wz (max a2 (D 85 a1)))), some (am_i (wz (wr (a3 + 1))))]) rfl rfl rfl rfl rfl) ?_
            refine ok (m_iconst (q := 72) rfl rfl rfl) ?_
            refine ok (m_iload (q := 74) rfl rfl rfl rfl) ?_
            refine ok (m_iload (q := 76) rfl rfl rfl rfl) ?_
            refine ok (m_isub (q := 77) rfl rfl rfl) ?_
            refine ok (m_max (q := 80) rfl rfl rfl ⟨by decide, by decide⟩ (rg_wr _) rfl) ?_
            refine ok (m_aload_n (q := 81) rfl rfl rfl rfl) ?_
            refine ok (m_gfc (q := 84) rfl rfl rfl r8 rfl rfl rfl) ?_
            refine ok (m_aload_n (q := 85) rfl rfl rfl rfl) ?_
            refine ok (m_gfc (q := 88) rfl rfl rfl r8 rfl rfl rfl) ?_
            refine ok (m_iload_n (q := 89) rfl rfl rfl rfl) ?_
            refine ok (m_ials (q := 90) rfl rfl rfl r8 rfl rfl g11 rfl) ?_
            have g13 := hp
            refine ok (m_ials (q := 91) rfl rfl rfl r8 rfl rfl g13 rfl) ?_
            refine ok (m_imul (q := 92) rfl rfl rfl) ?_
            refine ok (m_bipush (q := 94) rfl rfl rfl) ?_
            refine ok (m_idiv (q := 95) rfl rfl (rg_wr _) ⟨by decide, by decide⟩ (by decide) rfl) ?_
            exact ok (m_reti rfl rfl) (ok_i r8 (rg_wr _))
          · replace hp := iq c12 hp
            refine ok (m_iload_n (q := 58) rfl rfl rfl rfl) ?_
            refine ok (m_iconst (q := 59) rfl rfl rfl) ?_
            refine ok (m_iadd (q := 60) rfl rfl rfl) ?_
            refine ok (m_aload_n (q := 61) rfl rfl rfl rfl) ?_
            refine ok (m_gfc (q := 64) rfl rfl rfl r8 rfl rfl rfl) ?_
            refine ok (m_iload_n (q := 65) rfl rfl rfl rfl) ?_
            refine ok (m_ials (q := 66) rfl rfl rfl r8 rfl rfl g11 rfl) ?_
            refine ok (m_min (q := 69) rfl rfl rfl (rg_wr _) (Rp_rg r8 88 a1) rfl) ?_
            refine ok (m_istore (q := 71) (lo' := [some (am_r (some 70)), some (am_i (wz a1)), some (am_i (wz a2)), some (am_i (wz a3)), some (am_i (wz (max a2 (D 85 a1)))), some (am_i (wz (min (wr (a3 + 1)) (D 88 a1))))]) rfl rfl rfl rfl rfl) ?_
            refine ok (m_iconst (q := 72) rfl rfl rfl) ?_
            refine ok (m_iload (q := 74) rfl rfl rfl rfl) ?_
            refine ok (m_iload (q := 76) rfl rfl rfl rfl) ?_
            refine ok (m_isub (q := 77) rfl rfl rfl) ?_
            refine ok (m_max (q := 80) rfl rfl rfl ⟨by decide, by decide⟩ (rg_wr _) rfl) ?_
            refine ok (m_aload_n (q := 81) rfl rfl rfl rfl) ?_
            refine ok (m_gfc (q := 84) rfl rfl rfl r8 rfl rfl rfl) ?_
            refine ok (m_aload_n (q := 85) rfl rfl rfl rfl) ?_
            refine ok (m_gfc (q := 88) rfl rfl rfl r8 rfl rfl rfl) ?_
            refine ok (m_iload_n (q := 89) rfl rfl rfl rfl) ?_
            refine ok (m_ials (q := 90) rfl rfl rfl r8 rfl rfl g11 rfl) ?_
            have g14 := hp
            refine ok (m_ials (q := 91) rfl rfl rfl r8 rfl rfl g14 rfl) ?_
            refine ok (m_imul (q := 92) rfl rfl rfl) ?_
            refine ok (m_bipush (q := 94) rfl rfl rfl) ?_
            refine ok (m_idiv (q := 95) rfl rfl (rg_wr _) ⟨by decide, by decide⟩ (by decide) rfl) ?_
            exact ok (m_reti rfl rfl) (ok_i r8 (rg_wr _))
        · refine ok (m_iconst (q := 28) rfl rfl rfl) ?_
          exact ok (m_reti rfl rfl) (ok_i r8 ⟨by decide, by decide⟩)
abbrev P_X11_fault : Nat → Option am_E := am_fy tb_X11_fault
def v_X11_fault (D : aD) : Int := D 47 3
set_option maxRecDepth 100000 in
theorem ev_X11_fault {n : Nat} {A : aA} {D : aD} : Ev (n) 1 86 [am_r (some 32)] A D (ri (v_X11_fault D)) A D := by
  unfold v_X11_fault
  refine Ev_of (c := 0) (P := P_X11_fault) (lo := [some (am_r (some 32))]) rfl rfl rfl (fun d hd s hr => ?_)
  refine ok (m_aload_n (q := 1) rfl rfl rfl rfl) ?_
  refine ok (m_gfc (q := 4) rfl rfl rfl hr rfl rfl rfl) ?_
  refine ok (m_gfs (z := 3) (q := 7) rfl rfl rfl hr rfl rfl rfl rfl rfl) ?_
  exact ok (m_reti rfl rfl) (ok_i hr (Rp_rg hr 47 3))
abbrev P_X12_fault : Nat → Option am_E := am_fy tb_X12_fault
def v_X12_fault (D : aD) : Int := D 70 32
set_option maxRecDepth 100000 in
theorem ev_X12_fault {n : Nat} {A : aA} {D : aD} : Ev (n) 1 171 [am_r (some 70)] A D (ri (v_X12_fault D)) A D := by
  unfold v_X12_fault
  refine Ev_of (c := 0) (P := P_X12_fault) (lo := [some (am_r (some 70))]) rfl rfl rfl (fun d hd s hr => ?_)
  refine ok (m_aload_n (q := 1) rfl rfl rfl rfl) ?_
  refine ok (m_gfs (z := 32) (q := 4) rfl rfl rfl hr rfl rfl rfl rfl rfl) ?_
  exact ok (m_reti rfl rfl) (ok_i hr (Rp_rg hr 70 32))
abbrev P_X12_write : Nat → Option am_E := am_fy tb_X12_write
def v_X12_write (D : aD) (a1 : Int) (a2 : Int) (a3 : Int) (a4 : Int) (a5 : Int) : Int := if v_X12_isHouse D a1 = 0 then (-1) else if v_X12_isServant D a2 = 0 then (-1) else if v_X12_isIn D a3 0 9 = 0 then (-1) else if v_X12_isIn D a5 0 (D 70 0) = 0 then (-1) else if v_X12_isIn D a4 0 a5 = 0 then (-1) else if D 70 51 = 60 then (-1) else wr ((wr ((D 70 51) + 1)) - 1)
def u_X12_write (D : aD) (a1 : Int) (a2 : Int) (a3 : Int) (a4 : Int) (a5 : Int) : aD := if v_X12_isHouse D a1 = 0 then D else if v_X12_isServant D a2 = 0 then D else if v_X12_isIn D a3 0 9 = 0 then D else if v_X12_isIn D a5 0 (D 70 0) = 0 then D else if v_X12_isIn D a4 0 a5 = 0 then D else if D 70 51 = 60 then D else (up (up (up (up (up (up (up D 108 (D 70 51) a1) 109 (D 70 51) a2) 110 (D 70 51) a3) 111 (D 70 51) a4) 112 (D 70 51) a5) 113 (D 70 51) (D 70 0)) 70 51 (wr ((D 70 51) + 1)))
def p_X12_write (D : aD) (a1 : Int) (a2 : Int) (a3 : Int) (a4 : Int) (a5 : Int) : Prop := (if v_X12_isHouse D a1 = 0 then True else (if v_X12_isServant D a2 = 0 then True else (if v_X12_isIn D a3 0 9 = 0 then True else (if v_X12_isIn D a5 0 (D 70 0) = 0 then True else (if v_X12_isIn D a4 0 a5 = 0 then True else (if D 70 51 = 60 then True else (0 ≤ D 70 51 ∧ D 70 51 < 60)))))))
set_option maxRecDepth 100000 in
theorem ev_X12_write {n : Nat} {A : aA} {D : aD} (a1 : Int) (a2 : Int) (a3 : Int) (a4 : Int) (a5 : Int) (h1 : rg a1) (h2 : rg a2) (h3 : rg a3) (h4 : rg a4) (h5 : rg a5) (hp : p_X12_write D a1 a2 a3 a4 a5) : Ev (n) 3 180 [am_r (some 70), am_i (wz a1), am_i (wz a2), am_i (wz a3), am_i (wz a4), am_i (wz a5)] A D (ri (v_X12_write D a1 a2 a3 a4 a5)) A (u_X12_write D a1 a2 a3 a4 a5) := by
  unfold p_X12_write at hp
  unfold v_X12_write u_X12_write
  refine Ev_of (c := 2) (P := P_X12_write) (lo := [some (am_r (some 70)), some (am_i (wz a1)), some (am_i (wz a2)), some (am_i (wz a3)), some (am_i (wz a4)), some (am_i (wz a5))]) rfl rfl rfl (fun d hd s hr => ?_)
  refine ok (m_aload_n (q := 1) rfl rfl rfl rfl) ?_
  refine ok (m_iload_n (q := 2) rfl rfl rfl rfl) ?_
  refine oke (e_ci (x_cv (q := 5) rfl rfl rfl rfl rfl rfl rfl rfl rfl rfl (is_st hr rfl rfl)) (ev_X12_isHouse (D := D) a1 h1) (Nat.le_trans (by decide) hd) hr) (fun s1 r2 => ?_)
  refine okf (m_ifeq (qt := 59) (qf := 8) rfl rfl (Ev_rg (ev_X12_isHouse (D := D) a1 h1) hr) rfl rfl) (fun c3 => ?_) (fun c3 => ?_)
  · refine ok (m_iconst (q := 60) rfl rfl rfl) ?_
    exact ok (m_reti rfl rfl) (ok_i r2 ⟨by decide, by decide⟩)
  · replace hp := iq c3 hp
    refine ok (m_aload_n (q := 9) rfl rfl rfl rfl) ?_
    refine ok (m_iload_n (q := 10) rfl rfl rfl rfl) ?_
    refine oke (e_ci (x_cv (q := 13) rfl rfl rfl rfl rfl rfl rfl rfl rfl rfl (is_st r2 rfl rfl)) (ev_X12_isServant (D := D) a2 h2) (Nat.le_trans (by decide) hd) r2) (fun s4 r5 => ?_)
    refine okf (m_ifeq (qt := 59) (qf := 16) rfl rfl (Ev_rg (ev_X12_isServant (D := D) a2 h2) r2) rfl rfl) (fun c6 => ?_) (fun c6 => ?_)
    · refine ok (m_iconst (q := 60) rfl rfl rfl) ?_
      exact ok (m_reti rfl rfl) (ok_i r5 ⟨by decide, by decide⟩)
    · replace hp := iq c6 hp
      refine ok (m_iload_n (q := 17) rfl rfl rfl rfl) ?_
      refine ok (m_iconst (q := 18) rfl rfl rfl) ?_
      refine ok (m_bipush (q := 20) rfl rfl rfl) ?_
      refine oke (e_ci (x_cs (q := 23) rfl rfl rfl rfl rfl rfl rfl rfl rfl) (ev_X12_isIn (D := D) a3 0 9 h3 ⟨by decide, by decide⟩ ⟨by decide, by decide⟩) (Nat.le_trans (by decide) hd) r5) (fun s7 r8 => ?_)
      refine okf (m_ifeq (qt := 59) (qf := 26) rfl rfl (Ev_rg (ev_X12_isIn (D := D) a3 0 9 h3 ⟨by decide, by decide⟩ ⟨by decide, by decide⟩) r5) rfl rfl) (fun c9 => ?_) (fun c9 => ?_)
      · refine ok (m_iconst (q := 60) rfl rfl rfl) ?_
        exact ok (m_reti rfl rfl) (ok_i r8 ⟨by decide, by decide⟩)
      · replace hp := iq c9 hp
        refine ok (m_iload (q := 28) rfl rfl rfl rfl) ?_
        refine ok (m_iconst (q := 29) rfl rfl rfl) ?_
        refine ok (m_aload_n (q := 30) rfl rfl rfl rfl) ?_
        refine ok (m_gfs (z := 0) (q := 33) rfl rfl rfl r8 rfl rfl rfl rfl rfl) ?_
        refine oke (e_ci (x_cs (q := 36) rfl rfl rfl rfl rfl rfl rfl rfl rfl) (ev_X12_isIn (D := D) a5 0 (D 70 0) h5 ⟨by decide, by decide⟩ (Rp_rg r8 70 0)) (Nat.le_trans (by decide) hd) r8) (fun s10 r11 => ?_)
        refine okf (m_ifeq (qt := 59) (qf := 39) rfl rfl (Ev_rg (ev_X12_isIn (D := D) a5 0 (D 70 0) h5 ⟨by decide, by decide⟩ (Rp_rg r8 70 0)) r8) rfl rfl) (fun c12 => ?_) (fun c12 => ?_)
        · refine ok (m_iconst (q := 60) rfl rfl rfl) ?_
          exact ok (m_reti rfl rfl) (ok_i r11 ⟨by decide, by decide⟩)
        · replace hp := iq c12 hp
          refine ok (m_iload (q := 41) rfl rfl rfl rfl) ?_
          refine ok (m_iconst (q := 42) rfl rfl rfl) ?_
          refine ok (m_iload (q := 44) rfl rfl rfl rfl) ?_
          refine oke (e_ci (x_cs (q := 47) rfl rfl rfl rfl rfl rfl rfl rfl rfl) (ev_X12_isIn (D := D) a4 0 a5 h4 ⟨by decide, by decide⟩ h5) (Nat.le_trans (by decide) hd) r11) (fun s13 r14 => ?_)
          refine okf (m_ifeq (qt := 59) (qf := 50) rfl rfl (Ev_rg (ev_X12_isIn (D := D) a4 0 a5 h4 ⟨by decide, by decide⟩ h5) r11) rfl rfl) (fun c15 => ?_) (fun c15 => ?_)
          · refine ok (m_iconst (q := 60) rfl rfl rfl) ?_
            exact ok (m_reti rfl rfl) (ok_i r14 ⟨by decide, by decide⟩)
          · replace hp := iq c15 hp
            refine ok (m_aload_n (q := 51) rfl rfl rfl rfl) ?_
            refine ok (m_gfs (z := 51) (q := 54) rfl rfl rfl r14 rfl rfl rfl rfl rfl) ?_
            refine ok (m_bipush (q := 56) rfl rfl rfl) ?_
            refine okf (m_cmpne (qt := 61) (qf := 59) rfl rfl (Rp_rg r14 70 51) ⟨by decide, by decide⟩ rfl rfl) (fun c16 => ?_) (fun c16 => ?_)
            · refine ok (m_iconst (q := 60) rfl rfl rfl) ?_
              exact ok (m_reti rfl rfl) (ok_i r14 ⟨by decide, by decide⟩)
            · replace hp := iq c16 hp
              refine ok (m_aload_n (q := 62) rfl rfl rfl rfl) ?_
              refine ok (m_gfc (q := 65) rfl rfl rfl r14 rfl rfl rfl) ?_
              refine ok (m_aload_n (q := 66) rfl rfl rfl rfl) ?_
              refine ok (m_gfs (z := 51) (q := 69) rfl rfl rfl r14 rfl rfl rfl rfl rfl) ?_
              refine ok (m_iload_n (q := 70) rfl rfl rfl rfl) ?_
              have g19 := hp
              refine oke (e_ias (q := 71) rfl rfl rfl r14 rfl rfl g19 h1) (fun s18 r17 => ?_)
              refine ok (m_aload_n (q := 72) rfl rfl rfl rfl) ?_
              refine ok (m_gfc (q := 75) rfl rfl rfl r17 rfl rfl rfl) ?_
              refine ok (m_aload_n (q := 76) rfl rfl rfl rfl) ?_
              refine ok (m_gfs (z := 51) (q := 79) (w := D 70 51) rfl rfl rfl r17 rfl rfl rfl rfl rfl) ?_
              refine ok (m_iload_n (q := 80) rfl rfl rfl rfl) ?_
              refine oke (e_ias (q := 81) rfl rfl rfl r17 rfl rfl g19 h2) (fun s21 r20 => ?_)
              refine ok (m_aload_n (q := 82) rfl rfl rfl rfl) ?_
              refine ok (m_gfc (q := 85) rfl rfl rfl r20 rfl rfl rfl) ?_
              refine ok (m_aload_n (q := 86) rfl rfl rfl rfl) ?_
              refine ok (m_gfs (z := 51) (q := 89) (w := D 70 51) rfl rfl rfl r20 rfl rfl rfl rfl rfl) ?_
              refine ok (m_iload_n (q := 90) rfl rfl rfl rfl) ?_
              refine oke (e_ias (q := 91) rfl rfl rfl r20 rfl rfl g19 h3) (fun s23 r22 => ?_)
              refine ok (m_aload_n (q := 92) rfl rfl rfl rfl) ?_
              refine ok (m_gfc (q := 95) rfl rfl rfl r22 rfl rfl rfl) ?_
              refine ok (m_aload_n (q := 96) rfl rfl rfl rfl) ?_
              refine ok (m_gfs (z := 51) (q := 99) (w := D 70 51) rfl rfl rfl r22 rfl rfl rfl rfl rfl) ?_
              refine ok (m_iload (q := 101) rfl rfl rfl rfl) ?_
              refine oke (e_ias (q := 102) rfl rfl rfl r22 rfl rfl g19 h4) (fun s25 r24 => ?_)
              refine ok (m_aload_n (q := 103) rfl rfl rfl rfl) ?_
              refine ok (m_gfc (q := 106) rfl rfl rfl r24 rfl rfl rfl) ?_
              refine ok (m_aload_n (q := 107) rfl rfl rfl rfl) ?_
              refine ok (m_gfs (z := 51) (q := 110) (w := D 70 51) rfl rfl rfl r24 rfl rfl rfl rfl rfl) ?_
              refine ok (m_iload (q := 112) rfl rfl rfl rfl) ?_
              refine oke (e_ias (q := 113) rfl rfl rfl r24 rfl rfl g19 h5) (fun s27 r26 => ?_)
              refine ok (m_aload_n (q := 114) rfl rfl rfl rfl) ?_
              refine ok (m_gfc (q := 117) rfl rfl rfl r26 rfl rfl rfl) ?_
              refine ok (m_aload_n (q := 118) rfl rfl rfl rfl) ?_
              refine ok (m_gfs (z := 51) (q := 121) (w := D 70 51) rfl rfl rfl r26 rfl rfl rfl rfl rfl) ?_
              refine ok (m_aload_n (q := 122) rfl rfl rfl rfl) ?_
              refine ok (m_gfs (z := 0) (q := 125) (w := D 70 0) rfl rfl rfl r26 rfl rfl rfl rfl rfl) ?_
              refine oke (e_ias (q := 126) rfl rfl rfl r26 rfl rfl g19 (show rg (D 70 0) from Rp_rg r26 70 0)) (fun s29 r28 => ?_)
              refine ok (m_aload_n (q := 127) rfl rfl rfl rfl) ?_
              refine ok (m_dup (q := 128) rfl rfl rfl rfl) ?_
              refine ok (m_gfs (z := 51) (q := 131) (w := D 70 51) rfl rfl rfl r28 rfl rfl rfl rfl rfl) ?_
              refine ok (m_iconst (q := 132) rfl rfl rfl) ?_
              refine ok (m_iadd (q := 133) rfl rfl rfl) ?_
              refine oke (e_pfs (q := 136) rfl rfl rfl r28 rfl rfl rfl rfl (rg_wr _)) (fun s31 r30 => ?_)
              refine ok (m_aload_n (q := 137) rfl rfl rfl rfl) ?_
              refine ok (m_gfs (z := 51) (q := 140) (w := wr ((D 70 51) + 1)) rfl rfl rfl r30 rfl rfl rfl rfl up_eq) ?_
              refine ok (m_iconst (q := 141) rfl rfl rfl) ?_
              refine ok (m_isub (q := 142) rfl rfl rfl) ?_
              exact ok (m_reti rfl rfl) (ok_i r30 (rg_wr _))
theorem fl_X12_write (D : aD) (a1 : Int) (a2 : Int) (a3 : Int) (a4 : Int) (a5 : Int) (t : Nat) (i : Int) (ht : Nat.ble t 49 = true) : u_X12_write D a1 a2 a3 a4 a5 (900 + t) i = D (900 + t) i := fl_if (rfl) (fl_if (rfl) (fl_if (rfl) (fl_if (rfl) (fl_if (rfl) (fl_if (rfl) ((up_c (fl_ne rfl ht)).trans ((up_c (fl_ne rfl ht)).trans ((up_c (fl_ne rfl ht)).trans ((up_c (fl_ne rfl ht)).trans ((up_c (fl_ne rfl ht)).trans ((up_c (fl_ne rfl ht)).trans ((up_c (fl_ne rfl ht)).trans (rfl)))))))))))))
abbrev P_X11_written : Nat → Option am_E := am_fy tb_X11_written
def v_X11_written (D : aD) (a1 : Int) (a2 : Int) : Int := if v_X11_between D a1 0 (wr ((D 1002 2) - 1)) = 0 then (-1) else if a2 = 0 then D 2200 a1 else if a2 = 1 then D 2201 a1 else if a2 = 2 then D 2202 a1 else if a2 = 3 then D 2203 a1 else (-1)
def p_X11_written (D : aD) (a1 : Int) (a2 : Int) : Prop := (if v_X11_between D a1 0 (wr ((D 1002 2) - 1)) = 0 then True else (0 ≤ a1 ∧ a1 < D 1002 2))
set_option maxRecDepth 100000 in
theorem ev_X11_written {n : Nat} {A : aA} {D : aD} (a1 : Int) (a2 : Int) (h1 : rg a1) (h2 : rg a2) (hp : p_X11_written D a1 a2) : Ev (n) 5 90 [am_r (some 32), am_i (wz a1), am_i (wz a2)] A D (ri (v_X11_written D a1 a2)) A D := by
  unfold p_X11_written at hp
  unfold v_X11_written
  refine Ev_of (c := 4) (P := P_X11_written) (lo := [some (am_r (some 32)), some (am_i (wz a1)), some (am_i (wz a2)), none]) rfl rfl rfl (fun d hd s hr => ?_)
  refine ok (m_iload_n (q := 1) rfl rfl rfl rfl) ?_
  refine ok (m_iconst (q := 2) rfl rfl rfl) ?_
  refine ok (m_aload_n (q := 3) rfl rfl rfl rfl) ?_
  have f_1 := Rp_fx0_2 hr
  refine ok (m_gfy (q := 6) rfl rfl rfl hr rfl rfl rfl) ?_
  refine oke (e_ci (x_cv (q := 9) rfl rfl rfl rfl rfl rfl rfl rfl rfl rfl (is_ty hr rfl f_1)) (ev_size 2 f_1) (Nat.le_trans (by decide) hd) hr) (fun s2 r3 => ?_)
  refine ok (m_iconst (q := 10) rfl rfl rfl) ?_
  refine ok (m_isub (q := 11) rfl rfl rfl) ?_
  refine oke (e_ci (x_cs (q := 14) rfl rfl rfl rfl rfl rfl rfl rfl rfl) (ev_X11_between (D := D) a1 0 (wr ((D 1002 2) - 1)) h1 ⟨by decide, by decide⟩ (rg_wr _)) (Nat.le_trans (by decide) hd) r3) (fun s4 r5 => ?_)
  refine okp (m_ifne (qt := 19) (qf := 17) rfl rfl (Ev_rg (ev_X11_between (D := D) a1 0 (wr ((D 1002 2) - 1)) h1 ⟨by decide, by decide⟩ (rg_wr _)) r3) rfl rfl) (fun c6 => ?_) (fun c6 => ?_)
  · refine ok (m_iconst (q := 18) rfl rfl rfl) ?_
    exact ok (m_reti rfl rfl) (ok_i r5 ⟨by decide, by decide⟩)
  · replace hp := iq c6 hp
    refine ok (m_aload_n (q := 20) rfl rfl rfl rfl) ?_
    have f_7 := Rp_fx0_2 r5
    refine ok (m_gfy (q := 23) rfl rfl rfl r5 rfl rfl rfl) ?_
    refine ok (m_iload_n (q := 24) rfl rfl rfl rfl) ?_
    have g10 := hp
    have f_11 := Rp_el2 (D := D) r5 g10
    refine oke (e_cr (x_cv (q := 27) rfl rfl rfl rfl rfl rfl rfl rfl rfl rfl (is_ty r5 rfl f_7)) (ev_get2 a1 g10) (Nat.le_trans (by decide) hd) r5) (fun s8 r9 => ?_)
    refine ok (m_cast (q := 30) rfl rfl rfl (isN_ty r9 rfl f_11)) ?_
    refine ok (m_astore_n (q := 31) (lo' := [some (am_r (some 32)), some (am_i (wz a1)), some (am_i (wz a2)), some (am_r (some (A 12 a1)))]) rfl rfl rfl rfl rfl) ?_
    refine ok (m_iload_n (q := 32) rfl rfl rfl rfl) ?_
    refine ok (m_tsw (z := 0) (qs := [64, 69, 74, 79]) (qd := 84) rfl rfl h2 rfl rfl rfl rfl) ?_
    refine okp (rfl) (fun c12 => ?_) (fun c12 => ?_)
    · refine ok (m_aload_n (q := 65) rfl rfl rfl rfl) ?_
      refine ok (m_gft (t := 12) (q := 68) rfl rfl rfl r9 rfl f_11 rfl rfl rfl) ?_
      exact ok (m_reti rfl rfl) (ok_i r9 (show rg (D 2200 a1) from Rp_rg r9 2200 a1))
    · refine okp (rfl) (fun c13 => ?_) (fun c13 => ?_)
      · refine ok (m_aload_n (q := 70) rfl rfl rfl rfl) ?_
        refine ok (m_gft (t := 12) (q := 73) rfl rfl rfl r9 rfl f_11 rfl rfl rfl) ?_
        exact ok (m_reti rfl rfl) (ok_i r9 (show rg (D 2201 a1) from Rp_rg r9 2201 a1))
      · refine okp (rfl) (fun c14 => ?_) (fun c14 => ?_)
        · refine ok (m_aload_n (q := 75) rfl rfl rfl rfl) ?_
          refine ok (m_gft (t := 12) (q := 78) rfl rfl rfl r9 rfl f_11 rfl rfl rfl) ?_
          exact ok (m_reti rfl rfl) (ok_i r9 (show rg (D 2202 a1) from Rp_rg r9 2202 a1))
        · refine okp (rfl) (fun c15 => ?_) (fun c15 => ?_)
          · refine ok (m_aload_n (q := 80) rfl rfl rfl rfl) ?_
            refine ok (m_gft (t := 12) (q := 83) rfl rfl rfl r9 rfl f_11 rfl rfl rfl) ?_
            exact ok (m_reti rfl rfl) (ok_i r9 (show rg (D 2203 a1) from Rp_rg r9 2203 a1))
          · refine ok (m_iconst (q := 85) rfl rfl rfl) ?_
            exact ok (m_reti rfl rfl) (ok_i r9 ⟨by decide, by decide⟩)
abbrev P_X12_written : Nat → Option am_E := am_fy tb_X12_written
def v_X12_written (D : aD) (a1 : Int) (a2 : Int) : Int := if v_X12_isIn D a1 0 (wr ((D 70 51) - 1)) = 0 then (-1) else if a2 = 0 then D 108 a1 else if a2 = 1 then D 109 a1 else if a2 = 2 then D 110 a1 else if a2 = 3 then D 113 a1 else (-1)
def p_X12_written (D : aD) (a1 : Int) (a2 : Int) : Prop := (if v_X12_isIn D a1 0 (wr ((D 70 51) - 1)) = 0 then True else (if a2 = 0 then (0 ≤ a1 ∧ a1 < 60) else (if a2 = 1 then (0 ≤ a1 ∧ a1 < 60) else (if a2 = 2 then (0 ≤ a1 ∧ a1 < 60) else (if a2 = 3 then (0 ≤ a1 ∧ a1 < 60) else True)))))
set_option maxRecDepth 100000 in
theorem ev_X12_written {n : Nat} {A : aA} {D : aD} (a1 : Int) (a2 : Int) (h1 : rg a1) (h2 : rg a2) (hp : p_X12_written D a1 a2) : Ev (n) 2 181 [am_r (some 70), am_i (wz a1), am_i (wz a2)] A D (ri (v_X12_written D a1 a2)) A D := by
  unfold p_X12_written at hp
  unfold v_X12_written
  refine Ev_of (c := 1) (P := P_X12_written) (lo := [some (am_r (some 70)), some (am_i (wz a1)), some (am_i (wz a2))]) rfl rfl rfl (fun d hd s hr => ?_)
  refine ok (m_iload_n (q := 1) rfl rfl rfl rfl) ?_
  refine ok (m_iconst (q := 2) rfl rfl rfl) ?_
  refine ok (m_aload_n (q := 3) rfl rfl rfl rfl) ?_
  refine ok (m_gfs (z := 51) (q := 6) rfl rfl rfl hr rfl rfl rfl rfl rfl) ?_
  refine ok (m_iconst (q := 7) rfl rfl rfl) ?_
  refine ok (m_isub (q := 8) rfl rfl rfl) ?_
  refine oke (e_ci (x_cs (q := 11) rfl rfl rfl rfl rfl rfl rfl rfl rfl) (ev_X12_isIn (D := D) a1 0 (wr ((D 70 51) - 1)) h1 ⟨by decide, by decide⟩ (rg_wr _)) (Nat.le_trans (by decide) hd) hr) (fun s1 r2 => ?_)
  refine okp (m_ifne (qt := 16) (qf := 14) rfl rfl (Ev_rg (ev_X12_isIn (D := D) a1 0 (wr ((D 70 51) - 1)) h1 ⟨by decide, by decide⟩ (rg_wr _)) hr) rfl rfl) (fun c3 => ?_) (fun c3 => ?_)
  · refine ok (m_iconst (q := 15) rfl rfl rfl) ?_
    exact ok (m_reti rfl rfl) (ok_i r2 ⟨by decide, by decide⟩)
  · replace hp := iq c3 hp
    refine ok (m_iload_n (q := 17) rfl rfl rfl rfl) ?_
    refine okp (m_ifne (qt := 29) (qf := 20) rfl rfl h2 rfl rfl) (fun c4 => ?_) (fun c4 => ?_)
    · replace hp := ip c4 hp
      refine ok (m_aload_n (q := 21) rfl rfl rfl rfl) ?_
      refine ok (m_gfc (q := 24) rfl rfl rfl r2 rfl rfl rfl) ?_
      refine ok (m_iload_n (q := 25) rfl rfl rfl rfl) ?_
      have g5 := hp
      refine ok (m_ials (q := 26) rfl rfl rfl r2 rfl rfl g5 rfl) ?_
      refine ok (m_goto (q := 72) rfl rfl rfl) ?_
      exact ok (m_reti rfl rfl) (ok_i r2 (Rp_rg r2 108 a1))
    · replace hp := iq c4 hp
      refine ok (m_iload_n (q := 30) rfl rfl rfl rfl) ?_
      refine ok (m_iconst (q := 31) rfl rfl rfl) ?_
      refine okp (m_cmpne (qt := 43) (qf := 34) rfl rfl h2 ⟨by decide, by decide⟩ rfl rfl) (fun c6 => ?_) (fun c6 => ?_)
      · replace hp := ip c6 hp
        refine ok (m_aload_n (q := 35) rfl rfl rfl rfl) ?_
        refine ok (m_gfc (q := 38) rfl rfl rfl r2 rfl rfl rfl) ?_
        refine ok (m_iload_n (q := 39) rfl rfl rfl rfl) ?_
        have g7 := hp
        refine ok (m_ials (q := 40) rfl rfl rfl r2 rfl rfl g7 rfl) ?_
        refine ok (m_goto (q := 72) rfl rfl rfl) ?_
        exact ok (m_reti rfl rfl) (ok_i r2 (Rp_rg r2 109 a1))
      · replace hp := iq c6 hp
        refine ok (m_iload_n (q := 44) rfl rfl rfl rfl) ?_
        refine ok (m_iconst (q := 45) rfl rfl rfl) ?_
        refine okp (m_cmpne (qt := 57) (qf := 48) rfl rfl h2 ⟨by decide, by decide⟩ rfl rfl) (fun c8 => ?_) (fun c8 => ?_)
        · replace hp := ip c8 hp
          refine ok (m_aload_n (q := 49) rfl rfl rfl rfl) ?_
          refine ok (m_gfc (q := 52) rfl rfl rfl r2 rfl rfl rfl) ?_
          refine ok (m_iload_n (q := 53) rfl rfl rfl rfl) ?_
          have g9 := hp
          refine ok (m_ials (q := 54) rfl rfl rfl r2 rfl rfl g9 rfl) ?_
          refine ok (m_goto (q := 72) rfl rfl rfl) ?_
          exact ok (m_reti rfl rfl) (ok_i r2 (Rp_rg r2 110 a1))
        · replace hp := iq c8 hp
          refine ok (m_iload_n (q := 58) rfl rfl rfl rfl) ?_
          refine ok (m_iconst (q := 59) rfl rfl rfl) ?_
          refine okp (m_cmpne (qt := 71) (qf := 62) rfl rfl h2 ⟨by decide, by decide⟩ rfl rfl) (fun c10 => ?_) (fun c10 => ?_)
          · replace hp := ip c10 hp
            refine ok (m_aload_n (q := 63) rfl rfl rfl rfl) ?_
            refine ok (m_gfc (q := 66) rfl rfl rfl r2 rfl rfl rfl) ?_
            refine ok (m_iload_n (q := 67) rfl rfl rfl rfl) ?_
            have g11 := hp
            refine ok (m_ials (q := 68) rfl rfl rfl r2 rfl rfl g11 rfl) ?_
            refine ok (m_goto (q := 72) rfl rfl rfl) ?_
            exact ok (m_reti rfl rfl) (ok_i r2 (Rp_rg r2 113 a1))
          · refine ok (m_iconst (q := 72) rfl rfl rfl) ?_
            exact ok (m_reti rfl rfl) (ok_i r2 ⟨by decide, by decide⟩)
abbrev P_X11_tell : Nat → Option am_E := am_fy tb_X11_tell
def v_X11_tell (D : aD) (a1 : Int) (a2 : Int) : Int := if v_X11_isServant D a1 = 0 then 0 else if a2 = (-1) then 1 else if v_X11_isPlace D a2 = 0 then 0 else 1
def u_X11_tell (D : aD) (a1 : Int) (a2 : Int) : aD := if v_X11_isServant D a1 = 0 then D else if a2 = (-1) then (up D 36 a1 a2) else if v_X11_isPlace D a2 = 0 then D else (up D 36 a1 a2)
def p_X11_tell (D : aD) (a1 : Int) (a2 : Int) : Prop := (if v_X11_isServant D a1 = 0 then True else (if a2 = (-1) then (0 ≤ a1 ∧ a1 < 24) else (if v_X11_isPlace D a2 = 0 then True else (0 ≤ a1 ∧ a1 < 24))))
theorem b_X11_tell (D : aD) (a1 : Int) (a2 : Int) : 0 ≤ v_X11_tell D a1 a2 ∧ v_X11_tell D a1 a2 ≤ 1 := b01 (fun c3 => ⟨by decide, by decide⟩) (fun c3 => b01 (fun c4 => ⟨by decide, by decide⟩) (fun c4 => b01 (fun c10 => ⟨by decide, by decide⟩) (fun c10 => ⟨by decide, by decide⟩)))
set_option maxRecDepth 100000 in
theorem ev_X11_tell {n : Nat} {A : aA} {D : aD} (a1 : Int) (a2 : Int) (h1 : rg a1) (h2 : rg a2) (hp : p_X11_tell D a1 a2) : Ev (n) 3 95 [am_r (some 32), am_i (wz a1), am_i (wz a2)] A D (ri (v_X11_tell D a1 a2)) A (u_X11_tell D a1 a2) := by
  unfold p_X11_tell at hp
  unfold v_X11_tell u_X11_tell
  refine Ev_of (c := 2) (P := P_X11_tell) (lo := [some (am_r (some 32)), some (am_i (wz a1)), some (am_i (wz a2))]) rfl rfl rfl (fun d hd s hr => ?_)
  refine ok (m_aload_n (q := 1) rfl rfl rfl rfl) ?_
  refine ok (m_iload_n (q := 2) rfl rfl rfl rfl) ?_
  refine oke (e_ci (x_cv (q := 5) rfl rfl rfl rfl rfl rfl rfl rfl rfl rfl (is_st hr rfl rfl)) (ev_X11_isServant (D := D) a1 h1) (Nat.le_trans (by decide) hd) hr) (fun s1 r2 => ?_)
  refine okf (m_ifeq (qt := 21) (qf := 8) rfl rfl (Ev_rg (ev_X11_isServant (D := D) a1 h1) hr) rfl rfl) (fun c3 => ?_) (fun c3 => ?_)
  · refine ok (m_iconst (q := 22) rfl rfl rfl) ?_
    exact ok (m_retb rfl rfl ⟨by decide, by decide⟩) (ok_i r2 ⟨by decide, by decide⟩)
  · replace hp := iq c3 hp
    refine ok (m_iload_n (q := 9) rfl rfl rfl rfl) ?_
    refine ok (m_iconst (q := 10) rfl rfl rfl) ?_
    refine okf (m_cmpeq (qt := 23) (qf := 13) rfl rfl h2 ⟨by decide, by decide⟩ rfl rfl) (fun c4 => ?_) (fun c4 => ?_)
    · replace hp := ip c4 hp
      refine ok (m_aload_n (q := 24) rfl rfl rfl rfl) ?_
      refine ok (m_gfc (q := 27) rfl rfl rfl r2 rfl rfl rfl) ?_
      refine ok (m_iload_n (q := 28) rfl rfl rfl rfl) ?_
      refine ok (m_iload_n (q := 29) rfl rfl rfl rfl) ?_
      have g7 := hp
      refine oke (e_ias (q := 30) rfl rfl rfl r2 rfl rfl g7 h2) (fun s6 r5 => ?_)
      refine ok (m_iconst (q := 31) rfl rfl rfl) ?_
      exact ok (m_retb rfl rfl ⟨by decide, by decide⟩) (ok_i r5 ⟨by decide, by decide⟩)
    · replace hp := iq c4 hp
      refine ok (m_aload_n (q := 14) rfl rfl rfl rfl) ?_
      refine ok (m_iload_n (q := 15) rfl rfl rfl rfl) ?_
      refine oke (e_ci (x_cv (q := 18) rfl rfl rfl rfl rfl rfl rfl rfl rfl rfl (is_st r2 rfl rfl)) (ev_X11_isPlace (D := D) a2 h2) (Nat.le_trans (by decide) hd) r2) (fun s8 r9 => ?_)
      refine okf (m_ifne (qt := 23) (qf := 21) rfl rfl (Ev_rg (ev_X11_isPlace (D := D) a2 h2) r2) rfl rfl) (fun c10 => ?_) (fun c10 => ?_)
      · refine ok (m_iconst (q := 22) rfl rfl rfl) ?_
        exact ok (m_retb rfl rfl ⟨by decide, by decide⟩) (ok_i r9 ⟨by decide, by decide⟩)
      · replace hp := iq c10 hp
        refine ok (m_aload_n (q := 24) rfl rfl rfl rfl) ?_
        refine ok (m_gfc (q := 27) rfl rfl rfl r9 rfl rfl rfl) ?_
        refine ok (m_iload_n (q := 28) rfl rfl rfl rfl) ?_
        refine ok (m_iload_n (q := 29) rfl rfl rfl rfl) ?_
        have g13 := hp
        refine oke (e_ias (q := 30) rfl rfl rfl r9 rfl rfl g13 h2) (fun s12 r11 => ?_)
        refine ok (m_iconst (q := 31) rfl rfl rfl) ?_
        exact ok (m_retb rfl rfl ⟨by decide, by decide⟩) (ok_i r11 ⟨by decide, by decide⟩)
theorem fl_X11_tell (D : aD) (a1 : Int) (a2 : Int) (t : Nat) (i : Int) (ht : Nat.ble t 49 = true) : u_X11_tell D a1 a2 (900 + t) i = D (900 + t) i := fl_if (rfl) (fl_if ((up_c (fl_ne rfl ht)).trans (rfl)) (fl_if (rfl) ((up_c (fl_ne rfl ht)).trans (rfl))))
abbrev P_X12_tell : Nat → Option am_E := am_fy tb_X12_tell
def v_X12_tell (D : aD) (a1 : Int) (a2 : Int) : Int := if v_X12_isServant D a1 = 0 then 0 else if a2 = (-1) then 1 else if v_X12_isPlace D a2 = 0 then 0 else 1
def u_X12_tell (D : aD) (a1 : Int) (a2 : Int) : aD := if v_X12_isServant D a1 = 0 then D else if a2 = (-1) then (up D 116 a1 (wr (a2 + 1))) else if v_X12_isPlace D a2 = 0 then D else (up D 116 a1 (wr (a2 + 1)))
def p_X12_tell (D : aD) (a1 : Int) (a2 : Int) : Prop := (if v_X12_isServant D a1 = 0 then True else (if a2 = (-1) then (0 ≤ a1 ∧ a1 < 24) else (if v_X12_isPlace D a2 = 0 then True else (0 ≤ a1 ∧ a1 < 24))))
theorem b_X12_tell (D : aD) (a1 : Int) (a2 : Int) : 0 ≤ v_X12_tell D a1 a2 ∧ v_X12_tell D a1 a2 ≤ 1 := b01 (fun c3 => ⟨by decide, by decide⟩) (fun c3 => b01 (fun c4 => ⟨by decide, by decide⟩) (fun c4 => b01 (fun c10 => ⟨by decide, by decide⟩) (fun c10 => ⟨by decide, by decide⟩)))
set_option maxRecDepth 100000 in
theorem ev_X12_tell {n : Nat} {A : aA} {D : aD} (a1 : Int) (a2 : Int) (h1 : rg a1) (h2 : rg a2) (hp : p_X12_tell D a1 a2) : Ev (n) 3 194 [am_r (some 70), am_i (wz a1), am_i (wz a2)] A D (ri (v_X12_tell D a1 a2)) A (u_X12_tell D a1 a2) := by
  unfold p_X12_tell at hp
  unfold v_X12_tell u_X12_tell
  refine Ev_of (c := 2) (P := P_X12_tell) (lo := [some (am_r (some 70)), some (am_i (wz a1)), some (am_i (wz a2))]) rfl rfl rfl (fun d hd s hr => ?_)
  refine ok (m_aload_n (q := 1) rfl rfl rfl rfl) ?_
  refine ok (m_iload_n (q := 2) rfl rfl rfl rfl) ?_
  refine oke (e_ci (x_cv (q := 5) rfl rfl rfl rfl rfl rfl rfl rfl rfl rfl (is_st hr rfl rfl)) (ev_X12_isServant (D := D) a1 h1) (Nat.le_trans (by decide) hd) hr) (fun s1 r2 => ?_)
  refine okf (m_ifeq (qt := 21) (qf := 8) rfl rfl (Ev_rg (ev_X12_isServant (D := D) a1 h1) hr) rfl rfl) (fun c3 => ?_) (fun c3 => ?_)
  · refine ok (m_iconst (q := 22) rfl rfl rfl) ?_
    exact ok (m_retb rfl rfl ⟨by decide, by decide⟩) (ok_i r2 ⟨by decide, by decide⟩)
  · replace hp := iq c3 hp
    refine ok (m_iload_n (q := 9) rfl rfl rfl rfl) ?_
    refine ok (m_iconst (q := 10) rfl rfl rfl) ?_
    refine okf (m_cmpeq (qt := 23) (qf := 13) rfl rfl h2 ⟨by decide, by decide⟩ rfl rfl) (fun c4 => ?_) (fun c4 => ?_)
    · replace hp := ip c4 hp
      refine ok (m_aload_n (q := 24) rfl rfl rfl rfl) ?_
      refine ok (m_gfc (q := 27) rfl rfl rfl r2 rfl rfl rfl) ?_
      refine ok (m_iload_n (q := 28) rfl rfl rfl rfl) ?_
      refine ok (m_iload_n (q := 29) rfl rfl rfl rfl) ?_
      refine ok (m_iconst (q := 30) rfl rfl rfl) ?_
      refine ok (m_iadd (q := 31) rfl rfl rfl) ?_
      have g7 := hp
      refine oke (e_ias (q := 32) rfl rfl rfl r2 rfl rfl g7 (rg_wr _)) (fun s6 r5 => ?_)
      refine ok (m_iconst (q := 33) rfl rfl rfl) ?_
      exact ok (m_retb rfl rfl ⟨by decide, by decide⟩) (ok_i r5 ⟨by decide, by decide⟩)
    · replace hp := iq c4 hp
      refine ok (m_aload_n (q := 14) rfl rfl rfl rfl) ?_
      refine ok (m_iload_n (q := 15) rfl rfl rfl rfl) ?_
      refine oke (e_ci (x_cv (q := 18) rfl rfl rfl rfl rfl rfl rfl rfl rfl rfl (is_st r2 rfl rfl)) (ev_X12_isPlace (D := D) a2 h2) (Nat.le_trans (by decide) hd) r2) (fun s8 r9 => ?_)
      refine okf (m_ifne (qt := 23) (qf := 21) rfl rfl (Ev_rg (ev_X12_isPlace (D := D) a2 h2) r2) rfl rfl) (fun c10 => ?_) (fun c10 => ?_)
      · refine ok (m_iconst (q := 22) rfl rfl rfl) ?_
        exact ok (m_retb rfl rfl ⟨by decide, by decide⟩) (ok_i r9 ⟨by decide, by decide⟩)
      · replace hp := iq c10 hp
        refine ok (m_aload_n (q := 24) rfl rfl rfl rfl) ?_
        refine ok (m_gfc (q := 27) rfl rfl rfl r9 rfl rfl rfl) ?_
        refine ok (m_iload_n (q := 28) rfl rfl rfl rfl) ?_
        refine ok (m_iload_n (q := 29) rfl rfl rfl rfl) ?_
        refine ok (m_iconst (q := 30) rfl rfl rfl) ?_
        refine ok (m_iadd (q := 31) rfl rfl rfl) ?_
        have g13 := hp
        refine oke (e_ias (q := 32) rfl rfl rfl r9 rfl rfl g13 (rg_wr _)) (fun s12 r11 => ?_)
        refine ok (m_iconst (q := 33) rfl rfl rfl) ?_
        exact ok (m_retb rfl rfl ⟨by decide, by decide⟩) (ok_i r11 ⟨by decide, by decide⟩)
theorem fl_X12_tell (D : aD) (a1 : Int) (a2 : Int) (t : Nat) (i : Int) (ht : Nat.ble t 49 = true) : u_X12_tell D a1 a2 (900 + t) i = D (900 + t) i := fl_if (rfl) (fl_if ((up_c (fl_ne rfl ht)).trans (rfl)) (fl_if (rfl) ((up_c (fl_ne rfl ht)).trans (rfl))))
abbrev P_X11_clear : Nat → Option am_E := am_fy tb_X11_clear
def v_X11_clear (D : aD) : Int := wr ((D 62 7) + (D 62 8))
def u_X11_clear (D : aD) : aD := (up (up D 62 7 0) 62 8 0)
set_option maxRecDepth 100000 in
theorem ev_X11_clear {n : Nat} {A : aA} {D : aD} : Ev (n) 1 98 [am_r (some 32)] A D (ri (v_X11_clear D)) A (u_X11_clear D) := by
  unfold v_X11_clear u_X11_clear
  refine Ev_of (c := 0) (P := P_X11_clear) (lo := [some (am_r (some 32)), none]) rfl rfl rfl (fun d hd s hr => ?_)
  refine ok (m_aload_n (q := 1) rfl rfl rfl rfl) ?_
  refine ok (m_gfc (q := 4) rfl rfl rfl hr rfl rfl rfl) ?_
  refine ok (m_gfs (z := 7) (q := 7) rfl rfl rfl hr rfl rfl rfl rfl rfl) ?_
  refine ok (m_aload_n (q := 8) rfl rfl rfl rfl) ?_
  refine ok (m_gfc (q := 11) rfl rfl rfl hr rfl rfl rfl) ?_
  refine ok (m_gfs (z := 8) (q := 14) rfl rfl rfl hr rfl rfl rfl rfl rfl) ?_
  refine ok (m_iadd (q := 15) rfl rfl rfl) ?_
  refine ok (m_istore_n (q := 16) (lo' := [some (am_r (some 32)), some (am_i (wz (wr ((D 62 7) + (D 62 8)))))]) rfl rfl rfl rfl rfl) ?_
  refine ok (m_aload_n (q := 17) rfl rfl rfl rfl) ?_
  refine ok (m_gfc (q := 20) rfl rfl rfl hr rfl rfl rfl) ?_
  refine ok (m_iconst (q := 21) rfl rfl rfl) ?_
  refine oke (e_pfs (q := 24) rfl rfl rfl hr rfl rfl rfl rfl ⟨by decide, by decide⟩) (fun s2 r1 => ?_)
  refine ok (m_aload_n (q := 25) rfl rfl rfl rfl) ?_
  refine ok (m_gfc (q := 28) rfl rfl rfl r1 rfl rfl rfl) ?_
  refine ok (m_iconst (q := 29) rfl rfl rfl) ?_
  refine oke (e_pfs (q := 32) rfl rfl rfl r1 rfl rfl rfl rfl ⟨by decide, by decide⟩) (fun s4 r3 => ?_)
  refine ok (m_iload_n (q := 33) rfl rfl rfl rfl) ?_
  exact ok (m_reti rfl rfl) (ok_i r3 (rg_wr _))
theorem fl_X11_clear (D : aD) (t : Nat) (i : Int) (ht : Nat.ble t 49 = true) : u_X11_clear D (900 + t) i = D (900 + t) i := (up_c (fl_ne rfl ht)).trans ((up_c (fl_ne rfl ht)).trans (rfl))
abbrev P_X12_clear : Nat → Option am_E := am_fy tb_X12_clear
def v_X12_clear (D : aD) : Int := wr ((D 70 68) + (D 70 69))
def u_X12_clear (D : aD) : aD := (up (up D 70 68 0) 70 69 0)
set_option maxRecDepth 100000 in
theorem ev_X12_clear {n : Nat} {A : aA} {D : aD} : Ev (n) 1 199 [am_r (some 70)] A D (ri (v_X12_clear D)) A (u_X12_clear D) := by
  unfold v_X12_clear u_X12_clear
  refine Ev_of (c := 0) (P := P_X12_clear) (lo := [some (am_r (some 70)), none]) rfl rfl rfl (fun d hd s hr => ?_)
  refine ok (m_aload_n (q := 1) rfl rfl rfl rfl) ?_
  refine ok (m_gfs (z := 68) (q := 4) rfl rfl rfl hr rfl rfl rfl rfl rfl) ?_
  refine ok (m_aload_n (q := 5) rfl rfl rfl rfl) ?_
  refine ok (m_gfs (z := 69) (q := 8) rfl rfl rfl hr rfl rfl rfl rfl rfl) ?_
  refine ok (m_iadd (q := 9) rfl rfl rfl) ?_
  refine ok (m_istore_n (q := 10) (lo' := [some (am_r (some 70)), some (am_i (wz (wr ((D 70 68) + (D 70 69)))))]) rfl rfl rfl rfl rfl) ?_
  refine ok (m_aload_n (q := 11) rfl rfl rfl rfl) ?_
  refine ok (m_iconst (q := 12) rfl rfl rfl) ?_
  refine oke (e_pfs (q := 15) rfl rfl rfl hr rfl rfl rfl rfl ⟨by decide, by decide⟩) (fun s2 r1 => ?_)
  refine ok (m_aload_n (q := 16) rfl rfl rfl rfl) ?_
  refine ok (m_iconst (q := 17) rfl rfl rfl) ?_
  refine oke (e_pfs (q := 20) rfl rfl rfl r1 rfl rfl rfl rfl ⟨by decide, by decide⟩) (fun s4 r3 => ?_)
  refine ok (m_iload_n (q := 21) rfl rfl rfl rfl) ?_
  exact ok (m_reti rfl rfl) (ok_i r3 (rg_wr _))
theorem fl_X12_clear (D : aD) (t : Nat) (i : Int) (ht : Nat.ble t 49 = true) : u_X12_clear D (900 + t) i = D (900 + t) i := (up_c (fl_ne rfl ht)).trans ((up_c (fl_ne rfl ht)).trans (rfl))
abbrev P_X12_ask : Nat → Option am_E := am_fy tb_X12_ask
def v_X12_ask (D : aD) (a1 : Int) (a2 : Int) (a3 : Int) : Int := if v_X12_isServant D a1 = 0 then (-1) else if v_X12_isPlace D a2 = 0 then (-1) else if D 70 78 = 60 then (-1) else wr ((wr ((D 70 78) + 1)) - 1)
def u_X12_ask (D : aD) (a1 : Int) (a2 : Int) (a3 : Int) : aD := if v_X12_isServant D a1 = 0 then D else if v_X12_isPlace D a2 = 0 then D else if D 70 78 = 60 then D else (up (up (up (up (up D 130 (D 70 78) a1) 131 (D 70 78) a2) 132 (D 70 78) (D 70 0)) 133 (D 70 78) a3) 70 78 (wr ((D 70 78) + 1)))
def p_X12_ask (D : aD) (a1 : Int) (a2 : Int) (a3 : Int) : Prop := (if v_X12_isServant D a1 = 0 then True else (if v_X12_isPlace D a2 = 0 then True else (if D 70 78 = 60 then True else (0 ≤ D 70 78 ∧ D 70 78 < 60))))
set_option maxRecDepth 100000 in
theorem ev_X12_ask {n : Nat} {A : aA} {D : aD} (a1 : Int) (a2 : Int) (a3 : Int) (h1 : rg a1) (h2 : rg a2) (h3 : rg a3) (b3 : 0 ≤ a3 ∧ a3 ≤ 1) (hp : p_X12_ask D a1 a2 a3) : Ev (n) 3 205 [am_r (some 70), am_i (wz a1), am_i (wz a2), am_i (wz a3)] A D (ri (v_X12_ask D a1 a2 a3)) A (u_X12_ask D a1 a2 a3) := by
  unfold p_X12_ask at hp
  unfold v_X12_ask u_X12_ask
  refine Ev_of (c := 2) (P := P_X12_ask) (lo := [some (am_r (some 70)), some (am_i (wz a1)), some (am_i (wz a2)), some (am_i (wz a3))]) rfl rfl rfl (fun d hd s hr => ?_)
  refine ok (m_aload_n (q := 1) rfl rfl rfl rfl) ?_
  refine ok (m_iload_n (q := 2) rfl rfl rfl rfl) ?_
  refine oke (e_ci (x_cv (q := 5) rfl rfl rfl rfl rfl rfl rfl rfl rfl rfl (is_st hr rfl rfl)) (ev_X12_isServant (D := D) a1 h1) (Nat.le_trans (by decide) hd) hr) (fun s1 r2 => ?_)
  refine okf (m_ifeq (qt := 25) (qf := 8) rfl rfl (Ev_rg (ev_X12_isServant (D := D) a1 h1) hr) rfl rfl) (fun c3 => ?_) (fun c3 => ?_)
  · refine ok (m_iconst (q := 26) rfl rfl rfl) ?_
    exact ok (m_reti rfl rfl) (ok_i r2 ⟨by decide, by decide⟩)
  · replace hp := iq c3 hp
    refine ok (m_aload_n (q := 9) rfl rfl rfl rfl) ?_
    refine ok (m_iload_n (q := 10) rfl rfl rfl rfl) ?_
    refine oke (e_ci (x_cv (q := 13) rfl rfl rfl rfl rfl rfl rfl rfl rfl rfl (is_st r2 rfl rfl)) (ev_X12_isPlace (D := D) a2 h2) (Nat.le_trans (by decide) hd) r2) (fun s4 r5 => ?_)
    refine okf (m_ifeq (qt := 25) (qf := 16) rfl rfl (Ev_rg (ev_X12_isPlace (D := D) a2 h2) r2) rfl rfl) (fun c6 => ?_) (fun c6 => ?_)
    · refine ok (m_iconst (q := 26) rfl rfl rfl) ?_
      exact ok (m_reti rfl rfl) (ok_i r5 ⟨by decide, by decide⟩)
    · replace hp := iq c6 hp
      refine ok (m_aload_n (q := 17) rfl rfl rfl rfl) ?_
      refine ok (m_gfs (z := 78) (q := 20) rfl rfl rfl r5 rfl rfl rfl rfl rfl) ?_
      refine ok (m_bipush (q := 22) rfl rfl rfl) ?_
      refine okf (m_cmpne (qt := 27) (qf := 25) rfl rfl (Rp_rg r5 70 78) ⟨by decide, by decide⟩ rfl rfl) (fun c7 => ?_) (fun c7 => ?_)
      · refine ok (m_iconst (q := 26) rfl rfl rfl) ?_
        exact ok (m_reti rfl rfl) (ok_i r5 ⟨by decide, by decide⟩)
      · replace hp := iq c7 hp
        refine ok (m_aload_n (q := 28) rfl rfl rfl rfl) ?_
        refine ok (m_gfc (q := 31) rfl rfl rfl r5 rfl rfl rfl) ?_
        refine ok (m_aload_n (q := 32) rfl rfl rfl rfl) ?_
        refine ok (m_gfs (z := 78) (q := 35) rfl rfl rfl r5 rfl rfl rfl rfl rfl) ?_
        refine ok (m_iload_n (q := 36) rfl rfl rfl rfl) ?_
        have g10 := hp
        refine oke (e_ias (q := 37) rfl rfl rfl r5 rfl rfl g10 h1) (fun s9 r8 => ?_)
        refine ok (m_aload_n (q := 38) rfl rfl rfl rfl) ?_
        refine ok (m_gfc (q := 41) rfl rfl rfl r8 rfl rfl rfl) ?_
        refine ok (m_aload_n (q := 42) rfl rfl rfl rfl) ?_
        refine ok (m_gfs (z := 78) (q := 45) (w := D 70 78) rfl rfl rfl r8 rfl rfl rfl rfl rfl) ?_
        refine ok (m_iload_n (q := 46) rfl rfl rfl rfl) ?_
        refine oke (e_ias (q := 47) rfl rfl rfl r8 rfl rfl g10 h2) (fun s12 r11 => ?_)
        refine ok (m_aload_n (q := 48) rfl rfl rfl rfl) ?_
        refine ok (m_gfc (q := 51) rfl rfl rfl r11 rfl rfl rfl) ?_
        refine ok (m_aload_n (q := 52) rfl rfl rfl rfl) ?_
        refine ok (m_gfs (z := 78) (q := 55) (w := D 70 78) rfl rfl rfl r11 rfl rfl rfl rfl rfl) ?_
        refine ok (m_aload_n (q := 56) rfl rfl rfl rfl) ?_
        refine ok (m_gfs (z := 0) (q := 59) (w := D 70 0) rfl rfl rfl r11 rfl rfl rfl rfl rfl) ?_
        refine oke (e_ias (q := 60) rfl rfl rfl r11 rfl rfl g10 (show rg (D 70 0) from Rp_rg r11 70 0)) (fun s14 r13 => ?_)
        refine ok (m_aload_n (q := 61) rfl rfl rfl rfl) ?_
        refine ok (m_gfc (q := 64) rfl rfl rfl r13 rfl rfl rfl) ?_
        refine ok (m_aload_n (q := 65) rfl rfl rfl rfl) ?_
        refine ok (m_gfs (z := 78) (q := 68) (w := D 70 78) rfl rfl rfl r13 rfl rfl rfl rfl rfl) ?_
        refine ok (m_iload_n (q := 69) rfl rfl rfl rfl) ?_
        refine oke (e_bas (q := 70) rfl rfl rfl r13 rfl rfl g10 h3 (wz_b01 b3)) (fun s16 r15 => ?_)
        refine ok (m_aload_n (q := 71) rfl rfl rfl rfl) ?_
        refine ok (m_dup (q := 72) rfl rfl rfl rfl) ?_
        refine ok (m_gfs (z := 78) (q := 75) (w := D 70 78) rfl rfl rfl r15 rfl rfl rfl rfl rfl) ?_
        refine ok (m_iconst (q := 76) rfl rfl rfl) ?_
        refine ok (m_iadd (q := 77) rfl rfl rfl) ?_
        refine oke (e_pfs (q := 80) rfl rfl rfl r15 rfl rfl rfl rfl (rg_wr _)) (fun s18 r17 => ?_)
        refine ok (m_aload_n (q := 81) rfl rfl rfl rfl) ?_
        refine ok (m_gfs (z := 78) (q := 84) (w := wr ((D 70 78) + 1)) rfl rfl rfl r17 rfl rfl rfl rfl up_eq) ?_
        refine ok (m_iconst (q := 85) rfl rfl rfl) ?_
        refine ok (m_isub (q := 86) rfl rfl rfl) ?_
        exact ok (m_reti rfl rfl) (ok_i r17 (rg_wr _))
theorem fl_X12_ask (D : aD) (a1 : Int) (a2 : Int) (a3 : Int) (t : Nat) (i : Int) (ht : Nat.ble t 49 = true) : u_X12_ask D a1 a2 a3 (900 + t) i = D (900 + t) i := fl_if (rfl) (fl_if (rfl) (fl_if (rfl) ((up_c (fl_ne rfl ht)).trans ((up_c (fl_ne rfl ht)).trans ((up_c (fl_ne rfl ht)).trans ((up_c (fl_ne rfl ht)).trans ((up_c (fl_ne rfl ht)).trans (rfl))))))))
