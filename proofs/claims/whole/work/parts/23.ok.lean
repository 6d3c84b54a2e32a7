/-! Runs that come to an answer and leave a heap that shows an abstract state. -/
def OK (n : Nat) (o : Option am_R) (ρ : Option am_V → Prop) (A' : aA) (D' : aD) : Prop := ∃ r s', o = some (r, s') ∧ ρ r ∧ Rp n A' D' s'
def ri (x : Int) (r : Option am_V) : Prop := r = some (am_i (wz x)) ∧ rg x
def rl (y : Int64) (r : Option am_V) : Prop := r = some (am_l y)
def rr (y : Option Nat) (r : Option am_V) : Prop := r = some (am_r y)
def rv (r : Option am_V) : Prop := r = none
def Ev (n c m : Nat) (as : List am_V) (A : aA) (D : aD) (ρ : Option am_V → Prop) (A' : aA) (D' : aD) : Prop := ∀ d, c ≤ d → ∀ s, Rp n A D s → OK n (dn d m as s) ρ A' D'
def Lp (n c : Nat) (P : Nat → Option am_E) (pc : Nat) (lo : am_L) (st : List am_V) (A : aA) (D : aD) (ρ : Option am_V → Prop) (A' : aA) (D' : aD) : Prop := ∀ d, c ≤ d → ∀ s, Rp n A D s → OK n (mr d P pc lo st s) ρ A' D'
section Ok_
variable {n : Nat} {A A1 A' : aA} {D D1 D2 D' : aD} {s : am_S} {o o1 o2 o' : Option am_R} {ρ : Option am_V → Prop} {x x1 x2 : Int} {y y1 y2 : Option Nat} {z1 z2 : Int64}
theorem ok (e : o = o') (H : OK n o' ρ A' D') : OK n o ρ A' D' := by rw [e]; exact H
theorem oke {f : am_S → Option am_R} (e : ∃ s', o = f s' ∧ Rp n A1 D1 s') (H : ∀ s', Rp n A1 D1 s' → OK n (f s') ρ A' D') : OK n o ρ A' D' := by
  obtain ⟨s', rfl, h⟩ := e; exact H s' h
theorem okc {c : Prop} [Decidable c] (e : o = if c then o1 else o2) (H1 : c → OK n o1 ρ A' D') (H2 : ¬ c → OK n o2 ρ A' D') : OK n o ρ A' D' := by
  by_cases h : c
  · rw [e, if_pos h]; exact H1 h
  · rw [e, if_neg h]; exact H2 h
theorem okp {c : Prop} [Decidable c] (e : o = if c then o1 else o2) (H1 : c → OK n o1 (ri x1) A' D') (H2 : ¬ c → OK n o2 (ri x2) A' D') : OK n o (ri (if c then x1 else x2)) A' D' := by
  by_cases h : c
  · rw [e, if_pos h, if_pos h]; exact H1 h
  · rw [e, if_neg h, if_neg h]; exact H2 h
theorem okf {c : Prop} [Decidable c] (e : o = if c then o1 else o2) (H1 : c → OK n o1 (ri x1) A' D1) (H2 : ¬ c → OK n o2 (ri x2) A' D2) : OK n o (ri (if c then x1 else x2)) A' (if c then D1 else D2) := by
  by_cases h : c
  · rw [e, if_pos h, if_pos h, if_pos h]; exact H1 h
  · rw [e, if_neg h, if_neg h, if_neg h]; exact H2 h
theorem okvp {c : Prop} [Decidable c] (e : o = if c then o1 else o2) (H1 : c → OK n o1 rv A' D') (H2 : ¬ c → OK n o2 rv A' D') : OK n o rv A' D' := okc e H1 H2
theorem okvf {c : Prop} [Decidable c] (e : o = if c then o1 else o2) (H1 : c → OK n o1 rv A' D1) (H2 : ¬ c → OK n o2 rv A' D2) : OK n o rv A' (if c then D1 else D2) := by
  by_cases h : c
  · rw [e, if_pos h, if_pos h]; exact H1 h
  · rw [e, if_neg h, if_neg h]; exact H2 h
theorem okrp {c : Prop} [Decidable c] (e : o = if c then o1 else o2) (H1 : c → OK n o1 (rr y1) A' D') (H2 : ¬ c → OK n o2 (rr y2) A' D') : OK n o (rr (if c then y1 else y2)) A' D' := by
  by_cases h : c
  · rw [e, if_pos h, if_pos h]; exact H1 h
  · rw [e, if_neg h, if_neg h]; exact H2 h
theorem okrf {c : Prop} [Decidable c] (e : o = if c then o1 else o2) (H1 : c → OK n o1 (rr y1) A' D1) (H2 : ¬ c → OK n o2 (rr y2) A' D2) : OK n o (rr (if c then y1 else y2)) A' (if c then D1 else D2) := by
  by_cases h : c
  · rw [e, if_pos h, if_pos h, if_pos h]; exact H1 h
  · rw [e, if_neg h, if_neg h, if_neg h]; exact H2 h
theorem oklp {c : Prop} [Decidable c] (e : o = if c then o1 else o2) (H1 : c → OK n o1 (rl z1) A' D') (H2 : ¬ c → OK n o2 (rl z2) A' D') : OK n o (rl (if c then z1 else z2)) A' D' := by
  by_cases h : c
  · rw [e, if_pos h, if_pos h]; exact H1 h
  · rw [e, if_neg h, if_neg h]; exact H2 h
theorem ok_i (hr : Rp n A D s) (hg : rg x) : OK n (some (some (am_i (wz x)), s)) (ri x) A D := ⟨_, _, rfl, ⟨rfl, hg⟩, hr⟩
theorem ok_l {y : Int64} (hr : Rp n A D s) : OK n (some (some (am_l y), s)) (rl y) A D := ⟨_, _, rfl, rfl, hr⟩
theorem ok_r (hr : Rp n A D s) : OK n (some (some (am_r y), s)) (rr y) A D := ⟨_, _, rfl, rfl, hr⟩
theorem ok_v (hr : Rp n A D s) : OK n (some (none, s)) rv A D := ⟨_, _, rfl, rfl, hr⟩
/-- the branch of a condition -/
theorem ip {c : Prop} [Decidable c] {p q : Prop} (h : c) (H : if c then p else q) : p := by rwa [if_pos h] at H
theorem iq {c : Prop} [Decidable c] {p q : Prop} (h : ¬ c) (H : if c then p else q) : q := by rwa [if_neg h] at H
theorem Ev_rg {c m : Nat} {as : List am_V} (h : Ev n c m as A D (ri x) A' D') (hr : Rp n A D s) : rg x := by
  obtain ⟨_, _, _, h, _⟩ := h c (Nat.le_refl _) s hr
  exact h.2
theorem Ev.le {c c' m : Nat} {as : List am_V} (h : Ev n c m as A D ρ A' D') (hc : c ≤ c') : Ev n c' m as A D ρ A' D' := fun d hd => h d (Nat.le_trans hc hd)
theorem Lp.le {c c' pc : Nat} {P : Nat → Option am_E} {lo : am_L} {st : List am_V} (h : Lp n c P pc lo st A D ρ A' D') (hc : c ≤ c') : Lp n c' P pc lo st A D ρ A' D' := fun d hd => h d (Nat.le_trans hc hd)
/-- a method's own run -/
theorem Ev_of {c m N : Nat} {P : Nat → Option am_E} {as : List am_V} {lo : am_L} (h : am_pg m = some (P, N)) (hl : am_ent as N = lo) (hn : Nat.ble (am_lo as).length N = true) (H : Lp n c P 0 lo [] A D ρ A' D') : Ev n (c + 1) m as A D ρ A' D' := by
  intro d hd s hr
  obtain ⟨d, rfl⟩ : ∃ e, d = e + 1 := ⟨d - 1, by omega⟩
  rw [dn_s h hl hn]
  exact H d (by omega) s hr
end Ok_
section Sx_
variable {n : Nat} {A A' : aA} {D D' : aD} {d : Nat} {P : Nat → Option am_E} {pc q : Nat} {lo : am_L} {st rest : List am_V} {s : am_S} {ks : List Nat} {ln : Nat}
theorem x_gfi {j c k : Nat} {r : Option Nat} {v : Int32} (h : P pc = some (ks, .getfield j, ln, (c, k, 0))) (hk : am_kill ks lo = lo) (hq : pc + 3 = q) (hv : am_gi s.1 r c k = some v) : mr d P pc lo (am_r r :: st) s = mr d P q lo (am_i v :: st) s := by
  subst hq; rw [mx h hk]
  simp [am_st, am_1r, hv]
theorem x_gfr {j c k : Nat} {r v : Option Nat} (h : P pc = some (ks, .getfield j, ln, (c, k, 1))) (hk : am_kill ks lo = lo) (hq : pc + 3 = q) (hv : am_gr s.1 r c k = some v) : mr d P pc lo (am_r r :: st) s = mr d P q lo (am_r v :: st) s := by
  subst hq; rw [mx h hk]
  simp [am_st, am_1r, hv]
/-- fields of fixed places -/
theorem m_gfs {w : Int} {j c k a : Nat} {fs : List aF} {z : Int} (h : P pc = some (ks, .getfield j, ln, (c, k, 0))) (hk : am_kill ks lo = lo) (hq : pc + 3 = q) (hr : Rp n A D s) (hs : shp a = some (.inl (c, fs))) (hv : Nat.ble (lev a) n = true) (hf : fs[k]? = some none) (hz : (0 : Int) + ((k : Nat) : Int) = z) (hw : D a z = w) : mr d P pc lo (am_r (some a) :: st) s = mr d P q lo (am_i (wz w) :: st) s := by
  subst hw
  subst hz
  exact x_gfi h hk hq (gi_of (Rp_st hr hs hv) (fvs_i hf))
theorem m_gfc {j c k a : Nat} {fs : List aF} {r : Option Nat} (h : P pc = some (ks, .getfield j, ln, (c, k, 1))) (hk : am_kill ks lo = lo) (hq : pc + 3 = q) (hr : Rp n A D s) (hs : shp a = some (.inl (c, fs))) (hv : Nat.ble (lev a) n = true) (hf : fs[k]? = some (some (.inl r))) : mr d P pc lo (am_r (some a) :: st) s = mr d P q lo (am_r r :: st) s :=
  x_gfr h hk hq (gr_of (Rp_st hr hs hv) (fvs_c hf))
theorem m_gfy {j c k a t : Nat} {i : Int} {fs : List aF} (h : P pc = some (ks, .getfield j, ln, (c, k, 1))) (hk : am_kill ks lo = lo) (hq : pc + 3 = q) (hr : Rp n A D s) (hs : shp a = some (.inl (c, fs))) (hv : Nat.ble (lev a) n = true) (hf : fs[k]? = some (some (.inr (t, i)))) : mr d P pc lo (am_r (some a) :: st) s = mr d P q lo (am_r (some (A t i)) :: st) s :=
  x_gfr h hk hq (gr_of (Rp_st hr hs hv) (fvs_t hf))
/-- fields of things -/
theorem Rp_ob {t cl : Nat} {i : Int} {fs : List (Option (Nat × Nat))} (hr : Rp n A D s) (hq : tfs t = some (cl, fs)) (hf : D (900 + t) i = 1) : s.1[A t i]? = some (.inl (cl, tvs A D i (1000 + 100 * t) fs)) := by
  have ht := tfs_le hq
  have h := (Rp_ty hr (t := t) (i := i) (by omega) (by rw [lev_hi (by omega) (by omega) (by omega)]; rfl) hf).1
  unfold mkT at h
  rw [hq] at h
  exact h
theorem m_gft {w : Int} {j c k t cc : Nat} {i : Int} {fs : List (Option (Nat × Nat))} (h : P pc = some (ks, .getfield j, ln, (c, k, 0))) (hk : am_kill ks lo = lo) (hq : pc + 3 = q) (hr : Rp n A D s) (hs : tfs t = some (c, fs)) (hf : D (900 + t) i = 1) (hi : fs[k]? = some none) (hc : 1000 + 100 * t + k = cc) (hw : D cc i = w) : mr d P pc lo (am_r (some (A t i)) :: st) s = mr d P q lo (am_i (wz w) :: st) s := by
  subst hw
  subst hc
  exact x_gfi h hk hq (gi_of (Rp_ob hr hs hf) (tvs_i hi))
theorem m_gfx {j c k t cc : Nat} {i : Int} {m : Nat × Nat} {r : Option Nat} {fs : List (Option (Nat × Nat))} (h : P pc = some (ks, .getfield j, ln, (c, k, 1))) (hk : am_kill ks lo = lo) (hq : pc + 3 = q) (hr : Rp n A D s) (hs : tfs t = some (c, fs)) (hf : D (900 + t) i = 1) (hi : fs[k]? = some (some m)) (hc : 1000 + 100 * t + k = cc) (he : tvr A i (D cc i) m = r) : mr d P pc lo (am_r (some (A t i)) :: st) s = mr d P q lo (am_r r :: st) s := by
  subst hc; subst he
  exact x_gfr h hk hq (gr_of (Rp_ob hr hs hf) (tvs_r hi))
/-- rows -/
theorem x_ial {i : Int} {r : Option Nat} {v : Int32} {x : am_X} (h : P pc = some (ks, .iaload, ln, x)) (hk : am_kill ks lo = lo) (hq : pc + 1 = q) (hv : am_ial s.1 r 0 (wz i) = some v) : mr d P pc lo (am_i (wz i) :: am_r r :: st) s = mr d P q lo (am_i v :: st) s := by
  subst hq; rw [mx h hk]
  show (am_ial s.1 r 0 (wz i)).bind _ = _
  rw [hv]; rfl
theorem x_bal {i : Int} {t : Nat} {y : Nat × Int} {r : Option Nat} {v : Int32} (h : P pc = some (ks, .baload, ln, (t, y))) (hk : am_kill ks lo = lo) (hq : pc + 1 = q) (hv : am_ial s.1 r t (wz i) = some v) : mr d P pc lo (am_i (wz i) :: am_r r :: st) s = mr d P q lo (am_i v :: st) s := by
  subst hq; rw [mx h hk]
  show (am_ial s.1 r t (wz i)).bind _ = _
  rw [hv]; rfl
theorem shp_n {a t m : Nat} (h : shp a = some (.inr (t, m))) : m ≤ 65536 := by
  have key : ∀ z ∈ shl, ∀ t m, z = some (.inr (t, m)) → m ≤ 65536 := by
    intro z hz t m e
    subst e
    revert hz
    unfold shl
    simp only [List.mem_cons, List.not_mem_nil, or_false, Option.some.injEq, reduceCtorEq, Sum.inr.injEq, Prod.mk.injEq, false_or]
    omega
  unfold shp at h
  cases hz : shl[a]? with
  | none => rw [hz] at h; cases h
  | some z => rw [hz] at h; exact key z (List.mem_of_getElem? hz) t m h
theorem Rp_ial {a t m : Nat} {i : Int} (hr : Rp n A D s) (hs : shp a = some (.inr (t, m))) (hv : Nat.ble (lev a) n = true) (h0 : 0 ≤ i) (h1 : i < m) : am_ial s.1 (some a) t (wz i) = some (wz (D a i)) := by
  have h := Rp_st hr hs hv
  rw [ial_of h h0 h1 (shp_n hs)]
  show some (wz (D a ((i.toNat : Nat) : Int))) = _
  rw [Int.toNat_of_nonneg h0]
theorem m_ials {w : Int} {a m : Nat} {i : Int} {x : am_X} (h : P pc = some (ks, .iaload, ln, x)) (hk : am_kill ks lo = lo) (hq : pc + 1 = q) (hr : Rp n A D s) (hs : shp a = some (.inr (0, m))) (hv : Nat.ble (lev a) n = true) (hb : 0 ≤ i ∧ i < m) (hw : D a i = w) : mr d P pc lo (am_i (wz i) :: am_r (some a) :: st) s = mr d P q lo (am_i (wz w) :: st) s := by
  subst hw
  exact
  x_ial h hk hq (Rp_ial hr hs hv hb.1 hb.2)
theorem m_bals {w : Int} {a t m : Nat} {i : Int} {y : Nat × Int} (h : P pc = some (ks, .baload, ln, (t, y))) (hk : am_kill ks lo = lo) (hq : pc + 1 = q) (hr : Rp n A D s) (hs : shp a = some (.inr (t, m))) (hv : Nat.ble (lev a) n = true) (hb : 0 ≤ i ∧ i < m) (hw : D a i = w) : mr d P pc lo (am_i (wz i) :: am_r (some a) :: st) s = mr d P q lo (am_i (wz w) :: st) s := by
  subst hw
  exact
  x_bal h hk hq (Rp_ial hr hs hv hb.1 hb.2)
theorem Rp_ar {t : Nat} {i : Int} (hr : Rp n A D s) (h20 : 20 ≤ t) (h25 : t ≤ 25) (hv : Nat.ble (lev (1001 + 100 * t)) n = true) (hf : D (900 + t) i = 1) : s.1[A t i]? = some (.inr (.inl (0, (D (1000 + 100 * t) i).toNat, fun k => if k < 1024 then wz (D (1001 + 100 * t) (1024 * i + k)) else 0))) := by
  have hq : tfs t = none := by
    cases hq : tfs t with
    | none => rfl
    | some q => have := tfs_le hq; omega
  have h := (Rp_ty hr (t := t) (i := i) (by omega) hv hf).1
  unfold mkT at h
  rw [hq] at h
  simp only at h
  rw [if_neg (by omega), if_neg (by omega)] at h
  exact h
theorem Rp_alen {t : Nat} {i : Int} (hr : Rp n A D s) (h20 : 20 ≤ t) (h25 : t ≤ 25) (hf : D (900 + t) i = 1) : 0 ≤ D (1000 + 100 * t) i ∧ D (1000 + 100 * t) i ≤ 1024 := (Rp_cl hr).2.2.2.2.2.2.2.2.2.2.1 t i h20 h25 hf
theorem m_ialt {w : Int} {t c0 c1 : Nat} {i k : Int} {x : am_X} (h : P pc = some (ks, .iaload, ln, x)) (hk : am_kill ks lo = lo) (hq : pc + 1 = q) (hr : Rp n A D s) (h20 : (Nat.ble 20 t && Nat.ble t 25) = true) (hf : D (900 + t) i = 1) (e0 : 1000 + 100 * t = c0) (e1 : 1001 + 100 * t = c1) (hv : Nat.ble (lev c1) n = true) (hb : 0 ≤ k ∧ k < D c0 i) (hw : D c1 (1024 * i + k) = w) : mr d P pc lo (am_i (wz k) :: am_r (some (A t i)) :: st) s = mr d P q lo (am_i (wz w) :: st) s := by
  subst hw
  subst e0; subst e1
  rw [Bool.and_eq_true] at h20
  have h1 := Nat.le_of_ble_eq_true h20.1
  have h2 := Nat.le_of_ble_eq_true h20.2
  have hl := Rp_alen hr h1 h2 hf
  refine x_ial h hk hq ?_
  rw [ial_of (Rp_ar hr h1 h2 hv hf) hb.1 (by omega) (by omega)]
  rw [if_pos (by omega), Int.toNat_of_nonneg hb.1]
theorem x_len {r : Option Nat} {m : Nat} {z : Int} {x : am_X} (h : P pc = some (ks, .arraylength, ln, x)) (hk : am_kill ks lo = lo) (hq : pc + 1 = q) (hv : am_len s.1 r = some m) (hz : ((m : Nat) : Int) = z) : mr d P pc lo (am_r r :: st) s = mr d P q lo (am_i (wz z) :: st) s := by
  subst hq; subst hz; rw [mx h hk]
  show (am_len s.1 r).bind _ = _
  rw [hv, ← wz_nat]; rfl
theorem m_lens {a t m : Nat} {z : Int} {x : am_X} (h : P pc = some (ks, .arraylength, ln, x)) (hk : am_kill ks lo = lo) (hq : pc + 1 = q) (hr : Rp n A D s) (hs : shp a = some (.inr (t, m))) (hv : Nat.ble (lev a) n = true) (hz : ((m : Nat) : Int) = z) : mr d P pc lo (am_r (some a) :: st) s = mr d P q lo (am_i (wz z) :: st) s :=
  x_len h hk hq (len_of (Rp_st hr hs hv)) hz
theorem m_lent {w : Int} {t c0 : Nat} {i : Int} {x : am_X} (h : P pc = some (ks, .arraylength, ln, x)) (hk : am_kill ks lo = lo) (hq : pc + 1 = q) (hr : Rp n A D s) (h20 : (Nat.ble 20 t && Nat.ble t 25) = true) (hf : D (900 + t) i = 1) (e0 : 1000 + 100 * t = c0) (hv : Nat.ble (lev (1001 + 100 * t)) n = true) (hw : D c0 i = w) : mr d P pc lo (am_r (some (A t i)) :: st) s = mr d P q lo (am_i (wz w) :: st) s := by
  subst hw
  subst e0
  rw [Bool.and_eq_true] at h20
  have h1 := Nat.le_of_ble_eq_true h20.1
  have h2 := Nat.le_of_ble_eq_true h20.2
  have hl := Rp_alen hr h1 h2 hf
  exact x_len h hk hq (len_of (Rp_ar hr h1 h2 hv hf)) (Int.toNat_of_nonneg hl.1)
/-- writes -/
theorem x_pf0 {j c k : Nat} {r : Option Nat} {v : Int32} (h : P pc = some (ks, .putfield j, ln, (c, k, 0))) (hk : am_kill ks lo = lo) : mr d P pc lo (am_i v :: am_r r :: st) s = (am_put s r c k (am_i v)).bind fun s => mr d P (pc + 3) lo st s := by
  rw [mx h hk]
  simp [am_st, am_ri]
theorem e_pfs {j c k a : Nat} {fs : List aF} {z v : Int} (h : P pc = some (ks, .putfield j, ln, (c, k, 0))) (hk : am_kill ks lo = lo) (hq : pc + 3 = q) (hr : Rp n A D s) (hs : shp a = some (.inl (c, fs))) (hv : Nat.ble (lev a) n = true) (hf : fs[k]? = some none) (hz : ((k : Nat) : Int) = z) (hg : rg v) : ∃ s', mr d P pc lo (am_i (wz v) :: am_r (some a) :: st) s = mr d P q lo st s' ∧ Rp n A (up D a z v) s' := by
  subst hz; subst hq
  have hc := Rp_st hr hs hv
  have hl : k < fs.length := (List.getElem?_eq_some_iff.mp hf).1
  refine ⟨_, ?_, Rp_ws hr hs hv hg⟩
  rw [x_pf0 h hk, put_of hc (shp_ge hs).1 (by rw [fvs_len]; exact hl)]
  show mr d P (pc + 3) lo st _ = _
  congr 2
  show s.1.set a (.inl (c, (fvs A (D a) 0 fs).set k (am_i (wz v)))) = s.1.set a (.inl (c, fvs A (up D a k v a) 0 fs))
  rw [fvs_set (g' := up D a k v a) hf (by rw [Int.zero_add]; exact up_eq) (fun j hj => up_i (by omega))]
theorem e_pft {j c k t cc : Nat} {i v : Int} {fs : List (Option (Nat × Nat))} (h : P pc = some (ks, .putfield j, ln, (c, k, 0))) (hk : am_kill ks lo = lo) (hq : pc + 3 = q) (hr : Rp n A D s) (h10 : Nat.ble 10 t = true) (hs : tfs t = some (c, fs)) (hf : D (900 + t) i = 1) (hi : fs[k]? = some none) (hc : 1000 + 100 * t + k = cc) (hg : rg v) : ∃ s', mr d P pc lo (am_i (wz v) :: am_r (some (A t i)) :: st) s = mr d P q lo st s' ∧ Rp n A (up D cc i v) s' := by
  subst hc; subst hq
  have hl : k < fs.length := (List.getElem?_eq_some_iff.mp hi).1
  refine ⟨_, ?_, Rp_wf hr (Nat.le_of_ble_eq_true h10) hf hs hi hg⟩
  rw [x_pf0 h hk, put_of (Rp_ob hr hs hf) (Rp_ge hr (by have := tfs_le hs; omega) hf) (by rw [tvs_len]; exact hl)]
  show mr d P (pc + 3) lo st _ = _
  congr 2
  rw [tvs_set hi]
  unfold mkT
  rw [hs]
theorem pfz {j c k : Nat} {r : Option Nat} {v : Int} (h : P pc = some (ks, .putfield j, ln, (c, k, 2))) (hk : am_kill ks lo = lo) (hb : 0 ≤ v ∧ v ≤ 1) : mr d P pc lo (am_i (wz v) :: am_r r :: st) s = (am_put s r c k (am_i (wz v))).bind fun s => mr d P (pc + 3) lo st s := by
  rw [mx h hk]
  simp [am_st, am_ri, wz_b01 hb]
theorem e_pfzt {j c k t cc : Nat} {i v : Int} {fs : List (Option (Nat × Nat))} (h : P pc = some (ks, .putfield j, ln, (c, k, 2))) (hk : am_kill ks lo = lo) (hq : pc + 3 = q) (hr : Rp n A D s) (h10 : Nat.ble 10 t = true) (hs : tfs t = some (c, fs)) (hf : D (900 + t) i = 1) (hi : fs[k]? = some none) (hc : 1000 + 100 * t + k = cc) (hb : 0 ≤ v ∧ v ≤ 1) : ∃ s', mr d P pc lo (am_i (wz v) :: am_r (some (A t i)) :: st) s = mr d P q lo st s' ∧ Rp n A (up D cc i v) s' := by
  subst hc; subst hq
  have hl : k < fs.length := (List.getElem?_eq_some_iff.mp hi).1
  refine ⟨_, ?_, Rp_wf hr (Nat.le_of_ble_eq_true h10) hf hs hi (by unfold rg; omega)⟩
  rw [pfz h hk hb, put_of (Rp_ob hr hs hf) (Rp_ge hr (by have := tfs_le hs; omega) hf) (by rw [tvs_len]; exact hl)]
  show mr d P (pc + 3) lo st _ = _
  congr 2
  rw [tvs_set hi]
  unfold mkT
  rw [hs]
theorem Rp_ias {a t m : Nat} {i v : Int} (hr : Rp n A D s) (hs : shp a = some (.inr (t, m))) (hv : Nat.ble (lev a) n = true) (hb : 0 ≤ i ∧ i < m) (hg : rg v) (hn : am_nar t (wz v) = wz v) : ∃ s', am_ias s (some a) t (wz i) (wz v) = some s' ∧ Rp n A (up D a i v) s' := by
  refine ⟨_, ?_, Rp_ws (k := i) hr hs hv hg⟩
  rw [ias_of (Rp_st hr hs hv) (shp_ge hs).1 hb.1 hb.2 (shp_n hs), hn]
  show some (s.1.set a (.inr (.inl (t, m, upd (fun j => wz (D a j)) i.toNat (wz v)))), s.2) = some (s.1.set a (.inr (.inl (t, m, fun j => wz (up D a i v a j)))), s.2)
  rw [upd_wz (g' := up D a i v a) hb.1 up_eq (fun j hj => up_i hj)]
theorem e_ias {a m : Nat} {i v : Int} {x : am_X} (h : P pc = some (ks, .iastore, ln, x)) (hk : am_kill ks lo = lo) (hq : pc + 1 = q) (hr : Rp n A D s) (hs : shp a = some (.inr (0, m))) (hv : Nat.ble (lev a) n = true) (hb : 0 ≤ i ∧ i < m) (hg : rg v) : ∃ s', mr d P pc lo (am_i (wz v) :: am_i (wz i) :: am_r (some a) :: st) s = mr d P q lo st s' ∧ Rp n A (up D a i v) s' := by
  obtain ⟨s', e, h'⟩ := Rp_ias hr hs hv hb hg rfl
  subst hq
  refine ⟨s', ?_, h'⟩
  rw [mx h hk]
  show (am_ias s (some a) 0 (wz i) (wz v)).bind _ = _
  rw [e]; rfl
theorem e_bas {a t m : Nat} {i v : Int} {y : Nat × Int} (h : P pc = some (ks, .bastore, ln, (t, y))) (hk : am_kill ks lo = lo) (hq : pc + 1 = q) (hr : Rp n A D s) (hs : shp a = some (.inr (t, m))) (hv : Nat.ble (lev a) n = true) (hb : 0 ≤ i ∧ i < m) (hg : rg v) (hn : am_nar t (wz v) = wz v) : ∃ s', mr d P pc lo (am_i (wz v) :: am_i (wz i) :: am_r (some a) :: st) s = mr d P q lo st s' ∧ Rp n A (up D a i v) s' := by
  obtain ⟨s', e, h'⟩ := Rp_ias hr hs hv hb hg hn
  subst hq
  refine ⟨s', ?_, h'⟩
  rw [mx h hk]
  show (am_ias s (some a) t (wz i) (wz v)).bind _ = _
  rw [e]; rfl
theorem e_iat {t c0 c1 : Nat} {i k v : Int} {x : am_X} (h : P pc = some (ks, .iastore, ln, x)) (hk : am_kill ks lo = lo) (hq : pc + 1 = q) (hr : Rp n A D s) (h20 : (Nat.ble 20 t && Nat.ble t 25) = true) (hf : D (900 + t) i = 1) (e0 : 1000 + 100 * t = c0) (e1 : 1001 + 100 * t = c1) (hv : Nat.ble (lev c1) n = true) (hb : 0 ≤ k ∧ k < D c0 i) (hg : rg v) : ∃ s', mr d P pc lo (am_i (wz v) :: am_i (wz k) :: am_r (some (A t i)) :: st) s = mr d P q lo st s' ∧ Rp n A (up D c1 (1024 * i + k) v) s' := by
  subst e0; subst e1; subst hq
  rw [Bool.and_eq_true] at h20
  have h1 := Nat.le_of_ble_eq_true h20.1
  have h2 := Nat.le_of_ble_eq_true h20.2
  have hl := Rp_alen hr h1 h2 hf
  refine ⟨_, ?_, Rp_wa hr h1 h2 hv hf hb.1 (by omega) hg⟩
  rw [mx h hk]
  show (am_ias s (some (A t i)) 0 (wz k) (wz v)).bind _ = _
  rw [ias_of (Rp_ar hr h1 h2 hv hf) (Rp_ge hr (by omega) hf) hb.1 (by omega) (by omega)]
  show mr d P (pc + 1) lo st _ = _
  congr 2
  have hq : tfs t = none := by
    cases hq : tfs t with
    | none => rfl
    | some q => have := tfs_le hq; omega
  unfold mkT
  rw [hq]
  simp only
  rw [if_neg (by omega), if_neg (by omega), up_c (c' := 1000 + 100 * t) (by omega)]
  congr 5
  funext j
  unfold upd
  by_cases e : j = k.toNat
  · rw [if_pos e, if_pos (by omega), show (1024 * i + (j : Int)) = 1024 * i + k by omega, up_eq]; rfl
  · rw [if_neg e]
    by_cases ej : j < 1024
    · simp only [if_pos ej]; rw [up_i (by omega)]
    · simp only [if_neg ej]
/-- null -/
theorem ifn_s {t : Nat} {i : Int} {ρ : Type} {x y : Option ρ} (hr : Rp n A D s) (ht : Nat.ble t 49 = true) (hf : D (900 + t) i = 1) : am_ifn (some (A t i)) x y = y := by
  unfold am_ifn am_nw
  have := Rp_ge hr (by have := Nat.le_of_ble_eq_true ht; omega) hf
  simp [Nat.ble_eq, this]
def nr (A : aA) (t : Nat) (e : Int) : Option Nat := if e < 0 then none else some (A t e)
theorem ifn_n {t : Nat} {i : Int} {ρ : Type} {x y : Option ρ} (hr : Rp n A D s) (ht : Nat.ble t 49 = true) (hf : 0 ≤ i → D (900 + t) i = 1) : am_ifn (nr A t i) x y = if i < 0 then x else y := by
  unfold nr
  by_cases h : i < 0
  · rw [if_pos h, if_pos h]; rfl
  · rw [if_neg h, if_neg h]; exact ifn_s hr ht (hf (by omega))
theorem ifn_o {t : Nat} {i : Int} {b : Int} {ρ : Type} {x y : Option ρ} (hr : Rp n A D s) (ht : Nat.ble t 49 = true) (hf : b ≠ 0 → D (900 + t) i = 1) : am_ifn (if b = 0 then none else some (A t i)) x y = if b = 0 then x else y := by
  by_cases h : b = 0
  · rw [if_pos h, if_pos h]; rfl
  · rw [if_neg h, if_neg h]; exact ifn_s hr ht (hf h)
theorem isN_ty {t cl : Nat} {i : Int} {fs : List (Option (Nat × Nat))} (hr : Rp n A D s) (hs : tfs t = some (cl, fs)) (hf : D (900 + t) i = 1) : am_isN s.1 (some (A t i)) cl = true := by
  have h := Rp_ob hr hs hf
  have hc : cl ≠ 60 := by
    intro e; subst e
    unfold tfs at hs
    split at hs <;> cases hs
  show am_isC s.1 (some (A t i)) cl = true
  unfold am_isC
  split
  · exact absurd rfl hc
  · exact is_of h
theorem m_cast {j c : Nat} {y : Nat × Int} {r : Option Nat} (h : P pc = some (ks, .checkcast j, ln, (c, y))) (hk : am_kill ks lo = lo) (hq : pc + 3 = q) (hi : am_isN s.1 r c = true) : mr d P pc lo (am_r r :: st) s = mr d P q lo (am_r r :: st) s := by
  subst hq; rw [mx h hk]
  exact if_pos hi
theorem is_ty {t cl : Nat} {i : Int} {fs : List (Option (Nat × Nat))} (hr : Rp n A D s) (hs : tfs t = some (cl, fs)) (hf : D (900 + t) i = 1) : am_is s.1 (some (A t i)) cl = true := is_of (Rp_ob hr hs hf)
theorem is_st {a cl : Nat} {fs : List aF} (hr : Rp n A D s) (hs : shp a = some (.inl (cl, fs))) (hv : Nat.ble (lev a) n = true) : am_is s.1 (some a) cl = true := is_of (Rp_st hr hs hv)
/-- calls -/
theorem x_pop {nn : Nat} {as : List am_V} {ρ : Type} {k : List am_V → List am_V → Option ρ} (hn : Nat.ble nn st.length = true) (ha : (st.take nn).reverse = as) (hr : st.drop nn = rest) (hs : Nat.ble ((rest.map am_cat).sum) 8 = true) : am_pop nn st k = k as rest := by
  subst ha; subst hr
  unfold am_pop
  rw [if_pos ⟨Nat.le_of_ble_eq_true hn, Nat.le_of_ble_eq_true hs⟩]
theorem x_cs {m nn j rk : Nat} {z : Int} {as : List am_V} (h : P pc = some (ks, .invokestatic j, ln, (m, nn, z))) (hk : am_kill ks lo = lo) (hq : pc + 3 = q) (hz : z.toNat % 16 = 0) (hrk : z.toNat / 4096 = rk) (hn : Nat.ble nn st.length = true) (ha : (st.take nn).reverse = as) (hr : st.drop nn = rest) (hs : Nat.ble ((rest.map am_cat).sum) 8 = true) : mr d P pc lo st s = am_ans rk (dn d m as s) (fun st s => mr d P q lo st s) rest := by
  subst hq; subst hrk; rw [mx h hk]
  show am_cal (dn d) (mr d P (pc + 3)) lo st s (m, nn, z) = _
  unfold am_cal
  simp only [hz]
  exact x_pop hn ha hr hs
theorem x_cv {m nn j rk cl : Nat} {z : Int} {r : Option Nat} {as : List am_V} (h : P pc = some (ks, .invokevirtual j, ln, (m, nn, z))) (hk : am_kill ks lo = lo) (hq : pc + 3 = q) (hz : z.toNat % 16 = 1) (hrk : z.toNat / 4096 = rk) (hcl : z.toNat / 16 % 256 = cl) (hn : Nat.ble nn st.length = true) (ha : (st.take nn).reverse = am_r r :: as) (hr : st.drop nn = rest) (hs : Nat.ble ((rest.map am_cat).sum) 8 = true) (hi : am_is s.1 r cl = true) : mr d P pc lo st s = am_ans rk (dn d m (am_r r :: as) s) (fun st s => mr d P q lo st s) rest := by
  subst hq; subst hrk; subst hcl; rw [mx h hk]
  show am_cal (dn d) (mr d P (pc + 3)) lo st s (m, nn, z) = _
  unfold am_cal
  simp only [hz]
  rw [x_pop hn ha hr hs]
  exact if_pos hi
theorem x_cp {m nn j rk cl : Nat} {z : Int} {r : Option Nat} {as : List am_V} (h : P pc = some (ks, .invokespecial j, ln, (m, nn, z))) (hk : am_kill ks lo = lo) (hq : pc + 3 = q) (hz : z.toNat % 16 = 2) (hrk : z.toNat / 4096 = rk) (hcl : z.toNat / 16 % 256 = cl) (hn : Nat.ble nn st.length = true) (ha : (st.take nn).reverse = am_r r :: as) (hr : st.drop nn = rest) (hs : Nat.ble ((rest.map am_cat).sum) 8 = true) (hi : am_is s.1 r cl = true) : mr d P pc lo st s = am_ans rk (dn d m (am_r r :: as) s) (fun st s => mr d P q lo st s) rest := by
  subst hq; subst hrk; subst hcl; rw [mx h hk]
  show am_cal (dn d) (mr d P (pc + 3)) lo st s (m, nn, z) = _
  unfold am_cal
  simp only [hz]
  rw [x_pop hn ha hr hs]
  exact if_pos hi
theorem e_ci {c m : Nat} {as : List am_V} {x : Int} {o : Option am_R} (hx : o = am_ans 1 (dn d m as s) (fun st s => mr d P q lo st s) rest) (hE : Ev n c m as A D (ri x) A' D') (hc : c ≤ d) (hr : Rp n A D s) : ∃ s', o = mr d P q lo (am_i (wz x) :: rest) s' ∧ Rp n A' D' s' := by
  obtain ⟨r, s', e, ⟨rfl, -⟩, h⟩ := hE d hc s hr
  refine ⟨s', ?_, h⟩
  rw [hx, e]; rfl
theorem e_cl {c m : Nat} {as : List am_V} {y : Int64} {o : Option am_R} (hx : o = am_ans 2 (dn d m as s) (fun st s => mr d P q lo st s) rest) (hE : Ev n c m as A D (rl y) A' D') (hc : c ≤ d) (hr : Rp n A D s) : ∃ s', o = mr d P q lo (am_l y :: rest) s' ∧ Rp n A' D' s' := by
  obtain ⟨r, s', e, rfl, h⟩ := hE d hc s hr
  refine ⟨s', ?_, h⟩
  rw [hx, e]; rfl
theorem e_cr {c m : Nat} {as : List am_V} {y : Option Nat} {o : Option am_R} (hx : o = am_ans 3 (dn d m as s) (fun st s => mr d P q lo st s) rest) (hE : Ev n c m as A D (rr y) A' D') (hc : c ≤ d) (hr : Rp n A D s) : ∃ s', o = mr d P q lo (am_r y :: rest) s' ∧ Rp n A' D' s' := by
  obtain ⟨r, s', e, rfl, h⟩ := hE d hc s hr
  refine ⟨s', ?_, h⟩
  rw [hx, e]; rfl
theorem e_cvd {c m : Nat} {as : List am_V} {o : Option am_R} (hx : o = am_ans 0 (dn d m as s) (fun st s => mr d P q lo st s) rest) (hE : Ev n c m as A D rv A' D') (hc : c ≤ d) (hr : Rp n A D s) : ∃ s', o = mr d P q lo rest s' ∧ Rp n A' D' s' := by
  obtain ⟨r, s', e, rfl, h⟩ := hE d hc s hr
  refine ⟨s', ?_, h⟩
  rw [hx, e]; rfl
theorem ok_iq {x e : Int} {De : aD} (hr : Rp n A De s) (hg : rg e) (q : x = e ∧ D' = De) : OK n (some (some (am_i (wz e)), s)) (ri x) A D' := by
  obtain ⟨rfl, rfl⟩ := q; exact ok_i hr hg
theorem ok_rq {x e : Option Nat} {De : aD} (hr : Rp n A De s) (q : x = e ∧ D' = De) : OK n (some (some (am_r e), s)) (rr x) A D' := by
  obtain ⟨rfl, rfl⟩ := q; exact ok_r hr
theorem ok_lq {x e : Int64} {De : aD} (hr : Rp n A De s) (q : x = e ∧ D' = De) : OK n (some (some (am_l e), s)) (rl x) A D' := by
  obtain ⟨rfl, rfl⟩ := q; exact ok_l hr
theorem ok_vq {De : aD} (hr : Rp n A De s) (q : D' = De) : OK n (some (none, s)) rv A D' := by
  subst q; exact ok_v hr
theorem nr_s {t : Nat} {e : Int} (h : 0 ≤ e) : nr A t e = some (A t e) := if_neg (by omega)
end Sx_
