/-! What is read of a heap that shows an abstract state, and what a write makes of it. -/
section Rd
variable {n : Nat} {A : aA} {D : aD} {s : am_S}
theorem Rp_rg (h : Rp n A D s) (c : Nat) (i : Int) : rg (D c i) := h.1 c i
theorem lev_hi {c : Nat} (h : 900 ≤ c) (h1 : c ≠ 3401) (h2 : c ≠ 3501) : lev c = 0 := by
  unfold lev; split <;> omega
theorem mxx_hi {F : aD} {c : Nat} (h : 900 ≤ c) (h1 : c ≠ 3401) (h2 : c ≠ 3501) : mxx n D F c = D c := mxx_vf (by rw [lev_hi h h1 h2]; rfl)
theorem clu_hi {c : Nat} (h : clu c) : 900 ≤ c ∧ c ≠ 3401 ∧ c ≠ 3501 := by unfold clu at h; omega
theorem Rp_cl (h : Rp n A D s) : Cl A D := by
  obtain ⟨-, F, h⟩ := h
  exact Cl_cg (fun c q => (mxx_hi (clu_hi q).1 (clu_hi q).2.1 (clu_hi q).2.2).symm) h.2.2.2.2.2
theorem Rp_st {a : Nat} {sh : aSh} (h : Rp n A D s) (hs : shp a = some sh) (hv : Nat.ble (lev a) n = true) : s.1[a]? = some (mkS A (D a) sh) := by
  obtain ⟨-, F, h⟩ := h
  rw [h.2.1 a sh hs, mxx_vf hv]
theorem mkT_mxx {F : aD} {t : Nat} {i : Int} (ht : t < 50) (hv : Nat.ble (lev (1001 + 100 * t)) n = true) : mkT A (mxx n D F) t i = mkT A D t i := by
  refine mkT_cg (fun h c h1 h2 => ?_) (fun h => ?_) (fun h => ?_) (fun h k => ?_) (fun h h2 k hk => ?_)
  · cases hq : tfs t with
    | none => exact absurd hq h
    | some q => have := tfs_le hq; rw [mxx_hi (by omega) (by omega) (by omega)]
  · rw [mxx_hi (by omega) (by omega) (by omega)]
  · rw [mxx_hi (by omega) (by omega) (by omega)]
  · rw [mxx_hi (c := 1200) (by omega) (by omega) (by omega), mxx_hi (c := 1201) (by omega) (by omega) (by omega)]; exact ⟨rfl, rfl⟩
  · rw [mxx_vf hv]
theorem Rp_ty {t : Nat} {i : Int} (h : Rp n A D s) (ht : t < 50) (hv : Nat.ble (lev (1001 + 100 * t)) n = true) (hf : D (900 + t) i = 1) : s.1[A t i]? = some (mkT A D t i) ∧ 32 ≤ A t i := by
  obtain ⟨-, F, h⟩ := h
  have q := h.2.2.1 t i ht (by rw [mxx_hi (by omega) (by omega) (by omega)]; exact hf)
  rw [mkT_mxx ht hv] at q
  exact ⟨q.1, q.2.1⟩
theorem Rp_ge {t : Nat} {i : Int} (h : Rp n A D s) (ht : t < 50) (hf : D (900 + t) i = 1) : 32 ≤ A t i := by
  obtain ⟨-, F, h⟩ := h
  exact (h.2.2.1 t i ht (by rw [mxx_hi (by omega) (by omega) (by omega)]; exact hf)).2.1
theorem fvs_i {A : aA} {g : Int → Int} {fs : List aF} : ∀ {k : Nat} {z : Int}, fs[k]? = some none → (fvs A g z fs)[k]? = some (am_i (wz (g (z + k)))) := by
  induction fs with
  | nil => intro k z h; cases h
  | cons f fs ih =>
    intro k z h
    cases k with
    | zero =>
      have : f = none := Option.some.inj h
      subst this
      show some (am_i (wz (g z))) = _
      simp
    | succ k =>
      have h1 : fs[k]? = some none := h
      show (fvs A g (z + 1) fs)[k]? = _
      rw [ih h1]
      congr 4
      omega
theorem fvs_c {A : aA} {g : Int → Int} {fs : List aF} {r : Option Nat} : ∀ {k : Nat} {z : Int}, fs[k]? = some (some (.inl r)) → (fvs A g z fs)[k]? = some (am_r r) := by
  induction fs with
  | nil => intro k z h; cases h
  | cons f fs ih =>
    intro k z h
    cases k with
    | zero =>
      have : f = some (.inl r) := Option.some.inj h
      subst this
      rfl
    | succ k => exact ih (k := k) (z := z + 1) h
theorem fvs_t {A : aA} {g : Int → Int} {fs : List aF} {t : Nat} {i : Int} : ∀ {k : Nat} {z : Int}, fs[k]? = some (some (.inr (t, i))) → (fvs A g z fs)[k]? = some (am_r (some (A t i))) := by
  induction fs with
  | nil => intro k z h; cases h
  | cons f fs ih =>
    intro k z h
    cases k with
    | zero =>
      have : f = some (.inr (t, i)) := Option.some.inj h
      subst this
      rfl
    | succ k => exact ih (k := k) (z := z + 1) h
theorem fvs_len {A : aA} {g : Int → Int} {fs : List aF} : ∀ {z : Int}, (fvs A g z fs).length = fs.length := by
  induction fs with
  | nil => intro z; rfl
  | cons f fs ih => intro z; show (fvs A g (z + 1) fs).length + 1 = _; rw [ih]; rfl
theorem fvs_set {A : aA} {g g' : Int → Int} {v : Int} {fs : List aF} : ∀ {k : Nat} {z : Int}, fs[k]? = some none → g' (z + k) = v → (∀ j, j ≠ z + k → g' j = g j) → (fvs A g z fs).set k (am_i (wz v)) = fvs A g' z fs := by
  have cg : ∀ (fs : List aF) (z : Int), (∀ j, z ≤ j → g' j = g j) → fvs A g z fs = fvs A g' z fs := by
    intro fs
    induction fs with
    | nil => intro z h; rfl
    | cons f fs ih =>
      intro z h
      show fv1 A (g z) f :: _ = fv1 A (g' z) f :: _
      rw [ih (z + 1) (fun j hj => h j (by omega)), h z (by omega)]
  induction fs with
  | nil => intro k z h; cases h
  | cons f fs ih =>
    intro k z h h1 h2
    cases k with
    | zero =>
      have : f = none := Option.some.inj h
      subst this
      have e1 : g' z = v := by simpa using h1
      show am_i (wz v) :: fvs A g (z + 1) fs = am_i (wz (g' z)) :: fvs A g' (z + 1) fs
      rw [e1, cg fs (z + 1) (fun j hj => h2 j (by omega))]
    | succ k =>
      have h0 : fs[k]? = some none := h
      have e := ih (k := k) (z := z + 1) h0 (by rw [← h1]; congr 1; omega) (fun j hj => h2 j (by omega))
      show fv1 A (g z) f :: (fvs A g (z + 1) fs).set k _ = fv1 A (g' z) f :: _
      rw [e, h2 z (by omega)]
theorem tvs_i {i : Int} {fs : List (Option (Nat × Nat))} : ∀ {k c : Nat}, fs[k]? = some none → (tvs A D i c fs)[k]? = some (am_i (wz (D (c + k) i))) := by
  induction fs with
  | nil => intro k c h; cases h
  | cons f fs ih =>
    intro k c h
    cases k with
    | zero =>
      have : f = none := Option.some.inj h
      subst this
      rfl
    | succ k =>
      have h1 : fs[k]? = some none := h
      show (tvs A D i (c + 1) fs)[k]? = _
      rw [ih h1, show c + 1 + k = c + (k + 1) by omega]
theorem tvs_r {i : Int} {m : Nat × Nat} {fs : List (Option (Nat × Nat))} : ∀ {k c : Nat}, fs[k]? = some (some m) → (tvs A D i c fs)[k]? = some (am_r (tvr A i (D (c + k) i) m)) := by
  induction fs with
  | nil => intro k c h; cases h
  | cons f fs ih =>
    intro k c h
    cases k with
    | zero =>
      have : f = some m := Option.some.inj h
      subst this
      rfl
    | succ k =>
      have h1 : fs[k]? = some (some m) := h
      show (tvs A D i (c + 1) fs)[k]? = _
      rw [ih h1, show c + 1 + k = c + (k + 1) by omega]
theorem tvs_len {i : Int} {fs : List (Option (Nat × Nat))} : ∀ {c : Nat}, (tvs A D i c fs).length = fs.length := by
  induction fs with
  | nil => intro c; rfl
  | cons f fs ih => intro c; show (tvs A D i (c + 1) fs).length + 1 = _; rw [ih]; rfl
theorem tvs_set {i v : Int} {fs : List (Option (Nat × Nat))} : ∀ {k c : Nat}, fs[k]? = some none → (tvs A D i c fs).set k (am_i (wz v)) = tvs A (up D (c + k) i v) i c fs := by
  have cg : ∀ (fs : List (Option (Nat × Nat))) (c b : Nat), b < c → tvs A D i c fs = tvs A (up D b i v) i c fs := by
    intro fs c b h
    exact (tvs_cg (fun k _ => up_c (by omega))).symm
  induction fs with
  | nil => intro k c h; cases h
  | cons f fs ih =>
    intro k c h
    cases k with
    | zero =>
      have : f = none := Option.some.inj h
      subst this
      show am_i (wz v) :: tvs A D i (c + 1) fs = am_i (wz (up D c i v c i)) :: tvs A (up D c i v) i (c + 1) fs
      rw [up_eq, cg fs (c + 1) c (by omega)]
    | succ k =>
      have h0 : fs[k]? = some none := h
      have e := ih (k := k) (c := c + 1) h0
      show tv1 A i (D c i) f :: (tvs A D i (c + 1) fs).set k _ = tv1 A i (up D (c + (k + 1)) i v c i) f :: _
      rw [e, show c + 1 + k = c + (k + 1) by omega, up_c (c' := c) (by omega)]
theorem gi_of {h : List am_Ce} {a c k : Nat} {fs : List am_V} {x : Int32} (h1 : h[a]? = some (.inl (c, fs))) (h2 : fs[k]? = some (am_i x)) : am_gi h (some a) c k = some x := by
  unfold am_gi am_obj; simp only [h1, if_true, h2]
theorem gr_of {h : List am_Ce} {a c k : Nat} {fs : List am_V} {x : Option Nat} (h1 : h[a]? = some (.inl (c, fs))) (h2 : fs[k]? = some (am_r x)) : am_gr h (some a) c k = some x := by
  unfold am_gr am_obj; simp only [h1, if_true, h2]
theorem is_of {h : List am_Ce} {a c : Nat} {fs : List am_V} (h1 : h[a]? = some (.inl (c, fs))) : am_is h (some a) c = true := by
  unfold am_is; simp [h1]
theorem put_of {a c k : Nat} {fs : List am_V} {v : am_V} (h1 : s.1[a]? = some (.inl (c, fs))) (ha : 32 ≤ a) (hk : k < fs.length) : am_put s (some a) c k v = some (s.1.set a (.inl (c, fs.set k v)), s.2) := by
  unfold am_put; simp [h1, ha, hk, am_K]
theorem ix_ok {i : Int} {m : Nat} (h0 : 0 ≤ i) (h1 : i < m) (hm : m ≤ 65536) : (wz i).toNatClampNeg = i.toNat ∧ ¬ (wz i < 0 ∨ m ≤ (wz i).toNatClampNeg) := by
  have hr : rg i := ⟨by omega, by omega⟩
  have e := wz_clamp hr
  refine ⟨e, ?_⟩
  rw [e, ← wz0, wz_lt hr rg0]
  omega
theorem ial_of {h : List am_Ce} {a t m : Nat} {f : Nat → Int32} {i : Int} (h1 : h[a]? = some (.inr (.inl (t, m, f)))) (h0 : 0 ≤ i) (hi : i < m) (hm : m ≤ 65536) : am_ial h (some a) t (wz i) = some (f i.toNat) := by
  obtain ⟨e, q⟩ := ix_ok h0 hi hm
  unfold am_ial
  simp only [h1]
  rw [if_pos ⟨trivial, q⟩, e]
theorem ral_of {h : List am_Ce} {a t m : Nat} {f : Nat → Option Nat} {i : Int} (h1 : h[a]? = some (.inr (.inr (t, m, f)))) (h0 : 0 ≤ i) (hi : i < m) (hm : m ≤ 65536) : am_ral h (some a) (wz i) = some (f i.toNat) := by
  obtain ⟨e, q⟩ := ix_ok h0 hi hm
  unfold am_ral
  simp only [h1]
  rw [if_pos q, e]
theorem ias_of {a t m : Nat} {f : Nat → Int32} {i : Int} {x : Int32} (h1 : s.1[a]? = some (.inr (.inl (t, m, f)))) (ha : 32 ≤ a) (h0 : 0 ≤ i) (hi : i < m) (hm : m ≤ 65536) : am_ias s (some a) t (wz i) x = some (s.1.set a (.inr (.inl (t, m, upd f i.toNat (am_nar t x)))), s.2) := by
  obtain ⟨e, q⟩ := ix_ok h0 hi hm
  unfold am_ias
  simp only [h1]
  rw [if_pos (show am_K ≤ a from ha), if_pos ⟨trivial, q⟩, e]
theorem len_of {h : List am_Ce} {a t m : Nat} {f : Nat → Int32} (h1 : h[a]? = some (.inr (.inl (t, m, f)))) : am_len h (some a) = some m := by
  unfold am_len; simp only [h1]
theorem upd_wz {g g' : Int → Int} {i v : Int} (h0 : 0 ≤ i) (h1 : g' i = v) (h2 : ∀ j, j ≠ i → g' j = g j) : upd (fun j => wz (g j)) i.toNat (wz v) = fun j : Nat => wz (g' j) := by
  funext j
  unfold upd
  by_cases e : j = i.toNat
  · rw [if_pos e, show (j : Int) = i by omega, h1]
  · rw [if_neg e, h2 j (by omega)]
set_option maxRecDepth 100000 in
theorem nar_b : ∀ k : Fin 256, am_nar 1 (wz ((k.val : Int) - 128)) = wz ((k.val : Int) - 128) := by decide
theorem nar_1 {v : Int} (h0 : -128 ≤ v) (h1 : v ≤ 127) : am_nar 1 (wz v) = wz v := by
  have := nar_b ⟨(v + 128).toNat, by omega⟩
  simp only at this
  rwa [show (((v + 128).toNat : Nat) : Int) - 128 = v by omega] at this
theorem i2b_rg (x : Int) : -128 ≤ o_i2b x ∧ o_i2b x ≤ 127 := by
  unfold o_i2b
  rw [Int8.toInt_toInt32]
  have h1 := Int8.le_toInt (wz x).toInt8
  have h2 := Int8.toInt_lt (wz x).toInt8
  exact ⟨h1, by omega⟩
/-- writes -/
theorem Rp_ws {a : Nat} {sh : aSh} {k v : Int} (h : Rp n A D s) (hs : shp a = some sh) (hv : Nat.ble (lev a) n = true) (hg : rg v) : Rp n A (up D a k v) (s.1.set a (mkS A (up D a k v a) sh), s.2) := by
  obtain ⟨h1, F, h⟩ := h
  have q := Rp0_ws (k := k) (v := v) h hs
  rw [← mxx_up hv, mxx_vf hv] at q
  exact ⟨rg_up h1 hg, F, q⟩
theorem Rp_wf {t k : Nat} {i v : Int} {q : Nat × List (Option (Nat × Nat))} (h : Rp n A D s) (h10 : 10 ≤ t) (hf : D (900 + t) i = 1) (hq : tfs t = some q) (hk : q.2[k]? = some none) (hg : rg v) : Rp n A (up D (1000 + 100 * t + k) i v) (s.1.set (A t i) (mkT A (up D (1000 + 100 * t + k) i v) t i), s.2) := by
  have ht := tfs_le hq
  have hkl := (List.getElem?_eq_some_iff.mp hk).1
  have hl := tfs_len hq
  obtain ⟨h1, F, h⟩ := h
  have q := Rp0_wt (t := t) (c := 1000 + 100 * t + k) (i := i) (e := i) (v := v) h (by omega) (by rw [mxx_hi (by omega) (by omega) (by omega)]; exact hf) h10 (Or.inl ⟨q, k, hq, hk, rfl, rfl⟩)
  have hv : Nat.ble (lev (1000 + 100 * t + k)) n = true := by rw [lev_hi (by omega) (by omega) (by omega)]; rfl
  rw [← mxx_up hv, mkT_mxx (by omega) (by rw [lev_hi (by omega) (by omega) (by omega)]; rfl)] at q
  exact ⟨rg_up h1 hg, F, q⟩
theorem Rp_wa {t : Nat} {i k v : Int} (h : Rp n A D s) (h20 : 20 ≤ t) (h25 : t ≤ 25) (hv : Nat.ble (lev (1001 + 100 * t)) n = true) (hf : D (900 + t) i = 1) (h0 : 0 ≤ k) (h1 : k < 1024) (hg : rg v) : Rp n A (up D (1001 + 100 * t) (1024 * i + k) v) (s.1.set (A t i) (mkT A (up D (1001 + 100 * t) (1024 * i + k) v) t i), s.2) := by
  have hq : tfs t = none := by
    cases hq : tfs t with
    | none => rfl
    | some q => have := tfs_le hq; omega
  obtain ⟨h1', F, h⟩ := h
  have q := Rp0_wt (t := t) (c := 1001 + 100 * t) (i := i) (e := 1024 * i + k) (v := v) h (by omega) (by rw [mxx_hi (by omega) (by omega) (by omega)]; exact hf) (by omega) (Or.inr ⟨k.toNat, hq, ⟨h20, h25⟩, rfl, by omega, by omega⟩)
  rw [← mxx_up hv, mkT_mxx (by omega) hv] at q
  exact ⟨rg_up h1' hg, F, q⟩
end Rd
