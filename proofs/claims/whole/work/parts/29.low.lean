/-! What is seen of a call from further out: codes of a higher level are forgotten. -/
theorem fvs_wz {A : aA} {g g' : Int → Int} (h : ∀ i, wz (g' i) = wz (g i)) : ∀ (fs : List aF) (z : Int), fvs A g' z fs = fvs A g z fs := by
  intro fs
  induction fs with
  | nil => intro z; rfl
  | cons f fs ih =>
    intro z
    show fv1 A (g' z) f :: fvs A g' (z + 1) fs = fv1 A (g z) f :: fvs A g (z + 1) fs
    rw [ih]
    congr 1
    unfold fv1
    split
    · rw [h]
    · rfl
    · rfl
theorem mkS_wz {A : aA} {g g' : Int → Int} (h : ∀ i, wz (g' i) = wz (g i)) (sh : aSh) : mkS A g' sh = mkS A g sh := by
  unfold mkS
  split
  · rw [fvs_wz h]
  · simp only [h]
theorem mkT_wz {A : aA} {D D' : aD} {t : Nat} {i : Int} (ht : t < 50) (h : ∀ c, lev c = 0 → D' c = D c) (hw : ∀ c j, wz (D' c j) = wz (D c j)) : mkT A D' t i = mkT A D t i := by
  unfold mkT
  cases hq : tfs t with
  | some q =>
    have h1 := tfs_len hq
    have h2 := tfs_le hq
    simp only
    rw [tvs_cg (D' := D') (D := D)]
    intro k hk
    rw [h _ (lev_hi (by omega) (by omega) (by omega))]
  | none =>
    simp only
    rw [h 1100 rfl, h 1002 rfl, h 1200 rfl, h 1201 rfl, h (1000 + 100 * t) (lev_hi (by omega) (by omega) (by omega))]
    simp only [hw]
theorem Rp0_wz {A : aA} {D D' : aD} {s : am_S} (h : ∀ c, lev c = 0 → D' c = D c) (hw : ∀ c j, wz (D' c j) = wz (D c j)) (H : Rp0 A D s) : Rp0 A D' s := by
  obtain ⟨⟨h1, h1b⟩, h2, h3, h4, ⟨h5, h5b⟩, h6⟩ := H
  have hi : ∀ t, t < 50 → D' (900 + t) = D (900 + t) := fun t ht => h _ (lev_hi (by omega) (by omega) (by omega))
  refine ⟨⟨?_, h1b⟩, ?_, ?_, ?_, ?_, Cl_cg (fun c q => h c (lev_hi (clu_hi q).1 (clu_hi q).2.1 (clu_hi q).2.2)) h6⟩
  · rw [h 0 rfl, h 1 rfl]; exact h1
  · intro a sh hs
    rw [mkS_wz (hw a)]; exact h2 a sh hs
  · intro t i ht hf
    rw [hi t ht] at hf
    rw [mkT_wz ht h hw]
    exact h3 t i ht hf
  · intro t i t' i' ht ht' hf hf'
    rw [hi t ht] at hf
    rw [hi t' ht'] at hf'
    exact h4 t i t' i' ht ht' hf hf'
  · rw [h 950 rfl, h 951 rfl]; exact ⟨h5, h5b⟩
theorem Rp_up {n m : Nat} (hnm : n ≤ m) {A : aA} {D : aD} {s : am_S} (h : Rp n A D s) : ∃ F : aD, (∀ c, Nat.ble (lev c) n = true → F c = D c) ∧ Rp m A F s := by
  obtain ⟨hg, F0, h0⟩ := h
  have e0 : ∀ c, lev c = 0 → mxx n D (fun c i => wr (F0 c i)) c = mxx n D F0 c := fun c q => by
    rw [mxx_vf (by rw [q]; rfl), mxx_vf (by rw [q]; rfl)]
  have e1 : ∀ c j, wz (mxx n D (fun c i => wr (F0 c i)) c j) = wz (mxx n D F0 c j) := fun c j => by
    unfold mxx
    split
    · rfl
    · exact wz_wr _
  refine ⟨mxx n D (fun c i => wr (F0 c i)), fun c q => mxx_vf q, fun c i => ?_, mxx n D (fun c i => wr (F0 c i)), ?_⟩
  · unfold mxx
    split
    · exact hg _ _
    · exact rg_wr _
  · have e2 : mxx m (mxx n D (fun c i => wr (F0 c i))) (mxx n D (fun c i => wr (F0 c i))) = mxx n D (fun c i => wr (F0 c i)) := by
      funext c i; unfold mxx; split <;> rfl
    rw [e2]
    exact Rp0_wz e0 e1 h0
theorem Rp_dn {n m : Nat} (hnm : n ≤ m) {A : aA} {D U : aD} {s : am_S} (hU : ∀ c, Nat.ble (lev c) n = true → D c = U c) (hg : ∀ c i, rg (U c i)) (h : Rp m A D s) : Rp n A U s := by
  obtain ⟨-, F, h0⟩ := h
  refine ⟨hg, mxx m D F, ?_⟩
  have e : mxx n U (mxx m D F) = mxx m D F := by
    funext c i
    by_cases q : Nat.ble (lev c) n = true
    · rw [mxx_v q, mxx_v (Nat.ble_eq_true_of_le (Nat.le_trans (Nat.le_of_ble_eq_true q) hnm)), hU c q]
    · unfold mxx; simp only [if_neg q]
  rw [e]; exact h0
/-- a call seen from a lower level -/
theorem Ev_low {n m : Nat} (hnm : n ≤ m) {c mm : Nat} {as : List am_V} {A A' : aA} {D U : aD} {ρ : Option am_V → Prop} (hg : (∀ c i, rg (D c i)) → ∀ c i, rg (U c i)) (H : ∀ F : aD, (∀ c, Nat.ble (lev c) n = true → F c = D c) → ∃ D'', Ev m c mm as A F ρ A' D'' ∧ ∀ c, Nat.ble (lev c) n = true → D'' c = U c) : Ev n c mm as A D ρ A' U := by
  intro d hd s hr
  obtain ⟨F, hF, hm⟩ := Rp_up hnm hr
  obtain ⟨D'', hE, hU⟩ := H F hF
  obtain ⟨r, s', e, hρ, hR⟩ := hE d hd s hm
  exact ⟨r, s', e, hρ, Rp_dn hnm hU (hg hr.1) hR⟩
/-- .. that changes nothing which is seen there -/
theorem Ev_pure {n m : Nat} (hnm : n ≤ m) {c mm : Nat} {as : List am_V} {A A' : aA} {D : aD} {ρ : Option am_V → Prop} (H : ∀ F : aD, (∀ c, Nat.ble (lev c) n = true → F c = D c) → ∃ D'', Ev m c mm as A F ρ A' D'' ∧ ∀ c, Nat.ble (lev c) n = true → D'' c = D c) : Ev n c mm as A D ρ A' D := Ev_low hnm (fun h => h) H
theorem Sm_le {n : Nat} {F D : aD} (h : ∀ c, Nat.ble (lev c) n = true → F c = D c) : Sm F D := fun c q => h c (Nat.ble_eq_true_of_le (Nat.le_trans (Nat.le_of_ble_eq_true q) (Nat.zero_le n)))
/-- what is read of a call's answer when it is an int -/
theorem Ev_i {n c m : Nat} {as : List am_V} {A A' : aA} {D D' : aD} {x y : Int} (h : Ev n c m as A D (ri x) A' D') (e : x = y) : Ev n c m as A D (ri y) A' D' := e ▸ h
theorem Ev_D {n c m : Nat} {as : List am_V} {A A' : aA} {D D' D'' : aD} {ρ : Option am_V → Prop} (h : Ev n c m as A D ρ A' D') (e : D' = D'') : Ev n c m as A D ρ A' D'' := e ▸ h
