/-! New things on the heap. -/
section Nw
variable {n : Nat} {A A' : aA} {D D' : aD} {s : am_S}
def upA (A : aA) (t : Nat) (i : Int) (v : Nat) : aA := fun t' i' => if t' = t ∧ i' = i then v else A t' i'
theorem upA_eq {t : Nat} {i : Int} {v : Nat} : upA A t i v t i = v := if_pos ⟨rfl, rfl⟩
theorem upA_t {t t' : Nat} {i i' : Int} {v : Nat} (h : t' ≠ t) : upA A t i v t' i' = A t' i' := if_neg (fun e => h e.1)
theorem upA_i {t t' : Nat} {i i' : Int} {v : Nat} (h : i' ≠ i) : upA A t i v t' i' = A t' i' := if_neg (fun e => h e.2)
/-- things that stand at fixed places of fixed rows -/
def fxt (q : Nat × Int) : Bool := (q.1 == 0 && (q.2 == 0 || q.2 == 1 || q.2 == 2 || q.2 == 3 || q.2 == 4 || q.2 == 5)) || (q.1 == 14 && q.2 == 8) || (q.1 == 2 && (q.2 == 0 || q.2 == 1))
def shk : Option aSh → Bool
  | some (.inl q) => q.2.all (fun f => match f with
    | some (.inr z) => fxt z
    | _ => true)
  | _ => true
set_option maxRecDepth 100000 in
theorem shk_ok : shl.all shk = true := by decide
theorem fvs_A {g : Int → Int} (h : ∀ t i, fxt (t, i) = true → A' t i = A t i) : ∀ (fs : List aF) (z : Int), fs.all (fun f => match f with
    | some (.inr z) => fxt z
    | _ => true) = true → fvs A' g z fs = fvs A g z fs := by
  intro fs
  induction fs with
  | nil => intro z _; rfl
  | cons f fs ih =>
    intro z hf
    rw [List.all_cons, Bool.and_eq_true] at hf
    show fv1 A' (g z) f :: fvs A' g (z + 1) fs = fv1 A (g z) f :: fvs A g (z + 1) fs
    rw [ih (z + 1) hf.2]
    congr 1
    unfold fv1
    split
    · rfl
    · rfl
    · rename_i q
      rw [h q.1 q.2 hf.1]
theorem mkS_A {a : Nat} {sh : aSh} {g : Int → Int} (hs : shp a = some sh) (h : ∀ t i, fxt (t, i) = true → A' t i = A t i) : mkS A' g sh = mkS A g sh := by
  have hm : some sh ∈ shl := by
    unfold shp at hs
    cases hz : shl[a]? with
    | none => rw [hz] at hs; cases hs
    | some z =>
      rw [hz] at hs
      have : z = some sh := hs
      rw [← this]; exact List.mem_of_getElem? hz
  have hk := List.all_eq_true.mp shk_ok _ hm
  unfold mkS
  cases sh with
  | inl q => simp only; rw [fvs_A h q.2 0 hk]
  | inr q => rfl
theorem Rp0_135 (H : Rp0 A D s) : 135 ≤ s.1.length := by
  have h := H.2.1 134 (.inr (0, 30)) rfl
  have := (List.getElem?_eq_some_iff.mp h).1
  omega
theorem shp_135 {a : Nat} (h : 135 ≤ a) : shp a = none := by
  unfold shp
  rw [List.getElem?_eq_none (by have : shl.length = 135 := rfl; omega)]; rfl
theorem Rp0_ext {cs : List am_Ce} {k : Nat} (H : Rp0 A D s) (h01 : D' 0 = D 0 ∧ D' 1 = D 1)
    (hS : ∀ a sh, shp a = some sh → mkS A' (D' a) sh = mkS A (D a) sh)
    (hT : ∀ t i, t < 50 → D' (900 + t) i = 1 → (D (900 + t) i = 1 ∧ A' t i = A t i ∧ mkT A' D' t i = mkT A D t i) ∨ (∃ j, A' t i = s.1.length + j ∧ cs[j]? = some (mkT A' D' t i)))
    (hJ : ∀ t i t' i' j, t < 50 → t' < 50 → D' (900 + t) i = 1 → D' (900 + t') i' = 1 → A' t i = s.1.length + j → A' t' i' = s.1.length + j → t = t' ∧ i = i')
    (hL : D' 950 0 = s.1.length + cs.length ∧ D' 951 0 = s.2 + k) (hC : Cl A' D') : Rp0 A' D' (s.1 ++ cs, s.2 + k) := by
  have h135 := Rp0_135 H
  obtain ⟨⟨h1, h1b⟩, h2, h3, h4, ⟨h5, h5b⟩, h6⟩ := H
  have hlt : ∀ {a : Nat} {c : am_Ce}, s.1[a]? = some c → (s.1 ++ cs)[a]? = some c := fun {a c} h => by
    rw [List.getElem?_append_left (List.getElem?_eq_some_iff.mp h).1]; exact h
  refine ⟨⟨?_, ?_⟩, ?_, ?_, ?_, ?_, hC⟩
  · show (s.1 ++ cs)[0]? = _
    rw [h01.1, h01.2]; exact hlt h1
  · intro a c ha hc
    exact hlt (h1b a c ha hc)
  · intro a sh ha
    rw [hS a sh ha]; exact hlt (h2 a sh ha)
  · intro t i ht hf
    rcases hT t i ht hf with ⟨q1, q2, q3⟩ | ⟨j, q1, q2⟩
    · rw [q2, q3]
      obtain ⟨r1, r2, r3⟩ := h3 t i ht q1
      exact ⟨hlt r1, r2, r3⟩
    · rw [q1]
      refine ⟨?_, by omega, shp_135 (by omega)⟩
      show (s.1 ++ cs)[s.1.length + j]? = _
      rw [List.getElem?_append_right (by omega), show s.1.length + j - s.1.length = j by omega]; exact q2
  · intro t i t' i' ht ht' hf hf' e
    rcases hT t i ht hf with ⟨q1, q2, q3⟩ | ⟨j, q1, q2⟩
    · have hl := (List.getElem?_eq_some_iff.mp (h3 t i ht q1).1).1
      rcases hT t' i' ht' hf' with ⟨r1, r2, r3⟩ | ⟨j', r1, r2⟩
      · rw [q2, r2] at e; exact h4 t i t' i' ht ht' q1 r1 e
      · rw [q2, r1] at e; omega
    · rcases hT t' i' ht' hf' with ⟨r1, r2, r3⟩ | ⟨j', r1, r2⟩
      · have hl := (List.getElem?_eq_some_iff.mp (h3 t' i' ht' r1).1).1
        rw [q1, r2] at e; omega
      · exact hJ t i t' i' j ht ht' hf hf' q1 (by rw [← e]; exact q1)
  · show D' 950 0 = ((s.1 ++ cs).length : Int) ∧ D' 951 0 = ((s.2 + k : Nat) : Int)
    rw [List.length_append]
    refine ⟨by have := hL.1; omega, by have := hL.2; omega⟩
/-- cells that nothing shows -/
theorem Rp_grow {cs : List am_Ce} {k : Nat} (h : Rp n A D s) (h1 : rg (D 950 0 + cs.length)) (h2 : rg (D 951 0 + k)) : Rp n A (up (up D 950 0 (D 950 0 + cs.length)) 951 0 (D 951 0 + k)) (s.1 ++ cs, s.2 + k) := by
  obtain ⟨hg, F, H⟩ := h
  refine ⟨rg_up (rg_up hg h1) h2, F, ?_⟩
  rw [mxx_up rfl, mxx_up rfl]
  have hl := H.2.2.2.2.1
  have e950 : mxx n D F 950 0 = D 950 0 := mxx_v rfl
  have e951 : mxx n D F 951 0 = D 951 0 := mxx_v rfl
  have hc : ∀ c, c ≠ 950 → c ≠ 951 → up (up (mxx n D F) 950 0 (D 950 0 + cs.length)) 951 0 (D 951 0 + k) c = mxx n D F c := fun c a b => by rw [up_cf b, up_cf a]
  refine Rp0_ext (A := A) (D := mxx n D F) H ⟨hc 0 (by decide) (by decide), hc 1 (by decide) (by decide)⟩ (fun a sh hs => by have := shp_ge hs; rw [hc a (by omega) (by omega)]) (fun t i ht hf => ?_) (fun t i t' i' j ht ht' hf hf' q q' => ?_) ⟨?_, ?_⟩ (Cl_cg (fun c q => hc c (by unfold clu at q; omega) (by unfold clu at q; omega)) H.2.2.2.2.2)
  · rw [hc _ (by omega) (by omega)] at hf
    refine Or.inl ⟨hf, rfl, ?_⟩
    rw [mkT_cg (D' := up (up (mxx n D F) 950 0 (D 950 0 + cs.length)) 951 0 (D 951 0 + k)) (D := mxx n D F)]
    · intro _ c q _; rw [hc c (by omega) (by omega)]
    · intro _; rw [hc _ (by omega) (by omega)]
    · intro _; rw [hc _ (by decide) (by decide)]
    · intro _ j; rw [hc 1200 (by decide) (by decide), hc 1201 (by decide) (by decide)]; exact ⟨rfl, rfl⟩
    · intro _ _ j _; rw [hc _ (by omega) (by omega)]
  · rw [hc _ (by omega) (by omega)] at hf hf'
    exact H.2.2.2.1 t i t' i' ht ht' hf hf' (q.trans q'.symm)
  · rw [up_c (by decide), up_eq]; omega
  · rw [up_eq]; omega
/-- size and get leave the heap as it is -/
theorem rw_size {d : Nat} (l : Int) (hr : Rp n A D s) (f : D 900 l = 1) : dn (d + 1) 229 [am_r (some (A 0 l))] s = some (some (am_i (wz (D 1002 l))), s) := by
  rw [dn_s (P := P_size) (n := 1) (lo := [some (am_r (some (A 0 l)))]) rfl rfl rfl]
  refine (m_aload_n (q := 1) rfl rfl rfl rfl).trans ?_
  refine (m_gft (t := 0) (q := 4) rfl rfl rfl hr rfl f rfl rfl rfl).trans ?_
  exact m_reti rfl rfl
theorem rw_ck3 {d : Nat} (i m : Int) (y : Option Nat) (hi : rg i) (hm : rg m) (h : 0 ≤ i ∧ i < m) : dn (d + 1) 240 [am_i (wz i), am_i (wz m), am_r y] s = some (some (am_i (wz i)), s) := by
  rw [dn_s (P := P_ck3) (n := 3) (lo := [some (am_i (wz i)), some (am_i (wz m)), some (am_r y)]) rfl rfl rfl]
  refine (m_iload_n (q := 1) rfl rfl rfl rfl).trans ?_
  refine ((m_iflt (qt := 9) (qf := 4) rfl rfl hi rfl rfl).trans (if_neg (by omega))).trans ?_
  refine (m_iload_n (q := 5) rfl rfl rfl rfl).trans ?_
  refine (m_iload_n (q := 6) rfl rfl rfl rfl).trans ?_
  refine ((m_cmplt (qt := 16) (qf := 9) rfl rfl hi hm rfl rfl).trans (if_pos h.2)).trans ?_
  refine (m_iload_n (q := 17) rfl rfl rfl rfl).trans ?_
  exact m_reti rfl rfl
theorem rw_ck15 {d : Nat} (i m : Int) (hi : rg i) (hm : rg m) (h : 0 ≤ i ∧ i < m) : dn (d + 2) 238 [am_i (wz i), am_i (wz m)] s = some (some (am_i (wz i)), s) := by
  rw [dn_s (P := P_ck15) (n := 2) (lo := [some (am_i (wz i)), some (am_i (wz m))]) rfl rfl rfl]
  refine (m_iload_n (q := 1) rfl rfl rfl rfl).trans ?_
  refine (m_iload_n (q := 2) rfl rfl rfl rfl).trans ?_
  refine (m_aconst_null (q := 3) rfl rfl rfl).trans ?_
  refine (x_cs (rk := 1) (as := [am_i (wz i), am_i (wz m), am_r none]) (rest := []) (q := 6) rfl rfl rfl rfl rfl rfl rfl rfl rfl).trans ?_
  rw [rw_ck3 i m none hi hm h]
  exact m_reti rfl rfl
theorem rw_eld {d : Nat} (l i : Int) (hr : Rp n A D s) (f : D 900 l = 1) (g : 0 ≤ i ∧ i < D 1002 l) : dn (d + 1) 230 [am_r (some (A 0 l)), am_i (wz i)] s = some (some (am_r (some (A (ety l) (ebs l + i)))), s) := by
  rw [dn_s (P := P_eld) (n := 2) (lo := [some (am_r (some (A 0 l))), some (am_i (wz i))]) rfl rfl rfl]
  refine (m_aload_n (q := 1) rfl rfl rfl rfl).trans ?_
  refine (m_gfx (t := 0) (q := 4) (r := some (A 1 l)) rfl rfl rfl hr rfl f rfl rfl rfl).trans ?_
  refine (m_iload_n (q := 5) rfl rfl rfl rfl).trans ?_
  refine (x_aal (q := 6) rfl rfl rfl (Rp_lst hr f g)).trans ?_
  exact m_retr rfl rfl
theorem rw_get {d : Nat} (l i : Int) (hr : Rp n A D s) (f : D 900 l = 1) (g : 0 ≤ i ∧ i < D 1002 l) : dn (d + 3) 231 [am_r (some (A 0 l)), am_i (wz i)] s = some (some (am_r (some (A (ety l) (ebs l + i)))), s) := by
  have hc := (Rp_cl hr).1 l f
  have hi : rg i := ⟨by omega, by omega⟩
  rw [dn_s (P := P_get) (n := 2) (lo := [some (am_r (some (A 0 l))), some (am_i (wz i))]) rfl rfl rfl]
  refine (m_iload_n (q := 1) rfl rfl rfl rfl).trans ?_
  refine (m_aload_n (q := 2) rfl rfl rfl rfl).trans ?_
  refine (m_gft (t := 0) (q := 5) rfl rfl rfl hr rfl f rfl rfl rfl).trans ?_
  refine (x_cs (rk := 1) (as := [am_i (wz i), am_i (wz (D 1002 l))]) (rest := []) (q := 8) rfl rfl rfl rfl rfl rfl rfl rfl rfl).trans ?_
  rw [rw_ck15 i (D 1002 l) hi (Rp_rg hr 1002 l) g]
  refine (m_popi (q := 9) rfl rfl rfl).trans ?_
  refine (m_aload_n (q := 10) rfl rfl rfl rfl).trans ?_
  refine (m_iload_n (q := 11) rfl rfl rfl rfl).trans ?_
  refine (x_cv (rk := 3) (r := some (A 0 l)) (as := [am_i (wz i)]) (rest := []) (q := 14) rfl rfl rfl rfl rfl rfl rfl rfl rfl rfl (is_ty hr rfl f)).trans ?_
  rw [rw_eld l i hr f g]
  exact m_retr rfl rfl
end Nw
