/-! New things on the heap. -/
section Nw
variable {n : Nat} {A A' : aA} {D D' : aD} {s : am_S}
def upA (A : aA) (t : Nat) (i : Int) (v : Nat) : aA := fun t' i' => if t' = t ∧ i' = i then v else A t' i'
theorem upA_eq {t : Nat} {i : Int} {v : Nat} : upA A t i v t i = v := if_pos ⟨rfl, rfl⟩
theorem upA_t {t t' : Nat} {i i' : Int} {v : Nat} (h : t' ≠ t) : upA A t i v t' i' = A t' i' := if_neg (fun e => h e.1)
theorem upA_i {t t' : Nat} {i i' : Int} {v : Nat} (h : i' ≠ i) : upA A t i v t' i' = A t' i' := if_neg (fun e => h e.2)
/-- things that stand at fixed places of fixed rows -/
def fxt (q : Nat × Int) : Bool := (q.1 == 0 && (q.2 == 0 || q.2 == 1 || q.2 == 2 || q.2 == 3 || q.2 == 4 || q.2 == 5)) || (q.1 == 14 && q.2 == 8) || (q.1 == 2 && (q.2 == 0 || q.2 == 1))
def shk : Option aSh → Bool
  | some (.inl q) => q.2.all (fun f => match f with
    | some (.inr z) => fxt z
    | _ => true)
  | _ => true
set_option maxRecDepth 100000 in
theorem shk_ok : shl.all shk = true := by decide
theorem fvs_A {g : Int → Int} (h : ∀ t i, fxt (t, i) = true → A' t i = A t i) : ∀ (fs : List aF) (z : Int), fs.all (fun f => match f with
    | some (.inr z) => fxt z
    | _ => true) = true → fvs A' g z fs = fvs A g z fs := by
  intro fs
  induction fs with
  | nil => intro z _; rfl
  | cons f fs ih =>
    intro z hf
    rw [List.all_cons, Bool.and_eq_true] at hf
    show fv1 A' (g z) f :: fvs A' g (z + 1) fs = fv1 A (g z) f :: fvs A g (z + 1) fs
    rw [ih (z + 1) hf.2]
    congr 1
    unfold fv1
    split
    · rfl
    · rfl
    · rename_i q
      rw [h q.1 q.2 hf.1]
theorem mkS_A {a : Nat} {sh : aSh} {g : Int → Int} (hs : shp a = some sh) (h : ∀ t i, fxt (t, i) = true → A' t i = A t i) : mkS A' g sh = mkS A g sh := by
  have hm : some sh ∈ shl := by
    unfold shp at hs
    cases hz : shl[a]? with
    | none => rw [hz] at hs; cases hs
    | some z =>
      rw [hz] at hs
      have : z = some sh := hs
      rw [← this]; exact List.mem_of_getElem? hz
  have hk := List.all_eq_true.mp shk_ok _ hm
  unfold mkS
  cases sh with
  | inl q => simp only; rw [fvs_A h q.2 0 hk]
  | inr q => rfl
theorem Rp0_135 (H : Rp0 A D s) : 135 ≤ s.1.length := by
  have h := H.2.1 134 (.inr (0, 30)) rfl
  have := (List.getElem?_eq_some_iff.mp h).1
  omega
theorem shp_135 {a : Nat} (h : 135 ≤ a) : shp a = none := by
  unfold shp
  rw [List.getElem?_eq_none (by have : shl.length = 135 := rfl; omega)]; rfl
theorem Rp0_ext {cs : List am_Ce} {k : Nat} (H : Rp0 A D s) (h01 : D' 0 = D 0 ∧ D' 1 = D 1)
    (hS : ∀ a sh, shp a = some sh → mkS A' (D' a) sh = mkS A (D a) sh)
    (hT : ∀ t i, t < 50 → D' (900 + t) i = 1 → (D (900 + t) i = 1 ∧ A' t i = A t i ∧ mkT A' D' t i = mkT A D t i) ∨ (∃ j, A' t i = s.1.length + j ∧ cs[j]? = some (mkT A' D' t i)))
    (hJ : ∀ t i t' i' j, t < 50 → t' < 50 → D' (900 + t) i = 1 → D' (900 + t') i' = 1 → A' t i = s.1.length + j → A' t' i' = s.1.length + j → t = t' ∧ i = i')
    (hL : D' 950 0 = s.1.length + cs.length ∧ D' 951 0 = s.2 + k) (hC : Cl A' D') : Rp0 A' D' (s.1 ++ cs, s.2 + k) := by
  have h135 := Rp0_135 H
  obtain ⟨⟨h1, h1b⟩, h2, h3, h4, ⟨h5, h5b⟩, h6⟩ := H
  have hlt : ∀ {a : Nat} {c : am_Ce}, s.1[a]? = some c → (s.1 ++ cs)[a]? = some c := fun {a c} h => by
    rw [List.getElem?_append_left (List.getElem?_eq_some_iff.mp h).1]; exact h
  refine ⟨⟨?_, ?_⟩, ?_, ?_, ?_, ?_, hC⟩
  · show (s.1 ++ cs)[0]? = _
    rw [h01.1, h01.2]; exact hlt h1
  · intro a c ha hc
    exact hlt (h1b a c ha hc)
  · intro a sh ha
    rw [hS a sh ha]; exact hlt (h2 a sh ha)
  · intro t i ht hf
    rcases hT t i ht hf with ⟨q1, q2, q3⟩ | ⟨j, q1, q2⟩
    · rw [q2, q3]
      obtain ⟨r1, r2, r3⟩ := h3 t i ht q1
      exact ⟨hlt r1, r2, r3⟩
    · rw [q1]
      refine ⟨?_, by omega, shp_135 (by omega)⟩
      show (s.1 ++ cs)[s.1.length + j]? = _
      rw [List.getElem?_append_right (by omega), show s.1.length + j - s.1.length = j by omega]; exact q2
  · intro t i t' i' ht ht' hf hf' e
    rcases hT t i ht hf with ⟨q1, q2, q3⟩ | ⟨j, q1, q2⟩
    · have hl := (List.getElem?_eq_some_iff.mp (h3 t i ht q1).1).1
      rcases hT t' i' ht' hf' with ⟨r1, r2, r3⟩ | ⟨j', r1, r2⟩
      · rw [q2, r2] at e; exact h4 t i t' i' ht ht' q1 r1 e
      · rw [q2, r1] at e; omega
    · rcases hT t' i' ht' hf' with ⟨r1, r2, r3⟩ | ⟨j', r1, r2⟩
      · have hl := (List.getElem?_eq_some_iff.mp (h3 t' i' ht' r1).1).1
        rw [q1, r2] at e; omega
      · exact hJ t i t' i' j ht ht' hf hf' q1 (by rw [← e]; exact q1)
  · show D' 950 0 = ((s.1 ++ cs).length : Int) ∧ D' 951 0 = ((s.2 + k : Nat) : Int)
    rw [List.length_append]
    refine ⟨by have := hL.1; omega, by have := hL.2; omega⟩
/-- cells that nothing shows -/
theorem Rp_grow {cs : List am_Ce} {k : Nat} (h : Rp n A D s) (h1 : rg (D 950 0 + cs.length)) (h2 : rg (D 951 0 + k)) : Rp n A (up (up D 950 0 (D 950 0 + cs.length)) 951 0 (D 951 0 + k)) (s.1 ++ cs, s.2 + k) := by
  obtain ⟨hg, F, H⟩ := h
  refine ⟨rg_up (rg_up hg h1) h2, F, ?_⟩
  rw [mxx_up rfl, mxx_up rfl]
  have hl := H.2.2.2.2.1
  have e950 : mxx n D F 950 0 = D 950 0 := mxx_v rfl
  have e951 : mxx n D F 951 0 = D 951 0 := mxx_v rfl
  have hc : ∀ c, c ≠ 950 → c ≠ 951 → up (up (mxx n D F) 950 0 (D 950 0 + cs.length)) 951 0 (D 951 0 + k) c = mxx n D F c := fun c a b => by rw [up_cf b, up_cf a]
  refine Rp0_ext (A := A) (D := mxx n D F) H ⟨hc 0 (by decide) (by decide), hc 1 (by decide) (by decide)⟩ (fun a sh hs => by have := shp_ge hs; rw [hc a (by omega) (by omega)]) (fun t i ht hf => ?_) (fun t i t' i' j ht ht' hf hf' q q' => ?_) ⟨?_, ?_⟩ (Cl_cg (fun c q => hc c (by unfold clu at q; omega) (by unfold clu at q; omega)) H.2.2.2.2.2)
  · rw [hc _ (by omega) (by omega)] at hf
    refine Or.inl ⟨hf, rfl, ?_⟩
    rw [mkT_cg (D' := up (up (mxx n D F) 950 0 (D 950 0 + cs.length)) 951 0 (D 951 0 + k)) (D := mxx n D F)]
    · intro _ c q _; rw [hc c (by omega) (by omega)]
    · intro _; rw [hc _ (by omega) (by omega)]
    · intro _; rw [hc _ (by decide) (by decide)]
    · intro _ j; rw [hc 1200 (by decide) (by decide), hc 1201 (by decide) (by decide)]; exact ⟨rfl, rfl⟩
    · intro _ _ j _; rw [hc _ (by omega) (by omega)]
  · rw [hc _ (by omega) (by omega)] at hf hf'
    exact H.2.2.2.1 t i t' i' ht ht' hf hf' (q.trans q'.symm)
  · rw [up_c (by decide), up_eq]; omega
  · rw [up_eq]; omega
/-- size and get leave the heap as it is -/
theorem rw_size {d : Nat} (l : Int) (hr : Rp n A D s) (f : D 900 l = 1) : dn (d + 1) 229 [am_r (some (A 0 l))] s = some (some (am_i (wz (D 1002 l))), s) := by
  rw [dn_s (P := P_size) (n := 1) (lo := [some (am_r (some (A 0 l)))]) rfl rfl rfl]
  refine (m_aload_n (q := 1) rfl rfl rfl rfl).trans ?_
  refine (m_gft (t := 0) (q := 4) rfl rfl rfl hr rfl f rfl rfl rfl).trans ?_
  exact m_reti rfl rfl
theorem rw_ck3 {d : Nat} (i m : Int) (y : Option Nat) (hi : rg i) (hm : rg m) (h : 0 ≤ i ∧ i < m) : dn (d + 1) 240 [am_i (wz i), am_i (wz m), am_r y] s = some (some (am_i (wz i)), s) := by
  rw [dn_s (P := P_ck3) (n := 3) (lo := [some (am_i (wz i)), some (am_i (wz m)), some (am_r y)]) rfl rfl rfl]
  refine (m_iload_n (q := 1) rfl rfl rfl rfl).trans ?_
  refine ((m_iflt (qt := 9) (qf := 4) rfl rfl hi rfl rfl).trans (if_neg (by omega))).trans ?_
  refine (m_iload_n (q := 5) rfl rfl rfl rfl).trans ?_
  refine (m_iload_n (q := 6) rfl rfl rfl rfl).trans ?_
  refine ((m_cmplt (qt := 16) (qf := 9) rfl rfl hi hm rfl rfl).trans (if_pos h.2)).trans ?_
  refine (m_iload_n (q := 17) rfl rfl rfl rfl).trans ?_
  exact m_reti rfl rfl
theorem rw_ck15 {d : Nat} (i m : Int) (hi : rg i) (hm : rg m) (h : 0 ≤ i ∧ i < m) : dn (d + 2) 238 [am_i (wz i), am_i (wz m)] s = some (some (am_i (wz i)), s) := by
  rw [dn_s (P := P_ck15) (n := 2) (lo := [some (am_i (wz i)), some (am_i (wz m))]) rfl rfl rfl]
  refine (m_iload_n (q := 1) rfl rfl rfl rfl).trans ?_
  refine (m_iload_n (q := 2) rfl rfl rfl rfl).trans ?_
  refine (m_aconst_null (q := 3) rfl rfl rfl).trans ?_
  refine (x_cs (rk := 1) (as := [am_i (wz i), am_i (wz m), am_r none]) (rest := []) (q := 6) rfl rfl rfl rfl rfl rfl rfl rfl rfl).trans ?_
  rw [rw_ck3 i m none hi hm h]
  exact m_reti rfl rfl
theorem rw_eld {d : Nat} (l i : Int) (hr : Rp n A D s) (f : D 900 l = 1) (g : 0 ≤ i ∧ i < D 1002 l) : dn (d + 1) 230 [am_r (some (A 0 l)), am_i (wz i)] s = some (some (am_r (some (A (ety l) (ebs l + i)))), s) := by
  rw [dn_s (P := P_eld) (n := 2) (lo := [some (am_r (some (A 0 l))), some (am_i (wz i))]) rfl rfl rfl]
  refine (m_aload_n (q := 1) rfl rfl rfl rfl).trans ?_
  refine (m_gfx (t := 0) (q := 4) (r := some (A 1 l)) rfl rfl rfl hr rfl f rfl rfl rfl).trans ?_
  refine (m_iload_n (q := 5) rfl rfl rfl rfl).trans ?_
  refine (x_aal (q := 6) rfl rfl rfl (Rp_lst hr f g)).trans ?_
  exact m_retr rfl rfl
theorem rw_get {d : Nat} (l i : Int) (hr : Rp n A D s) (f : D 900 l = 1) (g : 0 ≤ i ∧ i < D 1002 l) : dn (d + 3) 231 [am_r (some (A 0 l)), am_i (wz i)] s = some (some (am_r (some (A (ety l) (ebs l + i)))), s) := by
  have hc := (Rp_cl hr).1 l f
  have hi : rg i := ⟨by omega, by omega⟩
  rw [dn_s (P := P_get) (n := 2) (lo := [some (am_r (some (A 0 l))), some (am_i (wz i))]) rfl rfl rfl]
  refine (m_iload_n (q := 1) rfl rfl rfl rfl).trans ?_
  refine (m_aload_n (q := 2) rfl rfl rfl rfl).trans ?_
  refine (m_gft (t := 0) (q := 5) rfl rfl rfl hr rfl f rfl rfl rfl).trans ?_
  refine (x_cs (rk := 1) (as := [am_i (wz i), am_i (wz (D 1002 l))]) (rest := []) (q := 8) rfl rfl rfl rfl rfl rfl rfl rfl rfl).trans ?_
  rw [rw_ck15 i (D 1002 l) hi (Rp_rg hr 1002 l) g]
  refine (m_popi (q := 9) rfl rfl rfl).trans ?_
  refine (m_aload_n (q := 10) rfl rfl rfl rfl).trans ?_
  refine (m_iload_n (q := 11) rfl rfl rfl rfl).trans ?_
  refine (x_cv (rk := 3) (r := some (A 0 l)) (as := [am_i (wz i)]) (rest := []) (q := 14) rfl rfl rfl rfl rfl rfl rfl rfl rfl rfl (is_ty hr rfl f)).trans ?_
  rw [rw_eld l i hr f g]
  exact m_retr rfl rfl
end Nw
/-! Adding to a list. -/
section Ad
variable {n : Nat} {A A' : aA} {D D' : aD} {d : Nat} {P : Nat → Option am_E} {pc q : Nat} {lo : am_L} {st : List am_V} {s : am_S} {ks : List Nat} {ln : Nat}
theorem ap_at {h : List am_Ce} {c : am_Ce} : (h ++ [c])[h.length]? = some c := by rw [List.getElem?_append_right (Nat.le_refl _), Nat.sub_self]; rfl
theorem ap_set {h : List am_Ce} {c c' : am_Ce} : (h ++ [c]).set h.length c' = h ++ [c'] := by
  rw [List.set_append_right _ _ (Nat.le_refl _), Nat.sub_self]; rfl
theorem ap_lt {h : List am_Ce} {c x : am_Ce} {a : Nat} (e : h[a]? = some x) : (h ++ [c])[a]? = some x := by
  rw [List.getElem?_append_left (List.getElem?_eq_some_iff.mp e).1]; exact e
abbrev P_nl : Nat → Option am_E := am_fy tb_J8_newLength_cabcc
theorem rw_nl (a b c : Int) (ha : 0 ≤ a ∧ a ≤ 10000) (hb : 1 ≤ b ∧ b ≤ 10000) (hc : 0 ≤ c ∧ c ≤ 10000) : dn (d + 1) 239 [am_i (wz a), am_i (wz b), am_i (wz c)] s = some (some (am_i (wz (a + max b c))), s) := by
  rw [dn_s (P := P_nl) (n := 4) (lo := [some (am_i (wz a)), some (am_i (wz b)), some (am_i (wz c)), none]) rfl rfl rfl]
  refine (m_iload_n (q := 1) rfl rfl rfl rfl).trans ?_
  refine (m_iload_n (q := 2) rfl rfl rfl rfl).trans ?_
  refine (m_iload_n (q := 3) rfl rfl rfl rfl).trans ?_
  refine (m_max (q := 6) rfl rfl rfl (rgb (by omega) (by omega)) (rgb (by omega) (by omega)) rfl).trans ?_
  refine (m_iadd (q := 7) rfl rfl rfl).trans ?_
  rw [wr_id (by omega) (by omega)]
  refine (m_istore_n (q := 8) (lo' := [some (am_i (wz a)), some (am_i (wz b)), some (am_i (wz c)), some (am_i (wz (a + max b c)))]) rfl rfl rfl rfl rfl).trans ?_
  refine (m_iconst (q := 9) rfl rfl rfl).trans ?_
  refine (m_iload_n (q := 10) rfl rfl rfl rfl).trans ?_
  refine ((m_cmpge (qt := 21) (qf := 13) rfl rfl rg0 (rgb (by omega) (by omega)) rfl rfl).trans (if_neg (by omega))).trans ?_
  refine (m_iload_n (q := 14) rfl rfl rfl rfl).trans ?_
  refine (m_ldci (q := 16) rfl rfl rfl).trans ?_
  refine ((m_cmpgt (qt := 21) (qf := 19) rfl rfl (rgb (by omega) (by omega)) ⟨by decide, by decide⟩ rfl rfl).trans (if_neg (by omega))).trans ?_
  refine (m_iload_n (q := 20) rfl rfl rfl rfl).trans ?_
  exact m_reti rfl rfl
abbrev P_cp3 : Nat → Option am_E := am_fy tb_J7_copyOf_6403c
theorem x_ana {z : Int} {i : Nat} {x : am_X} (h : P pc = some (ks, .anewarray i, ln, x)) (hk : am_kill ks lo = lo) (hq : pc + 3 = q) (hz : 0 ≤ z ∧ z ≤ 10000) : mr d P pc lo (am_i (wz z) :: st) s = mr d P q lo (am_r (some s.1.length) :: st) (s.1 ++ [.inr (.inr (x.1, z.toNat, fun _ => none))], s.2 + z.toNat) := by
  subst hq
  rw [mx h hk]
  have hr : rg z := rgb (by omega) (by omega)
  have e := wz_clamp hr
  show (if ¬ wz z < 0 ∧ (wz z).toNatClampNeg ≤ 65536 then _ else none) = _
  rw [if_pos ⟨by rw [← wz0, wz_lt hr rg0]; omega, by rw [e]; omega⟩, e]; rfl
theorem x_acmp_eq {r : Option Nat} {off : Int} {c : ACond} {x : am_X} (h : P pc = some (ks, .if_acmp c off, ln, x)) (hk : am_kill ks lo = lo) (hq : am_ae c (am_tg pc off) (pc + 3) = q) : mr d P pc lo (am_r r :: am_r r :: st) s = mr d P q lo st s := by
  subst hq
  rw [mx h hk]
  exact if_pos rfl
theorem lenR_of {h : List am_Ce} {a t m : Nat} {f : Nat → Option Nat} (h1 : h[a]? = some (.inr (.inr (t, m, f)))) : am_len h (some a) = some m := by
  unfold am_len; simp only [h1]
theorem x_cpy {m nn j : Nat} {z : Int} {r w : Option Nat} {a b c : Int32} {s' : am_S} (h : P pc = some (ks, .invokestatic j, ln, (m, nn, z))) (hk : am_kill ks lo = lo) (hq : pc + 3 = q) (hz : z.toNat % 16 = 8) (hs : Nat.ble ((st.map am_cat).sum) 8 = true) (hc : am_cpy s r a w b c = some s') : mr d P pc lo (am_i c :: am_i b :: am_r w :: am_i a :: am_r r :: st) s = mr d P q lo st s' := by
  subst hq; rw [mx h hk]
  show am_cal (dn d) (mr d P (pc + 3)) lo _ s (m, nn, z) = _
  unfold am_cal
  simp only [hz]
  show (if (st.map am_cat).sum ≤ 8 then (am_cpy s r a w b c).bind _ else none) = _
  rw [if_pos (Nat.le_of_ble_eq_true hs), hc]; rfl
theorem va_cpy0 {f : Nat → Option Nat} {on : Nat} : va_cpy f (fun _ => none) 0 0 on = fun k => if k < on then f k else none := by
  funext k
  unfold va_cpy
  by_cases c : k < on
  · simp [c]
  · simp [c]
theorem asg_ap {h : List am_Ce} {c : am_Ce} {t : Nat} {r : Option Nat} (hq : am_asg h t r = true) : am_asg (h ++ [c]) t r = true := by
  unfold am_asg at hq ⊢
  cases r with
  | none => rfl
  | some b =>
    simp only at hq ⊢
    cases hb : h[b]? with
    | none => rw [hb] at hq; simp at hq
    | some c => rw [hb] at hq; rw [ap_lt hb]; exact hq
theorem cp_ap {ea on m : Nat} {f : Nat → Option Nat} (he : s.1[ea]? = some (.inr (.inr (0, on, f)))) (h32 : 32 ≤ ea) (hon : on ≤ m) (hm : m ≤ 10000) (hL : 32 ≤ s.1.length) (hel : ∀ k, k < on → am_asg s.1 0 (f k) = true) : am_cpy (s.1 ++ [.inr (.inr (0, m, fun _ => none))], s.2 + m) (some ea) (wz 0) (some s.1.length) (wz 0) (wz (on : Int)) = some (s.1 ++ [.inr (.inr (0, m, fun k => if k < on then f k else none))], s.2 + m) := by
  have hr : rg (on : Int) := rgb (by omega) (by omega)
  have e : (wz (on : Int)).toNatClampNeg = on := by rw [wz_clamp hr]; omega
  have e0 : (wz 0).toNatClampNeg = 0 := by decide
  have hlt := (List.getElem?_eq_some_iff.mp he).1
  have hall : ((List.range on).all fun k => am_asg (s.1 ++ [.inr (.inr (0, m, fun _ => none))]) 0 (f (0 + k))) = true := by
    apply List.all_eq_true.mpr
    intro k hk
    rw [Nat.zero_add]
    exact asg_ap (hel k (List.mem_range.mp hk))
  unfold am_cpy
  simp only [ap_lt he, ap_at]
  rw [if_pos ⟨h32, hL, by omega, by decide, by decide, by rw [← wz0, wz_lt hr rg0]; omega⟩, e, e0, if_pos ⟨trivial, trivial, by omega, by omega, hall⟩, ap_set, va_cpy0]
theorem rw_cp3 {ea on : Nat} {f : Nat → Option Nat} {m : Int} (he : s.1[ea]? = some (.inr (.inr (0, on, f)))) (h32 : 32 ≤ ea) (hon : (on : Int) ≤ m) (hm : m ≤ 10000) (hL : 32 ≤ s.1.length) (hel : ∀ k, k < on → am_asg s.1 0 (f k) = true) : dn (d + 1) 236 [am_r (some ea), am_i (wz m), am_r (some 2)] s = some (some (am_r (some s.1.length)), (s.1 ++ [.inr (.inr (0, m.toNat, fun k => if k < on then f k else none))], s.2 + m.toNat)) := by
  rw [dn_s (P := P_cp3) (n := 4) (lo := [some (am_r (some ea)), some (am_i (wz m)), some (am_r (some 2)), none]) rfl rfl rfl]
  refine (m_aload_n (q := 1) rfl rfl rfl rfl).trans ?_
  refine (m_ldcr (q := 3) rfl rfl rfl).trans ?_
  refine (x_acmp_eq (q := 6) rfl rfl rfl).trans ?_
  refine (m_iload_n (q := 7) rfl rfl rfl rfl).trans ?_
  refine (x_ana (q := 10) rfl rfl rfl ⟨by omega, hm⟩).trans ?_
  refine (m_goto (q := 24) rfl rfl rfl).trans ?_
  refine (m_astore_n (q := 25) (lo' := [some (am_r (some ea)), some (am_i (wz m)), some (am_r (some 2)), some (am_r (some s.1.length))]) rfl rfl rfl rfl rfl).trans ?_
  refine (m_aload_n (q := 26) rfl rfl rfl rfl).trans ?_
  refine (m_iconst (q := 27) rfl rfl rfl).trans ?_
  refine (m_aload_n (q := 28) rfl rfl rfl rfl).trans ?_
  refine (m_iconst (q := 29) rfl rfl rfl).trans ?_
  refine (m_aload_n (q := 30) rfl rfl rfl rfl).trans ?_
  refine (x_len (q := 31) (z := (on : Int)) rfl rfl rfl (lenR_of (ap_lt he)) rfl).trans ?_
  refine (m_iload_n (q := 32) rfl rfl rfl rfl).trans ?_
  refine (m_min (q := 35) rfl rfl rfl (rgb (by omega) (by omega)) (rgb (by omega) (by omega)) rfl).trans ?_
  rw [Int.min_eq_left hon]
  refine (x_cpy (q := 38) rfl rfl rfl rfl rfl (cp_ap he h32 (m := m.toNat) (by omega) (by omega) hL hel)).trans ?_
  refine (m_aload_n (q := 39) rfl rfl rfl rfl).trans ?_
  exact m_retr rfl rfl
theorem x_cls {m nn j : Nat} {z : Int} {r : Option Nat} (h : P pc = some (ks, .invokevirtual j, ln, (m, nn, z))) (hk : am_kill ks lo = lo) (hq : pc + 3 = q) (hz : z.toNat % 16 = 7) (hs : Nat.ble ((st.map am_cat).sum) 8 = true) (ho : am_isO s.1 r = true) : mr d P pc lo (am_r r :: st) s = mr d P q lo (am_r (some 2) :: st) s := by
  subst hq; rw [mx h hk]
  show am_cal (dn d) (mr d P (pc + 3)) lo _ s (m, nn, z) = _
  unfold am_cal
  simp only [hz]
  show (if (st.map am_cat).sum ≤ 8 then (if am_isO s.1 r = true then _ else none) else none) = _
  rw [if_pos (Nat.le_of_ble_eq_true hs), if_pos ho]
theorem isO_of {h : List am_Ce} {a m : Nat} {f : Nat → Option Nat} (h1 : h[a]? = some (.inr (.inr (0, m, f)))) (h32 : 32 ≤ a) : am_isO h (some a) = true := by
  unfold am_isO; simp only [h1]; rw [Nat.ble_eq_true_of_le (show am_K ≤ a from h32)]; rfl
theorem x_pfr {j c k : Nat} {r v : Option Nat} {s' : am_S} (h : P pc = some (ks, .putfield j, ln, (c, k, 1))) (hk : am_kill ks lo = lo) (hq : pc + 3 = q) (hp : am_put s r c k (am_r v) = some s') : mr d P pc lo (am_r v :: am_r r :: st) s = mr d P q lo st s' := by
  subst hq; rw [mx h hk]
  simp [am_st, am_2r, hp]
theorem x_pfi {j c k : Nat} {r : Option Nat} {v : Int32} {s' : am_S} (h : P pc = some (ks, .putfield j, ln, (c, k, 0))) (hk : am_kill ks lo = lo) (hq : pc + 3 = q) (hp : am_put s r c k (am_i v) = some s') : mr d P pc lo (am_i v :: am_r r :: st) s = mr d P q lo st s' := by
  subst hq; rw [mx h hk]
  simp [am_st, am_ri, hp]
theorem x_aas {i : Int} {r v : Option Nat} {s' : am_S} {x : am_X} (h : P pc = some (ks, .aastore, ln, x)) (hk : am_kill ks lo = lo) (hq : pc + 1 = q) (hp : am_ras s r (wz i) v = some s') : mr d P pc lo (am_r v :: am_i (wz i) :: am_r r :: st) s = mr d P q lo st s' := by
  subst hq; rw [mx h hk]
  simp [am_st, am_rir, hp]
theorem ras_of {a t m : Nat} {f : Nat → Option Nat} {i : Int} {v : Option Nat} (h1 : s.1[a]? = some (.inr (.inr (t, m, f)))) (ha : 32 ≤ a) (h0 : 0 ≤ i) (hi : i < m) (hm : m ≤ 65536) (hv : am_asg s.1 t v = true) : am_ras s (some a) (wz i) v = some (s.1.set a (.inr (.inr (t, m, va_up f i.toNat v))), s.2) := by
  obtain ⟨e, q⟩ := ix_ok h0 hi hm
  unfold am_ras
  simp only [h1]
  rw [if_pos (show am_K ≤ a from ha), if_pos ⟨q, hv⟩, e]
theorem shrA : ∀ m : Fin 1024, o_shr (m.val : Int) 1 = (m.val : Int) / 2 := by decide +kernel
abbrev P_cp2 : Nat → Option am_E := am_fy tb_J7_copyOf_1904c
theorem rw_cp2 {ea on : Nat} {f : Nat → Option Nat} {m : Int} (he : s.1[ea]? = some (.inr (.inr (0, on, f)))) (h32 : 32 ≤ ea) (hon : (on : Int) ≤ m) (hm : m ≤ 10000) (hL : 32 ≤ s.1.length) (hel : ∀ k, k < on → am_asg s.1 0 (f k) = true) : dn (d + 2) 235 [am_r (some ea), am_i (wz m)] s = some (some (am_r (some s.1.length)), (s.1 ++ [.inr (.inr (0, m.toNat, fun k => if k < on then f k else none))], s.2 + m.toNat)) := by
  rw [dn_s (P := P_cp2) (n := 2) (lo := [some (am_r (some ea)), some (am_i (wz m))]) rfl rfl rfl]
  refine (m_aload_n (q := 1) rfl rfl rfl rfl).trans ?_
  refine (m_iload_n (q := 2) rfl rfl rfl rfl).trans ?_
  refine (m_aload_n (q := 3) rfl rfl rfl rfl).trans ?_
  refine (x_cls (q := 6) rfl rfl rfl rfl rfl (isO_of he h32)).trans ?_
  refine (x_cs (rk := 3) (as := [am_r (some ea), am_i (wz m), am_r (some 2)]) (rest := []) (q := 9) rfl rfl rfl rfl rfl rfl rfl rfl rfl).trans ?_
  rw [rw_cp3 he h32 hon hm hL hel]
  exact m_retr rfl rfl
abbrev P_gr1 : Nat → Option am_E := am_fy tb_Jx4a65c_grow_92f84
theorem rw_gr1a {la : Nat} {mc sz : Int32} (hl : s.1[la]? = some (.inl (0, [am_i mc, am_r (some 1), am_i sz]))) (h32 : 32 ≤ la) (h1 : s.1[1]? = some (.inr (.inr (0, 0, fun _ => none)))) : dn (d + 1) 227 [am_r (some la), am_i (wz 1)] s = some (some (am_r (some s.1.length)), ((s.1 ++ ([.inr (.inr (0, 10, fun _ => none))] : List am_Ce)).set la (.inl (0, [am_i mc, am_r (some s.1.length), am_i sz])), s.2 + 10)) := by
  rw [dn_s (P := P_gr1) (n := 4) (lo := [some (am_r (some la)), some (am_i (wz 1)), none, none]) rfl rfl rfl]
  refine (m_aload_n (q := 1) rfl rfl rfl rfl).trans ?_
  refine (x_gfr (q := 4) (v := some 1) rfl rfl rfl (gr_of hl rfl)).trans ?_
  refine (x_len (q := 5) (z := 0) rfl rfl rfl (lenR_of h1) rfl).trans ?_
  refine (m_istore_n (q := 6) (lo' := [some (am_r (some la)), some (am_i (wz 1)), some (am_i (wz 0)), none]) rfl rfl rfl rfl rfl).trans ?_
  refine (m_iload_n (q := 7) rfl rfl rfl rfl).trans ?_
  refine ((m_ifgt (qt := 20) (qf := 10) rfl rfl rg0 rfl rfl).trans (if_neg (by decide))).trans ?_
  refine (m_aload_n (q := 11) rfl rfl rfl rfl).trans ?_
  refine (x_gfr (q := 14) (v := some 1) rfl rfl rfl (gr_of hl rfl)).trans ?_
  refine (m_getstar (q := 17) rfl rfl rfl).trans ?_
  refine (x_acmp_eq (q := 45) rfl rfl rfl).trans ?_
  refine (m_aload_n (q := 46) rfl rfl rfl rfl).trans ?_
  refine (m_bipush (q := 48) rfl rfl rfl).trans ?_
  refine (m_iload_n (q := 49) rfl rfl rfl rfl).trans ?_
  refine (m_max (q := 52) rfl rfl rfl ⟨by decide, by decide⟩ ⟨by decide, by decide⟩ rfl).trans ?_
  refine (x_ana (q := 55) (z := 10) rfl rfl rfl ⟨by decide, by decide⟩).trans ?_
  refine (m_dup_x1 (q := 56) rfl rfl rfl rfl rfl).trans ?_
  refine (x_pfr (q := 59) rfl rfl rfl (put_of (ap_lt hl) h32 (show (1 : Nat) < 3 by decide))).trans ?_
  exact m_retr rfl rfl
theorem rw_gr1b {la ea cap : Nat} {mc sz : Int32} {f : Nat → Option Nat} (hl : s.1[la]? = some (.inl (0, [am_i mc, am_r (some ea), am_i sz]))) (h32 : 32 ≤ la) (he : s.1[ea]? = some (.inr (.inr (0, cap, f)))) (he32 : 32 ≤ ea) (hc : 0 < cap ∧ cap < 1024) (hel : ∀ k, k < cap → am_asg s.1 0 (f k) = true) : dn (d + 3) 227 [am_r (some la), am_i (wz ((cap : Int) + 1))] s = some (some (am_r (some s.1.length)), ((s.1 ++ ([.inr (.inr (0, cap + max 1 (cap / 2), fun k => if k < cap then f k else none))] : List am_Ce)).set la (.inl (0, [am_i mc, am_r (some s.1.length), am_i sz])), s.2 + (cap + max 1 (cap / 2)))) := by
  have hr : rg (cap : Int) := rgb (by omega) (by omega)
  have hlt := (List.getElem?_eq_some_iff.mp he).1
  have em : ((cap : Int) + max 1 ((cap : Int) / 2)).toNat = cap + max 1 (cap / 2) := by omega
  rw [dn_s (P := P_gr1) (n := 4) (lo := [some (am_r (some la)), some (am_i (wz ((cap : Int) + 1))), none, none]) rfl rfl rfl]
  refine (m_aload_n (q := 1) rfl rfl rfl rfl).trans ?_
  refine (x_gfr (q := 4) (v := some ea) rfl rfl rfl (gr_of hl rfl)).trans ?_
  refine (x_len (q := 5) (z := (cap : Int)) rfl rfl rfl (lenR_of he) rfl).trans ?_
  refine (m_istore_n (q := 6) (lo' := [some (am_r (some la)), some (am_i (wz ((cap : Int) + 1))), some (am_i (wz (cap : Int))), none]) rfl rfl rfl rfl rfl).trans ?_
  refine (m_iload_n (q := 7) rfl rfl rfl rfl).trans ?_
  refine ((m_ifgt (qt := 20) (qf := 10) rfl rfl hr rfl rfl).trans (if_pos (by omega))).trans ?_
  refine (m_iload_n (q := 21) rfl rfl rfl rfl).trans ?_
  refine (m_iload_n (q := 22) rfl rfl rfl rfl).trans ?_
  refine (m_iload_n (q := 23) rfl rfl rfl rfl).trans ?_
  refine (m_isub (q := 24) rfl rfl rfl).trans ?_
  refine (m_iload_n (q := 25) rfl rfl rfl rfl).trans ?_
  refine (m_iconst (q := 26) rfl rfl rfl).trans ?_
  refine (m_ishr (q := 27) rfl rfl rfl).trans ?_
  rw [show (cap : Int) + 1 - cap = 1 by omega, show wr 1 = 1 by decide, shrA ⟨cap, hc.2⟩]
  refine (x_cs (rk := 1) (as := [am_i (wz (cap : Int)), am_i (wz 1), am_i (wz ((cap : Int) / 2))]) (rest := []) (q := 30) rfl rfl rfl rfl rfl rfl rfl rfl rfl).trans ?_
  rw [rw_nl (cap : Int) 1 ((cap : Int) / 2) (by omega) (by omega) (by omega)]
  refine (m_istore_n (q := 31) (lo' := [some (am_r (some la)), some (am_i (wz ((cap : Int) + 1))), some (am_i (wz (cap : Int))), some (am_i (wz ((cap : Int) + max 1 ((cap : Int) / 2))))]) rfl rfl rfl rfl rfl).trans ?_
  refine (m_aload_n (q := 32) rfl rfl rfl rfl).trans ?_
  refine (m_aload_n (q := 33) rfl rfl rfl rfl).trans ?_
  refine (x_gfr (q := 36) (v := some ea) rfl rfl rfl (gr_of hl rfl)).trans ?_
  refine (m_iload_n (q := 37) rfl rfl rfl rfl).trans ?_
  refine (x_cs (rk := 3) (as := [am_r (some ea), am_i (wz ((cap : Int) + max 1 ((cap : Int) / 2)))]) (rest := [am_r (some la)]) (q := 40) rfl rfl rfl rfl rfl rfl rfl rfl rfl).trans ?_
  rw [rw_cp2 he he32 (by omega) (by omega) (by omega) hel, em]
  refine (m_dup_x1 (q := 41) rfl rfl rfl rfl rfl).trans ?_
  refine (x_pfr (q := 44) rfl rfl rfl (put_of (ap_lt hl) h32 (show (1 : Nat) < 3 by decide))).trans ?_
  exact m_retr rfl rfl
/-- the first array, and a larger one -/
abbrev cA0 : am_Ce := .inr (.inr (0, 10, fun _ => none))
abbrev cA1 (cap : Nat) (f : Nat → Option Nat) : am_Ce := .inr (.inr (0, cap + max 1 (cap / 2), fun k => if k < cap then f k else none))
abbrev P_gr0 : Nat → Option am_E := am_fy tb_Jx4a65c_grow_d5877
theorem rw_gr0a {la : Nat} {mc : Int32} (hl : s.1[la]? = some (.inl (0, [am_i mc, am_r (some 1), am_i (wz 0)]))) (h32 : 32 ≤ la) (h1 : s.1[1]? = some (.inr (.inr (0, 0, fun _ => none)))) : dn (d + 2) 228 [am_r (some la)] s = some (some (am_r (some s.1.length)), ((s.1 ++ [cA0]).set la (.inl (0, [am_i mc, am_r (some s.1.length), am_i (wz 0)])), s.2 + 10)) := by
  rw [dn_s (P := P_gr0) (n := 1) (lo := [some (am_r (some la))]) rfl rfl rfl]
  refine (m_aload_n (q := 1) rfl rfl rfl rfl).trans ?_
  refine (m_aload_n (q := 2) rfl rfl rfl rfl).trans ?_
  refine (x_gfi (q := 5) (v := wz 0) rfl rfl rfl (gi_of hl rfl)).trans ?_
  refine (m_iconst (q := 6) rfl rfl rfl).trans ?_
  refine (m_iadd (q := 7) rfl rfl rfl).trans ?_
  refine (x_cv (rk := 3) (r := some la) (as := [am_i (wz 1)]) (rest := []) (q := 10) rfl rfl rfl rfl rfl rfl rfl rfl rfl rfl (is_of hl)).trans ?_
  rw [rw_gr1a hl h32 h1]
  exact m_retr rfl rfl
theorem rw_gr0b {la ea cap : Nat} {mc : Int32} {f : Nat → Option Nat} (hl : s.1[la]? = some (.inl (0, [am_i mc, am_r (some ea), am_i (wz (cap : Int))]))) (h32 : 32 ≤ la) (he : s.1[ea]? = some (.inr (.inr (0, cap, f)))) (he32 : 32 ≤ ea) (hc : 0 < cap ∧ cap < 1024) (hel : ∀ k, k < cap → am_asg s.1 0 (f k) = true) : dn (d + 4) 228 [am_r (some la)] s = some (some (am_r (some s.1.length)), ((s.1 ++ [cA1 cap f]).set la (.inl (0, [am_i mc, am_r (some s.1.length), am_i (wz (cap : Int))])), s.2 + (cap + max 1 (cap / 2)))) := by
  rw [dn_s (P := P_gr0) (n := 1) (lo := [some (am_r (some la))]) rfl rfl rfl]
  refine (m_aload_n (q := 1) rfl rfl rfl rfl).trans ?_
  refine (m_aload_n (q := 2) rfl rfl rfl rfl).trans ?_
  refine (x_gfi (q := 5) (v := wz (cap : Int)) rfl rfl rfl (gi_of hl rfl)).trans ?_
  refine (m_iconst (q := 6) rfl rfl rfl).trans ?_
  refine (m_iadd (q := 7) rfl rfl rfl).trans ?_
  rw [wr_id (by omega) (by omega)]
  refine (x_cv (rk := 3) (r := some la) (as := [am_i (wz ((cap : Int) + 1))]) (rest := []) (q := 10) rfl rfl rfl rfl rfl rfl rfl rfl rfl rfl (is_of hl)).trans ?_
  rw [rw_gr1b hl h32 he he32 hc hel]
  exact m_retr rfl rfl
abbrev P_ad3 : Nat → Option am_E := am_fy tb_Jx4a65c_add_72be8
theorem set_at {h : List am_Ce} {a : Nat} {c c' : am_Ce} (e : h[a]? = some c) : (h.set a c')[a]? = some c' := List.getElem?_set_self (List.getElem?_eq_some_iff.mp e).1
theorem set_ne {h : List am_Ce} {a b : Nat} {c' : am_Ce} (n : a ≠ b) : (h.set a c')[b]? = h[b]? := List.getElem?_set_ne n
/-- the end of add: the element, then the size -/
theorem rw_ad3z {la L cap : Nat} {mc : Int32} {sz : Int} {x : Option Nat} {f : Nat → Option Nat} (hl : s.1[la]? = some (.inl (0, [am_i mc, am_r (some L), am_i (wz sz)]))) (h32 : 32 ≤ la) (he : s.1[L]? = some (.inr (.inr (0, cap, f)))) (he32 : 32 ≤ L) (hz : 0 ≤ sz ∧ sz < cap) (hc : cap ≤ 65536) (hx : am_asg s.1 0 x = true) (hne : L ≠ la) : mr d P_ad3 11 [some (am_r (some la)), some (am_r x), some (am_r (some L)), some (am_i (wz sz))] [] s = some (none, ((s.1.set L (.inr (.inr (0, cap, va_up f sz.toNat x)))).set la (.inl (0, [am_i mc, am_r (some L), am_i (wz (sz + 1))])), s.2)) := by
  refine (m_aload_n (q := 12) rfl rfl rfl rfl).trans ?_
  refine (m_iload_n (q := 13) rfl rfl rfl rfl).trans ?_
  refine (m_aload_n (q := 14) rfl rfl rfl rfl).trans ?_
  refine (x_aas (q := 15) rfl rfl rfl (ras_of he he32 hz.1 hz.2 (by omega) hx)).trans ?_
  refine (m_aload_n (q := 16) rfl rfl rfl rfl).trans ?_
  refine (m_iload_n (q := 17) rfl rfl rfl rfl).trans ?_
  refine (m_iconst (q := 18) rfl rfl rfl).trans ?_
  refine (m_iadd (q := 19) rfl rfl rfl).trans ?_
  rw [wr_id (by omega) (by omega)]
  refine (x_pfi (q := 22) rfl rfl rfl (put_of ((set_ne hne).trans hl) h32 (show (2 : Nat) < 3 by decide))).trans ?_
  exact m_retv rfl rfl
theorem rw_ad3n {la ea cap : Nat} {mc : Int32} {sz : Int} {x : Option Nat} {f : Nat → Option Nat} (hl : s.1[la]? = some (.inl (0, [am_i mc, am_r (some ea), am_i (wz sz)]))) (h32 : 32 ≤ la) (he : s.1[ea]? = some (.inr (.inr (0, cap, f)))) (he32 : 32 ≤ ea) (hz : 0 ≤ sz ∧ sz < cap) (hc : cap ≤ 65536) (hx : am_asg s.1 0 x = true) (hne : ea ≠ la) : dn (d + 1) 232 [am_r (some la), am_r x, am_r (some ea), am_i (wz sz)] s = some (none, ((s.1.set ea (.inr (.inr (0, cap, va_up f sz.toNat x)))).set la (.inl (0, [am_i mc, am_r (some ea), am_i (wz (sz + 1))])), s.2)) := by
  rw [dn_s (P := P_ad3) (n := 4) (lo := [some (am_r (some la)), some (am_r x), some (am_r (some ea)), some (am_i (wz sz))]) rfl rfl rfl]
  refine (m_iload_n (q := 1) rfl rfl rfl rfl).trans ?_
  refine (m_aload_n (q := 2) rfl rfl rfl rfl).trans ?_
  refine (x_len (q := 3) (z := (cap : Int)) rfl rfl rfl (lenR_of he) rfl).trans ?_
  refine ((m_cmpne (qt := 11) (qf := 6) rfl rfl (rgb (by omega) (by omega)) (rgb (by omega) (by omega)) rfl rfl).trans (by first | exact if_pos (by omega) | exact if_neg (by omega))).trans ?_
  exact rw_ad3z hl h32 he he32 hz hc hx hne
theorem asg_set {h : List am_Ce} {t la : Nat} {o : Nat × List am_V} {fs : List am_V} {r : Option Nat} (hl : h[la]? = some (.inl o)) (hq : am_asg h t r = true) : am_asg (h.set la (.inl (o.1, fs))) t r = true := by
  unfold am_asg at hq ⊢
  cases r with
  | none => rfl
  | some b =>
    simp only at hq ⊢
    by_cases e : la = b
    · subst e
      rw [set_at hl]; rw [hl] at hq; exact hq
    · rw [set_ne e]; exact hq
theorem set3 {h : List am_Ce} {la : Nat} {a a' c c' : am_Ce} (hl : la < h.length) : (((h ++ [c]).set la a).set h.length c').set la a' = h.set la a' ++ [c'] := by
  rw [List.set_append_left _ _ hl]
  have e : (h.set la a).length = h.length := List.length_set
  rw [show (h.set la a ++ [c]).set h.length c' = h.set la a ++ [c'] by rw [← e]; exact ap_set]
  rw [List.set_append_left _ _ (by omega), List.set_set]
theorem rw_ad3a {la : Nat} {mc : Int32} {x : Option Nat} (hl : s.1[la]? = some (.inl (0, [am_i mc, am_r (some 1), am_i (wz 0)]))) (h32 : 32 ≤ la) (h1 : s.1[1]? = some (.inr (.inr (0, 0, fun _ => none)))) (hx : am_asg s.1 0 x = true) : dn (d + 3) 232 [am_r (some la), am_r x, am_r (some 1), am_i (wz 0)] s = some (none, (s.1.set la (.inl (0, [am_i mc, am_r (some s.1.length), am_i (wz 1)])) ++ [.inr (.inr (0, 10, va_up (fun _ => none) 0 x))], s.2 + 10)) := by
  have hlt := (List.getElem?_eq_some_iff.mp hl).1
  rw [dn_s (P := P_ad3) (n := 4) (lo := [some (am_r (some la)), some (am_r x), some (am_r (some 1)), some (am_i (wz 0))]) rfl rfl rfl]
  refine (m_iload_n (q := 1) rfl rfl rfl rfl).trans ?_
  refine (m_aload_n (q := 2) rfl rfl rfl rfl).trans ?_
  refine (x_len (q := 3) (z := 0) rfl rfl rfl (lenR_of h1) rfl).trans ?_
  refine ((m_cmpne (qt := 11) (qf := 6) rfl rfl rg0 rg0 rfl rfl).trans (if_pos rfl)).trans ?_
  refine (m_aload_n (q := 7) rfl rfl rfl rfl).trans ?_
  refine (x_cv (rk := 3) (r := some la) (as := []) (rest := []) (q := 10) rfl rfl rfl rfl rfl rfl rfl rfl rfl rfl (is_of hl)).trans ?_
  rw [rw_gr0a hl h32 h1]
  refine (m_astore_n (q := 11) (lo' := [some (am_r (some la)), some (am_r x), some (am_r (some s.1.length)), some (am_i (wz 0))]) rfl rfl rfl rfl rfl).trans ?_
  have hl' : (s.1 ++ [cA0])[la]? = some (.inl (0, [am_i mc, am_r (some 1), am_i (wz 0)])) := ap_lt hl
  have hn : la ≠ s.1.length := by omega
  rw [rw_ad3z (cap := 10) (f := fun _ => none) (mc := mc) (set_at hl') h32 ((set_ne hn).trans ap_at) (by omega) ⟨by decide, by decide⟩ (by decide) (asg_set hl' (asg_ap hx)) hn.symm]
  rw [set3 hlt]; rfl
theorem rw_ad3b {la ea cap : Nat} {mc : Int32} {x : Option Nat} {f : Nat → Option Nat} (hl : s.1[la]? = some (.inl (0, [am_i mc, am_r (some ea), am_i (wz (cap : Int))]))) (h32 : 32 ≤ la) (he : s.1[ea]? = some (.inr (.inr (0, cap, f)))) (he32 : 32 ≤ ea) (hc : 0 < cap ∧ cap < 1024) (hel : ∀ k, k < cap → am_asg s.1 0 (f k) = true) (hx : am_asg s.1 0 x = true) : dn (d + 5) 232 [am_r (some la), am_r x, am_r (some ea), am_i (wz (cap : Int))] s = some (none, (s.1.set la (.inl (0, [am_i mc, am_r (some s.1.length), am_i (wz ((cap : Int) + 1))])) ++ [.inr (.inr (0, cap + max 1 (cap / 2), va_up (fun k => if k < cap then f k else none) cap x))], s.2 + (cap + max 1 (cap / 2)))) := by
  have hlt := (List.getElem?_eq_some_iff.mp hl).1
  have hr : rg (cap : Int) := rgb (by omega) (by omega)
  rw [dn_s (P := P_ad3) (n := 4) (lo := [some (am_r (some la)), some (am_r x), some (am_r (some ea)), some (am_i (wz (cap : Int)))]) rfl rfl rfl]
  refine (m_iload_n (q := 1) rfl rfl rfl rfl).trans ?_
  refine (m_aload_n (q := 2) rfl rfl rfl rfl).trans ?_
  refine (x_len (q := 3) (z := (cap : Int)) rfl rfl rfl (lenR_of he) rfl).trans ?_
  refine ((m_cmpne (qt := 11) (qf := 6) rfl rfl hr hr rfl rfl).trans (if_pos rfl)).trans ?_
  refine (m_aload_n (q := 7) rfl rfl rfl rfl).trans ?_
  refine (x_cv (rk := 3) (r := some la) (as := []) (rest := []) (q := 10) rfl rfl rfl rfl rfl rfl rfl rfl rfl rfl (is_of hl)).trans ?_
  rw [rw_gr0b hl h32 he he32 hc hel]
  refine (m_astore_n (q := 11) (lo' := [some (am_r (some la)), some (am_r x), some (am_r (some s.1.length)), some (am_i (wz (cap : Int)))]) rfl rfl rfl rfl rfl).trans ?_
  have hl' : (s.1 ++ [cA1 cap f])[la]? = some (.inl (0, [am_i mc, am_r (some ea), am_i (wz (cap : Int))])) := ap_lt hl
  have hn : la ≠ s.1.length := by omega
  rw [rw_ad3z (cap := cap + max 1 (cap / 2)) (f := fun k => if k < cap then f k else none) (mc := mc) (set_at hl') h32 ((set_ne hn).trans ap_at) (by omega) ⟨by omega, by omega⟩ (by omega) (asg_set hl' (asg_ap hx)) hn.symm]
  rw [set3 hlt]; rfl
abbrev P_add : Nat → Option am_E := am_fy tb_Jx4a65c_add_9ea2d
theorem rw_add0 {la : Nat} {mc sz : Int} {ra x : Option Nat} {s' : am_S} (hl : s.1[la]? = some (.inl (0, [am_i (wz mc), am_r ra, am_i (wz sz)]))) (h32 : 32 ≤ la) (h : dn d 232 [am_r (some la), am_r x, am_r ra, am_i (wz sz)] (s.1.set la (.inl (0, [am_i (wz (wr (mc + 1))), am_r ra, am_i (wz sz)])), s.2) = some (none, s')) : dn (d + 1) 233 [am_r (some la), am_r x] s = some (some (am_i (wz 1)), s') := by
  rw [dn_s (P := P_add) (n := 2) (lo := [some (am_r (some la)), some (am_r x)]) rfl rfl rfl]
  refine (m_aload_n (q := 1) rfl rfl rfl rfl).trans ?_
  refine (m_dup (q := 2) rfl rfl rfl rfl).trans ?_
  refine (x_gfi (q := 5) (v := wz mc) rfl rfl rfl (gi_of hl rfl)).trans ?_
  refine (m_iconst (q := 6) rfl rfl rfl).trans ?_
  refine (m_iadd (q := 7) rfl rfl rfl).trans ?_
  refine (x_pfi (q := 10) rfl rfl rfl (put_of hl h32 (show (0 : Nat) < 3 by decide))).trans ?_
  have hl' := set_at (c' := .inl (0, [am_i (wz (wr (mc + 1))), am_r ra, am_i (wz sz)])) hl
  refine (m_aload_n (q := 11) rfl rfl rfl rfl).trans ?_
  refine (m_aload_n (q := 12) rfl rfl rfl rfl).trans ?_
  refine (m_aload_n (q := 13) rfl rfl rfl rfl).trans ?_
  refine (x_gfr (q := 16) (v := ra) rfl rfl rfl (gr_of hl' rfl)).trans ?_
  refine (m_aload_n (q := 17) rfl rfl rfl rfl).trans ?_
  refine (x_gfi (q := 20) (v := wz sz) rfl rfl rfl (gi_of hl' rfl)).trans ?_
  refine (x_cv (rk := 0) (r := some la) (as := [am_r x, am_r ra, am_i (wz sz)]) (rest := []) (q := 23) rfl rfl rfl rfl rfl rfl rfl rfl rfl rfl (is_of hl')).trans ?_
  refine (congrArg (fun z => am_ans 0 z (fun st s => mr d P_add 23 [some (am_r (some la)), some (am_r x)] st s) []) h).trans ?_
  refine (m_iconst (q := 24) rfl rfl rfl).trans ?_
  exact m_retb rfl rfl ⟨by decide, by decide⟩
end Ad
