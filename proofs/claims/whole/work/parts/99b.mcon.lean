/-! The reference reads what stands behind 'if'. -/
section Mco
variable {n : Nat} {A : aA} {D D' : aD} {T : Int → Int} {N a : Int}
abbrev P_X12_condition : Nat → Option am_E := am_fy tb_X12_condition
set_option maxRecDepth 100000 in
theorem rl_X12_condition {n : Nat} {A : aA} {D D' : aD} {c : Nat} (hc : 3 ≤ c) (a1 : Int) (h1 : rg a1) {x : Int} (hp : (0 ≤ a1 ∧ a1 < 270) ∧ (p_X12_takes (up D 98 a1 (-1)) (26982 : Int64)) ∧ (if w_tk (up D 98 a1 (-1)) (26982 : Int64) = 0 then (x = 1 ∧ D' = (u_tk (up D 98 a1 (-1)) (26982 : Int64))) else (∃ x12 : Int, ∃ D13 : aD, Ev (n + 1) c 160 [am_r (some 70)] A (up (u_tk (up D 98 a1 (-1)) (26982 : Int64)) 70 31 0) (ri x12) A D13 ∧ (if x12 = (-1) then (x = 0 ∧ D' = (up D13 98 a1 x12)) else (x = 1 ∧ D' = (up D13 98 a1 x12)))))) : Ev (n + 1) (c + 1) 165 [am_r (some 70), am_i (wz a1)] A D (ri x) A D' := by
  refine Ev_of (c := c) (P := P_X12_condition) (lo := [some (am_r (some 70)), some (am_i (wz a1))]) rfl rfl rfl (fun d hd s hr => ?_)
  refine ok (m_aload_n (q := 1) rfl rfl rfl rfl) ?_
  refine ok (m_gfc (q := 4) rfl rfl rfl hr rfl rfl rfl) ?_
  refine ok (m_iload_n (q := 5) rfl rfl rfl rfl) ?_
  refine ok (m_iconst (q := 6) rfl rfl rfl) ?_
  obtain ⟨g3, hp⟩ := hp
  refine oke (e_ias (q := 7) rfl rfl rfl hr rfl rfl g3 ⟨by decide, by decide⟩) (fun s2 r1 => ?_)
  refine ok (m_aload_n (q := 8) rfl rfl rfl rfl) ?_
  refine ok (m_ldc2_w (q := 11) rfl rfl rfl) ?_
  obtain ⟨g6, hp⟩ := hp
  refine oke (e_ci (x_cv (q := 14) rfl rfl rfl rfl rfl rfl rfl rfl rfl rfl (is_st r1 rfl rfl)) (ev_tk (D := (up D 98 a1 (-1))) (26982 : Int64) g6) (Nat.le_trans (by decide) (Nat.le_trans hc hd)) r1) (fun s4 r5 => ?_)
  refine okc (m_ifne (qt := 19) (qf := 17) rfl rfl (Ev_rg (ev_tk (D := (up D 98 a1 (-1))) (26982 : Int64) g6) r1) rfl rfl) (fun c7 => ?_) (fun c7 => ?_)
  · replace hp := ip c7 hp
    refine ok (m_iconst (q := 18) rfl rfl rfl) ?_
    exact ok (m_retb rfl rfl ⟨by decide, by decide⟩) (ok_iq r5 ⟨by decide, by decide⟩ hp)
  · replace hp := iq c7 hp
    refine ok (m_aload_n (q := 20) rfl rfl rfl rfl) ?_
    refine ok (m_iconst (q := 21) rfl rfl rfl) ?_
    refine oke (e_pfs (q := 24) rfl rfl rfl r5 rfl rfl rfl rfl ⟨by decide, by decide⟩) (fun s9 r8 => ?_)
    refine ok (m_aload_n (q := 25) rfl rfl rfl rfl) ?_
    refine ok (m_gfc (q := 28) rfl rfl rfl r8 rfl rfl rfl) ?_
    refine ok (m_iload_n (q := 29) rfl rfl rfl rfl) ?_
    refine ok (m_aload_n (q := 30) rfl rfl rfl rfl) ?_
    obtain ⟨x12, D13, e14, hp⟩ := hp
    refine oke (e_ci (x_cv (q := 33) rfl rfl rfl rfl rfl rfl rfl rfl rfl rfl (is_st r8 rfl rfl)) e14 hd r8) (fun s10 r11 => ?_)
    refine oke (e_ias (q := 34) rfl rfl rfl r11 rfl rfl g3 (Ev_rg e14 r8)) (fun s16 r15 => ?_)
    refine ok (m_aload_n (q := 35) rfl rfl rfl rfl) ?_
    refine ok (m_gfc (q := 38) rfl rfl rfl r15 rfl rfl rfl) ?_
    refine ok (m_iload_n (q := 39) rfl rfl rfl rfl) ?_
    refine ok (m_ials (q := 40) (w := x12) rfl rfl rfl r15 rfl rfl g3 up_eq) ?_
    refine ok (m_iconst (q := 41) rfl rfl rfl) ?_
    refine okc (m_cmpeq (qt := 48) (qf := 44) rfl rfl (rg_c (Rp_rg r15 98 a1) up_eq) ⟨by decide, by decide⟩ rfl rfl) (fun c17 => ?_) (fun c17 => ?_)
    · replace hp := ip c17 hp
      refine ok (m_iconst (q := 49) rfl rfl rfl) ?_
      exact ok (m_retb rfl rfl ⟨by decide, by decide⟩) (ok_iq r15 ⟨by decide, by decide⟩ hp)
    · replace hp := iq c17 hp
      refine ok (m_iconst (q := 45) rfl rfl rfl) ?_
      refine ok (m_goto (q := 49) rfl rfl rfl) ?_
      exact ok (m_retb rfl rfl ⟨by decide, by decide⟩) (ok_iq r15 ⟨by decide, by decide⟩ hp)
abbrev P_X12_ofPost : Nat → Option am_E := am_fy tb_X12_ofPost
noncomputable def v_X12_ofPost (D : aD) (a1 : Int) : Int := if v_X12_postHere D = (-1) then 0 else if v_X12_plain (up (u_X12_postHere D) 95 a1 (v_X12_postHere D)) a1 = 0 then 0 else 1
noncomputable def u_X12_ofPost (D : aD) (a1 : Int) : aD := if v_X12_postHere D = (-1) then (up (u_X12_postHere D) 95 a1 (v_X12_postHere D)) else if v_X12_plain (up (u_X12_postHere D) 95 a1 (v_X12_postHere D)) a1 = 0 then (u_X12_plain (up (u_X12_postHere D) 95 a1 (v_X12_postHere D)) a1) else (u_X12_plain (up (u_X12_postHere D) 95 a1 (v_X12_postHere D)) a1)
def p_X12_ofPost (D : aD) (a1 : Int) : Prop := (p_X12_postHere D) ∧ (0 ≤ a1 ∧ a1 < 270) ∧ (if v_X12_postHere D = (-1) then True else (p_X12_plain (up (u_X12_postHere D) 95 a1 (v_X12_postHere D)) a1))
theorem b_X12_ofPost (D : aD) (a1 : Int) : 0 ≤ v_X12_ofPost D a1 ∧ v_X12_ofPost D a1 ≤ 1 := b01 (fun c7 => ⟨by decide, by decide⟩) (fun c7 => b01 (fun c11 => ⟨by decide, by decide⟩) (fun c11 => ⟨by decide, by decide⟩))
set_option maxRecDepth 100000 in
theorem ev_X12_ofPost {n : Nat} {A : aA} {D : aD} (a1 : Int) (h1 : rg a1) (hp : p_X12_ofPost D a1) : Ev (n + 1) 5 168 [am_r (some 70), am_i (wz a1)] A D (ri (v_X12_ofPost D a1)) A (u_X12_ofPost D a1) := by
  unfold p_X12_ofPost at hp
  unfold v_X12_ofPost u_X12_ofPost
  refine Ev_of (c := 4) (P := P_X12_ofPost) (lo := [some (am_r (some 70)), some (am_i (wz a1))]) rfl rfl rfl (fun d hd s hr => ?_)
  refine ok (m_aload_n (q := 1) rfl rfl rfl rfl) ?_
  refine ok (m_gfc (q := 4) rfl rfl rfl hr rfl rfl rfl) ?_
  refine ok (m_iload_n (q := 5) rfl rfl rfl rfl) ?_
  refine ok (m_aload_n (q := 6) rfl rfl rfl rfl) ?_
  obtain ⟨g3, hp⟩ := hp
  refine oke (e_ci (x_cv (q := 9) rfl rfl rfl rfl rfl rfl rfl rfl rfl rfl (is_st hr rfl rfl)) (ev_X12_postHere (D := D) g3) (Nat.le_trans (by decide) hd) hr) (fun s1 r2 => ?_)
  obtain ⟨g6, hp⟩ := hp
  refine oke (e_ias (q := 10) rfl rfl rfl r2 rfl rfl g6 (Ev_rg (ev_X12_postHere (D := D) g3) hr)) (fun s5 r4 => ?_)
  refine ok (m_aload_n (q := 11) rfl rfl rfl rfl) ?_
  refine ok (m_gfc (q := 14) rfl rfl rfl r4 rfl rfl rfl) ?_
  refine ok (m_iload_n (q := 15) rfl rfl rfl rfl) ?_
  refine ok (m_ials (q := 16) (w := v_X12_postHere D) rfl rfl rfl r4 rfl rfl g6 up_eq) ?_
  refine ok (m_iconst (q := 17) rfl rfl rfl) ?_
  refine okf (m_cmpeq (qt := 32) (qf := 20) rfl rfl (rg_c (Rp_rg r4 95 a1) up_eq) ⟨by decide, by decide⟩ rfl rfl) (fun c7 => ?_) (fun c7 => ?_)
  · refine ok (m_iconst (q := 33) rfl rfl rfl) ?_
    exact ok (m_retb rfl rfl ⟨by decide, by decide⟩) (ok_i r4 ⟨by decide, by decide⟩)
  · replace hp := iq c7 hp
    refine ok (m_aload_n (q := 21) rfl rfl rfl rfl) ?_
    refine ok (m_iload_n (q := 22) rfl rfl rfl rfl) ?_
    have g10 := hp
    refine oke (e_ci (x_cv (q := 25) rfl rfl rfl rfl rfl rfl rfl rfl rfl rfl (is_st r4 rfl rfl)) (ev_X12_plain (D := (up (u_X12_postHere D) 95 a1 (v_X12_postHere D))) a1 h1 g10) (Nat.le_trans (by decide) hd) r4) (fun s8 r9 => ?_)
    refine okf (m_ifeq (qt := 32) (qf := 28) rfl rfl (Ev_rg (ev_X12_plain (D := (up (u_X12_postHere D) 95 a1 (v_X12_postHere D))) a1 h1 g10) r4) rfl rfl) (fun c11 => ?_) (fun c11 => ?_)
    · refine ok (m_iconst (q := 33) rfl rfl rfl) ?_
      exact ok (m_retb rfl rfl ⟨by decide, by decide⟩) (ok_i r9 ⟨by decide, by decide⟩)
    · refine ok (m_iconst (q := 29) rfl rfl rfl) ?_
      refine ok (m_goto (q := 33) rfl rfl rfl) ?_
      exact ok (m_retb rfl rfl ⟨by decide, by decide⟩) (ok_i r9 ⟨by decide, by decide⟩)
theorem fl_X12_ofPost (D : aD) (a1 : Int) (t : Nat) (i : Int) (ht : Nat.ble t 49 = true) : u_X12_ofPost D a1 (900 + t) i = D (900 + t) i := fl_if ((up_c (fl_ne rfl ht)).trans ((fl_X12_postHere D t i ht).trans (rfl))) (fl_if ((fl_X12_plain (up (u_X12_postHere D) 95 a1 (v_X12_postHere D)) a1 t i ht).trans ((up_c (fl_ne rfl ht)).trans ((fl_X12_postHere D t i ht).trans (rfl)))) ((fl_X12_plain (up (u_X12_postHere D) 95 a1 (v_X12_postHere D)) a1 t i ht).trans ((up_c (fl_ne rfl ht)).trans ((fl_X12_postHere D t i ht).trans (rfl)))))
def wIf : List Int := [105, 102]
/-- what the reading of statement k may change -/
def Sfr (k c0 : Int) (D D' : aD) : Prop := (∀ c, c ≠ 70 → (c < 94 ∨ 104 < c) → D' c = D c) ∧ (∀ i, i ≠ 27 → i ≠ 30 → i ≠ 31 → i ≠ 49 → i ≠ 50 → D' 70 i = D 70 i) ∧ (∀ c, 94 ≤ c → c ≤ 98 → ∀ i, i ≠ k → D' c i = D c i) ∧ ∀ c, 99 ≤ c → c ≤ 104 → ∀ i, i < c0 → D' c i = D c i
theorem Sfr.refl (k c0 : Int) (D : aD) : Sfr k c0 D D := ⟨fun _ _ _ => rfl, fun _ _ _ _ _ _ => rfl, fun _ _ _ _ _ => rfl, fun _ _ _ _ _ => rfl⟩
theorem Sfr.trans {k c0 : Int} {D1 D2 D3 : aD} (h : Sfr k c0 D1 D2) (g : Sfr k c0 D2 D3) : Sfr k c0 D1 D3 := ⟨fun c a b => (g.1 c a b).trans (h.1 c a b), fun i a b c d e => (g.2.1 i a b c d e).trans (h.2.1 i a b c d e), fun c a b i hi => (g.2.2.1 c a b i hi).trans (h.2.2.1 c a b i hi), fun c a b i hi => (g.2.2.2 c a b i hi).trans (h.2.2.2 c a b i hi)⟩
theorem Mfr.sfr {k c0 : Int} (h : Mfr c0 D D') : Sfr k c0 D D' := ⟨fun c a b => h.1 c a (by omega), h.2.1, fun c a b i _ => by rw [h.1 c (by omega) (Or.inl (by omega))], h.2.2⟩
theorem Mfl.sfr {k c0 : Int} (h : Mfl D D') : Sfr k c0 D D' := (h.fr c0).sfr
theorem Sfr.ups {k c0 : Int} {c : Nat} {v : Int} (h : Sfr k c0 D D') (hc : 94 ≤ c ∧ c ≤ 98) : Sfr k c0 D (up D' c k v) :=
  ⟨fun c' a b => by rw [up_cf (by omega)]; exact h.1 c' a b, fun j a b d e f => by rw [up_c (by omega)]; exact h.2.1 j a b d e f, fun c' a b j hj => by rw [up_i hj]; exact h.2.2.1 c' a b j hj, fun c' a b j hj => by rw [up_c (by omega)]; exact h.2.2.2 c' a b j hj⟩
theorem Sfr.upf {k c0 : Int} {i v : Int} (h : Sfr k c0 D D') (hi : i = 27 ∨ i = 30 ∨ i = 31 ∨ i = 49 ∨ i = 50) : Sfr k c0 D (up D' 70 i v) :=
  ⟨fun c' a b => by rw [up_cf a]; exact h.1 c' a b, fun j a b d e f => by rw [up_i (by omega)]; exact h.2.1 j a b d e f, fun c' a b j hj => by rw [up_c (by omega)]; exact h.2.2.1 c' a b j hj, fun c' a b j hj => by rw [up_c (by omega)]; exact h.2.2.2 c' a b j hj⟩
theorem cond_m (hT : Txt T N) {k : Int} (hk : 0 ≤ k ∧ k < 270) (hm : Mst T N a D) (h27 : 0 ≤ D 70 27) (hp : 25 * D 70 27 ≤ 104000 + 21 * a - 50) : (¬ Wd T N a wIf → ∃ D', Ev (n + 1) 37 165 [am_r (some 70), am_i (wz k)] A D (ri 1) A D' ∧ Sfr k (D 70 27) D D' ∧ (∀ c, 94 ≤ c → c ≤ 97 → D' c = D c) ∧ Mst T N a D' ∧ D' 98 k = -1 ∧ D' 70 27 = D 70 27) ∧ (Wd T N a wIf → ∀ r b, Ad T N 0 (tN T N a) r b → ∃ x D', Ev (n + 1) 37 165 [am_r (some 70), am_i (wz k)] A D (ri x) A D' ∧ Sfr k (D 70 27) D D' ∧ (∀ c, 94 ≤ c → c ≤ 97 → D' c = D c) ∧ (r = none → x = 0 ∧ D' 70 30 = b) ∧ ∀ v, r = some v → x = 1 ∧ Mst T N b D' ∧ D' 98 k = D 70 27 ∧ HN D' 23 (D 70 27) (D' 70 27) v.1 ∧ D 70 27 < D' 70 27 ∧ 25 * (D' 70 27 - D 70 27) ≤ 21 * (b - tN T N a) + 50) := by
  have hN := hT.1
  have ht := Mst_tok hT hm
  have ta := ht.1
  have hw : wlt wIf = true := by decide
  have hl : (26982 : Int64) = Int64.ofNat (pw wIf) := by decide
  have m1 : Mst T N a (up D 98 k (-1)) := Mst_cg hm (up_cf (by decide)) (up_c (by decide)) (up_c (by decide))
  have f1 : Sfr k (D 70 27) D (up D 98 k (-1)) := (Sfr.refl _ _ D).ups ⟨by decide, by decide⟩
  obtain ⟨y1, y2⟩ := tk_m hT m1 hw hl
  have ptk : p_X12_takes (up D 98 k (-1)) (26982 : Int64) := Mst_p hT m1
  refine ⟨fun q => ?_, fun q r b hA => ?_⟩
  · obtain ⟨g1, g2, g3, g4⟩ := y2 q
    have ev := rl_X12_condition (n := n) (A := A) (D := D) (D' := u_tk (up D 98 k (-1)) (26982 : Int64)) (c := 36) (by omega) k (rgb (by omega) (by omega)) (x := 1) ⟨hk, ptk, by rw [if_pos g1]; exact ⟨rfl, rfl⟩⟩
    refine ⟨_, Ev_le ev (by omega), f1.trans g3.sfr, fun c c1 c2 => ?_, g2, ?_, ?_⟩
    · rw [g3.1 c (by omega), up_cf (by omega)]
    · rw [g3.1 98 (by decide), up_eq]
    · rw [g3.2 27 (by decide) (by decide) (by decide), up_c (by decide)]
  · obtain ⟨g1, g2, g3⟩ := y1 q
    obtain ⟨t1, t2, _, _, x1⟩ := hA
    obtain ⟨u1, u2, u3, u4⟩ := tN_tok ht
    have e27 : (up (u_tk (up D 98 k (-1)) (26982 : Int64)) 70 31 0) 70 27 = D 70 27 := by rw [up_i (by decide), g3.2 27 (by decide) (by decide) (by decide), up_c (by decide)]
    have f2 : Sfr k (D 70 27) D (up (u_tk (up D 98 k (-1)) (26982 : Int64)) 70 31 0) := (f1.trans g3.sfr).upf (by omega)
    have ec : ∀ c, 94 ≤ c → c ≤ 97 → (up (u_tk (up D 98 k (-1)) (26982 : Int64)) 70 31 0) c = D c := fun c c1 c2 => by rw [up_cf (by omega), g3.1 c (by omega), up_cf (by omega)]
    have m2 : Mst T N (tN T N a) (up (u_tk (up D 98 k (-1)) (26982 : Int64)) 70 31 0) := Mst_cg g2 (up_cf (by decide)) (up_i (by decide)) (up_i (by decide))
    obtain ⟨x, G, v1, v2, v3⟩ := x1 n A _ m2 (by omega) (by omega) up_eq
    rw [e27] at v2
    have fin : ∀ x' D', (if x = (-1) then (x' = 0 ∧ D' = (up G 98 k x)) else (x' = 1 ∧ D' = (up G 98 k x))) → Ev (n + 1) 37 165 [am_r (some 70), am_i (wz k)] A D (ri x') A D' := by
      intro x' D' z
      have ev := rl_X12_condition (n := n) (A := A) (D := D) (D' := D') (c := 36) (by omega) k (rgb (by omega) (by omega)) (x := x') ⟨hk, ptk, by
        rw [g1, if_neg (by decide)]
        exact ⟨x, G, v1, z⟩⟩
      exact Ev_le ev (by omega)
    have f3 : Sfr k (D 70 27) D (up G 98 k x) := (f2.trans v2.sfr).ups ⟨by decide, by decide⟩
    have ec2 : ∀ c, 94 ≤ c → c ≤ 97 → (up G 98 k x) c = D c := fun c c1 c2 => by rw [up_cf (by omega), v2.1 c (by omega) (Or.inl (by omega)), ec c c1 c2]
    cases r with
    | none =>
      obtain ⟨z1, z2⟩ := v3
      exact ⟨0, _, fin 0 _ (by rw [if_pos z1]; exact ⟨rfl, rfl⟩), f3, ec2, fun _ => ⟨rfl, by rw [up_c (by decide)]; exact z2⟩, fun v z => (nomatch z)⟩
    | some v =>
      obtain ⟨z1, z2, z3, z4, z5, z6, z7⟩ := v3
      rw [e27] at z1 z4 z5 z6 z7
      have k1 : ¬ x = -1 := by omega
      refine ⟨1, _, fin 1 _ (by rw [if_neg k1]; exact ⟨rfl, rfl⟩), f3, ec2, fun z => (nomatch z), fun v' z => ?_⟩
      have e : v = v' := Option.some.inj z
      subst e
      refine ⟨rfl, Mst_cg z2 (up_cf (by decide)) (up_c (by decide)) (up_c (by decide)), by rw [up_eq]; exact z1, ?_, by rw [up_c (by decide)]; exact z4, by rw [up_c (by decide)]; omega⟩
      rw [up_c (by decide)]
      refine HN_le (by omega) (HN_x z7 (fun c q1 q2 q3 i i1 i2 => by rw [up_cf (by omega)]) (fun i i1 i2 => by rw [up_c (by decide)]))
end Mco
