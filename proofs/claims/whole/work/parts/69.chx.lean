/-! The chain: the class. -/
section Cx
variable {n : Nat} {A A' : aA} {D D' : aD} {d : Nat} {s : am_S}
abbrev P_X1_bestFrom : Nat → Option am_E := am_fy tb_X1_bestFrom
def K_X1_bestFrom_17 (n : Nat) (A : aA) (D : aD) (a1 : Int) (a2 : Int) (a3 : Int) (a4 : Int) (x : Int) (D' : aD) : Prop := Lp n 1 P_X1_bestFrom 17 [some (am_r (some 62)), some (am_i (wz a1)), some (am_i (wz a2)), some (am_i (wz a3)), some (am_i (wz a4))] [] A D (ri x) A D'
set_option maxRecDepth 100000 in
theorem rl_X1_bestFrom {n : Nat} {A : aA} {D D' : aD} (a1 : Int) (a2 : Int) (h1 : rg a1) (h2 : rg a2) {x : Int} (hp : (0 ≤ wr ((wr ((wr (a1 + 1)) * 64)) + a2) ∧ wr ((wr ((wr (a1 + 1)) * 64)) + a2) < 448) ∧ K_X1_bestFrom_17 (n + 1) A D a1 a2 (D 68 (wr ((wr ((wr (a1 + 1)) * 64)) + a2))) 0 x D') : Ev (n + 1) (2) 7 [am_r (some 62), am_i (wz a1), am_i (wz a2)] A D (ri x) A D' := by
  refine Ev_of (c := 1) (P := P_X1_bestFrom) (lo := [some (am_r (some 62)), some (am_i (wz a1)), some (am_i (wz a2)), none, none]) rfl rfl rfl (fun d hd s hr => ?_)
  refine ok (m_aload_n (q := 1) rfl rfl rfl rfl) ?_
  refine ok (m_gfc (q := 4) rfl rfl rfl hr rfl rfl rfl) ?_
  refine ok (m_iload_n (q := 5) rfl rfl rfl rfl) ?_
  refine ok (m_iconst (q := 6) rfl rfl rfl) ?_
  refine ok (m_iadd (q := 7) rfl rfl rfl) ?_
  refine ok (m_bipush (q := 9) rfl rfl rfl) ?_
  refine ok (m_imul (q := 10) rfl rfl rfl) ?_
  refine ok (m_iload_n (q := 11) rfl rfl rfl rfl) ?_
  refine ok (m_iadd (q := 12) rfl rfl rfl) ?_
  obtain ⟨g1, hp⟩ := hp
  refine ok (m_ials (q := 13) rfl rfl rfl hr rfl rfl g1 rfl) ?_
  refine ok (m_istore_n (q := 14) (lo' := [some (am_r (some 62)), some (am_i (wz a1)), some (am_i (wz a2)), some (am_i (wz (D 68 (wr ((wr ((wr (a1 + 1)) * 64)) + a2))))), none]) rfl rfl rfl rfl rfl) ?_
  refine ok (m_iconst (q := 15) rfl rfl rfl) ?_
  refine ok (m_istore (q := 17) (lo' := [some (am_r (some 62)), some (am_i (wz a1)), some (am_i (wz a2)), some (am_i (wz (D 68 (wr ((wr ((wr (a1 + 1)) * 64)) + a2))))), some (am_i (wz 0))]) rfl rfl rfl rfl rfl) ?_
  exact hp d hd _ hr
set_option maxRecDepth 100000 in
theorem rl_X1_bestFrom_17 {n : Nat} {A : aA} {D D' : aD} (a1 : Int) (a2 : Int) (a3 : Int) (a4 : Int) (h1 : rg a1) (h2 : rg a2) (h3 : rg a3) (h4 : rg a4) {x : Int} (hp : (if D 62 8 ≤ a4 then (x = a3 ∧ D' = D) else (p_X1_worthOf D a1 a4 a2) ∧ K_X1_bestFrom_17 (n + 1) A D a1 a2 (max a3 (v_X1_worthOf D a1 a4 a2)) (wr (a4 + 1)) x D')) : K_X1_bestFrom_17 (n + 1) A D a1 a2 a3 a4 x D' := by
  unfold K_X1_bestFrom_17
  refine fun d hd s hr => ?_
  refine ok (m_iload (q := 19) rfl rfl rfl rfl) ?_
  refine ok (m_aload_n (q := 20) rfl rfl rfl rfl) ?_
  refine ok (m_gfs (z := 8) (q := 23) rfl rfl rfl hr rfl rfl rfl rfl rfl) ?_
  refine okc (m_cmpge (qt := 45) (qf := 26) rfl rfl h4 (Rp_rg hr 62 8) rfl rfl) (fun c2 => ?_) (fun c2 => ?_)
  · replace hp := ip c2 hp
    refine ok (m_iload_n (q := 46) rfl rfl rfl rfl) ?_
    exact ok (m_reti rfl rfl) (ok_iq hr h3 hp)
  · replace hp := iq c2 hp
    refine ok (m_iload_n (q := 27) rfl rfl rfl rfl) ?_
    refine ok (m_aload_n (q := 28) rfl rfl rfl rfl) ?_
    refine ok (m_iload_n (q := 29) rfl rfl rfl rfl) ?_
    refine ok (m_iload (q := 31) rfl rfl rfl rfl) ?_
    refine ok (m_iload_n (q := 32) rfl rfl rfl rfl) ?_
    obtain ⟨g5, hp⟩ := hp
    refine oke (e_ci (x_cv (q := 35) rfl rfl rfl rfl rfl rfl rfl rfl rfl rfl (is_st hr rfl rfl)) (ev_X1_worthOf (D := D) a1 a4 a2 h1 h4 h2 g5) (Nat.le_trans (by decide) hd) hr) (fun s3 r4 => ?_)
    refine ok (m_max (q := 38) rfl rfl rfl h3 (Ev_rg (ev_X1_worthOf (D := D) a1 a4 a2 h1 h4 h2 g5) hr) rfl) ?_
    refine ok (m_istore_n (q := 39) (lo' := [some (am_r (some 62)), some (am_i (wz a1)), some (am_i (wz a2)), some (am_i (wz (max a3 (v_X1_worthOf D a1 a4 a2)))), some (am_i (wz a4))]) rfl rfl rfl rfl rfl) ?_
    refine ok (m_iinc (q := 42) (lo' := [some (am_r (some 62)), some (am_i (wz a1)), some (am_i (wz a2)), some (am_i (wz (max a3 (v_X1_worthOf D a1 a4 a2)))), some (am_i (wz (wr (a4 + 1))))]) rfl rfl rfl rfl rfl rfl rfl) ?_
    refine ok (m_goto (q := 17) rfl rfl rfl) ?_
    exact hp d hd _ r4
abbrev tbl (D : aD) (k j : Int) : Int := D 67 (6 * k + j)
/-- tables of a chain: m places are worked out -/
def Tb (D : aD) (P S : Int) (c : Int → Int → Int) : Prop := D 62 7 = P ∧ D 62 8 = S ∧ (0 ≤ P ∧ P ≤ 6) ∧ (0 ≤ S ∧ S ≤ 6) ∧ (∀ k j, 0 ≤ k → k < P → 0 ≤ j → j < S → tbl D k j = c k j) ∧ ∀ k j, -1 ≤ c k j ∧ c k j ≤ 1999
def Bs (D : aD) (P S : Int) (c : Int → Int → Int) (k : Int) : Prop := ∀ u, 0 ≤ u → u < o_shl 1 S → D 68 (64 * k + u) = bv P S c (P - k).toNat u
theorem wo_e {P S k j u : Int} {c : Int → Int → Int} {m : Nat} (hT : Tb D P S c) (hB : Bs D P S c (k + 1)) (hk : 0 ≤ k) (hm : k = P - (m + 1)) (hj : 0 ≤ j ∧ j < S) (hu : 0 ≤ u ∧ u < o_shl 1 S) : v_X1_worthOf D k j u = wo c (bv P S c m) k j u ∧ p_X1_worthOf D k j u := by
  obtain ⟨t1, t2, t3, t4, t5, t6⟩ := hT
  have hw := pw_f t4
  have hf := tb_f (u := u) (j := j) ⟨hu.1, by omega⟩ ⟨hj.1, by omega⟩
  have ha := ad_f t4 hu hj
  have e1 := t5 k j hk (by omega) hj.1 hj.2
  have hc := t6 k j
  have e2 := hB (ad u j) hf.2.2.2.1.1 ha
  rw [show (P - (k + 1)).toNat = m by omega] at e2
  have hb := bv_b (P := P) (S := S) (c := c) t4.1 t6 m (ad u j)
  unfold tbl at e1
  unfold v_X1_worthOf p_X1_worthOf wo
  rw [wr_id (z := k * 6) (by omega) (by omega), wr_id (z := k * 6 + j) (by omega) (by omega), show k * 6 + j = 6 * k + j by omega, e1, wr_id (z := k + 1) (by omega) (by omega), wr_id (z := (k + 1) * 64) (by omega) (by omega), wr_id (z := (k + 1) * 64 + ad u j) (by omega) (by omega), show (k + 1) * 64 + ad u j = 64 * (k + 1) + ad u j by omega, e2]
  by_cases c1 : c k j = -1
  · rw [if_pos c1, if_pos c1, if_pos c1]
    exact ⟨rfl, ⟨by omega, by omega⟩, trivial⟩
  · rw [if_neg c1, if_neg c1, if_neg c1]
    by_cases c2 : tb u j = 0
    · rw [if_pos c2, if_pos c2, if_pos c2, wr_id (z := 20000 - c k j) (by omega) (by omega), wr_id (by omega) (by omega)]
      exact ⟨rfl, ⟨by omega, by omega⟩, by omega, by omega⟩
    · rw [if_neg c2, if_neg c2, if_neg c2]
      exact ⟨rfl, ⟨by omega, by omega⟩, trivial⟩
def w_bf (D : aD) (k u : Int) : Int := foi (fun a j => max a (v_X1_worthOf D k j u)) (D 68 (64 * (k + 1) + u)) (D 62 8)
def p_bf (D : aD) (k u : Int) : Prop := ∃ P S c, Tb D P S c ∧ Bs D P S c (k + 1) ∧ (0 ≤ k ∧ k < P) ∧ (0 ≤ u ∧ u < o_shl 1 S)
theorem bf_e {P S k u : Int} {c : Int → Int → Int} {m : Nat} (hT : Tb D P S c) (hB : Bs D P S c (k + 1)) (hk : 0 ≤ k) (hm : k = P - (m + 1)) (hu : 0 ≤ u ∧ u < o_shl 1 S) : w_bf D k u = bv P S c (m + 1) u := by
  have e2 := hB u hu.1 hu.2
  rw [show (P - (k + 1)).toNat = m by omega] at e2
  unfold w_bf bv
  rw [e2, hT.2.1]
  refine foi_cg (N := S) (fun j x j0 j1 => ?_) S hT.2.2.2.1.1 (Int.le_refl _)
  rw [(wo_e hT hB hk hm ⟨j0, j1⟩ hu).1, hm]
theorem ev_X1_bestFrom (k u : Int) (h1 : rg k) (h2 : rg u) (hp : p_bf D k u) : Ev (n + 1) 2 7 [am_r (some 62), am_i (wz k), am_i (wz u)] A D (ri (w_bf D k u)) A D := by
  obtain ⟨P, S, c, hT, hB, hk, hu⟩ := hp
  obtain ⟨m, hm⟩ : ∃ m : Nat, k = P - (m + 1) := ⟨(P - k - 1).toNat, by omega⟩
  have hP := hT.2.2.1
  have hS := hT.2.2.2.1
  have hw := pw_f hS
  have hbb : ∀ j, 0 ≤ j → j ≤ S → 0 ≤ foi (fun a j => max a (v_X1_worthOf D k j u)) (D 68 (64 * (k + 1) + u)) j ∧ foi (fun a j => max a (v_X1_worthOf D k j u)) (D 68 (64 * (k + 1) + u)) j ≤ 200000 := by
    have e2 := hB u hu.1 hu.2
    rw [show (P - (k + 1)).toNat = m by omega] at e2
    have hb := bv_b (P := P) (S := S) (c := c) hS.1 hT.2.2.2.2.2 m u
    refine foi_ind (Q := fun j x => 0 ≤ x ∧ x ≤ 200000) (by rw [e2]; omega) (fun j x j0 j1 q => ?_)
    have hw := (wo_e hT hB hk.1 hm ⟨j0, j1⟩ hu).1
    have h3 : v_X1_worthOf D k j u ≤ 200000 := by
      rw [hw]; unfold wo
      have := hT.2.2.2.2.2 k j
      have := bv_b (P := P) (S := S) (c := c) hS.1 hT.2.2.2.2.2 m (ad u j)
      split
      · omega
      · split <;> omega
    omega
  refine rl_X1_bestFrom k u h1 h2 ?_
  rw [wr_id (z := k + 1) (by omega) (by omega), wr_id (z := (k + 1) * 64) (by omega) (by omega), wr_id (z := (k + 1) * 64 + u) (by omega) (by omega), show (k + 1) * 64 + u = 64 * (k + 1) + u by omega]
  refine ⟨by omega, ?_⟩
  have eS : D 62 8 = S := hT.2.1
  have key := dn_ind (K := fun j => K_X1_bestFrom_17 (n + 1) A D k u (foi (fun a j => max a (v_X1_worthOf D k j u)) (D 68 (64 * (k + 1) + u)) j) j (w_bf D k u) D) (lo := 0) (N := S) ?_ ?_ 0 (by omega) (by omega)
  · exact key
  · have hb := hbb S hS.1 (Int.le_refl _)
    refine rl_X1_bestFrom_17 _ _ _ _ h1 h2 (rgb (by omega) (by omega)) (rgb (by omega) (by omega)) ?_
    rw [if_pos (by omega)]
    unfold w_bf; rw [eS]; exact ⟨rfl, rfl⟩
  · intro j j0 j1 ih
    have hb := hbb j j0 (by omega)
    refine rl_X1_bestFrom_17 _ _ _ _ h1 h2 (rgb (by omega) (by omega)) (rgb (by omega) (by omega)) ?_
    rw [if_neg (by omega), wr_id (z := j + 1) (by omega) (by omega)]
    refine ⟨(wo_e hT hB hk.1 hm ⟨j0, j1⟩ hu).2, ?_⟩
    rw [foi_s j0] at ih; exact ih
abbrev P_X1_takeLeastRow : Nat → Option am_E := am_fy tb_X1_takeLeastRow
def K_X1_takeLeastRow_14 (n : Nat) (A : aA) (D : aD) (a1 : Int) (a2 : Int) (D' : aD) : Prop := Lp n 1 P_X1_takeLeastRow 14 [some (am_r (some 62)), some (am_i (wz a1)), some (am_i (wz a2)), none] [] A D rv A D'
def K_X1_takeLeastRow_31 (n : Nat) (A : aA) (D : aD) (a1 : Int) (a2 : Int) (a3 : Int) (D' : aD) : Prop := Lp n 1 P_X1_takeLeastRow 31 [some (am_r (some 62)), some (am_i (wz a1)), some (am_i (wz a2)), some (am_i (wz a3))] [] A D rv A D'
set_option maxRecDepth 100000 in
theorem rl_X1_takeLeastRow {n : Nat} {A : aA} {D D' : aD} (hp : K_X1_takeLeastRow_14 (n + 1) A (up (up D 62 9 0) 62 10 0) 0 0 D') : Ev (n + 1) (2) 9 [am_r (some 62)] A D rv A D' := by
  refine Ev_of (c := 1) (P := P_X1_takeLeastRow) (lo := [some (am_r (some 62)), none, none, none]) rfl rfl rfl (fun d hd s hr => ?_)
  refine ok (m_iconst (q := 1) rfl rfl rfl) ?_
  refine ok (m_istore_n (q := 2) (lo' := [some (am_r (some 62)), some (am_i (wz 0)), none, none]) rfl rfl rfl rfl rfl) ?_
  refine ok (m_aload_n (q := 3) rfl rfl rfl rfl) ?_
  refine ok (m_iconst (q := 4) rfl rfl rfl) ?_
  refine oke (e_pfs (q := 7) rfl rfl rfl hr rfl rfl rfl rfl ⟨by decide, by decide⟩) (fun s2 r1 => ?_)
  refine ok (m_aload_n (q := 8) rfl rfl rfl rfl) ?_
  refine ok (m_iconst (q := 9) rfl rfl rfl) ?_
  refine oke (e_pfs (q := 12) rfl rfl rfl r1 rfl rfl rfl rfl ⟨by decide, by decide⟩) (fun s4 r3 => ?_)
  refine ok (m_iconst (q := 13) rfl rfl rfl) ?_
  refine ok (m_istore_n (q := 14) (lo' := [some (am_r (some 62)), some (am_i (wz 0)), some (am_i (wz 0)), none]) rfl rfl rfl rfl rfl) ?_
  exact hp d hd _ r3
set_option maxRecDepth 100000 in
theorem rl_X1_takeLeastRow_14 {n : Nat} {A : aA} {D D' : aD} (a1 : Int) (a2 : Int) (h1 : rg a1) (h2 : rg a2) (hp : (if D 62 7 ≤ a2 then (D' = D) else (0 ≤ a2 ∧ a2 < 6) ∧ K_X1_takeLeastRow_31 (n + 1) A (up D 69 a2 (-1)) a1 a2 0 D')) : K_X1_takeLeastRow_14 (n + 1) A D a1 a2 D' := by
  unfold K_X1_takeLeastRow_14
  refine fun d hd s hr => ?_
  refine ok (m_iload_n (q := 15) rfl rfl rfl rfl) ?_
  refine ok (m_aload_n (q := 16) rfl rfl rfl rfl) ?_
  refine ok (m_gfs (z := 7) (q := 19) rfl rfl rfl hr rfl rfl rfl rfl rfl) ?_
  refine okc (m_cmpge (qt := 133) (qf := 22) rfl rfl h2 (Rp_rg hr 62 7) rfl rfl) (fun c5 => ?_) (fun c5 => ?_)
  · replace hp := ip c5 hp
    exact ok (m_retv rfl rfl) (ok_vq hr hp)
  · replace hp := iq c5 hp
    refine ok (m_aload_n (q := 23) rfl rfl rfl rfl) ?_
    refine ok (m_gfc (q := 26) rfl rfl rfl hr rfl rfl rfl) ?_
    refine ok (m_iload_n (q := 27) rfl rfl rfl rfl) ?_
    refine ok (m_iconst (q := 28) rfl rfl rfl) ?_
    obtain ⟨g8, hp⟩ := hp
    refine oke (e_ias (q := 29) rfl rfl rfl hr rfl rfl g8 ⟨by decide, by decide⟩) (fun s7 r6 => ?_)
    refine ok (m_iconst (q := 30) rfl rfl rfl) ?_
    refine ok (m_istore_n (q := 31) (lo' := [some (am_r (some 62)), some (am_i (wz a1)), some (am_i (wz a2)), some (am_i (wz 0))]) rfl rfl rfl rfl rfl) ?_
    exact hp d hd _ r6
set_option maxRecDepth 100000 in
theorem rl_X1_takeLeastRow_31 {n : Nat} {A : aA} {D D' : aD} (a1 : Int) (a2 : Int) (a3 : Int) (h1 : rg a1) (h2 : rg a2) (h3 : rg a3) (hp : (if D 62 8 ≤ a3 then K_X1_takeLeastRow_14 (n + 1) A D a1 (wr (a2 + 1)) D' else (0 ≤ a2 ∧ a2 < 6) ∧ (if D 69 a2 = (-1) then (p_X1_worthOf D a2 a3 a1) ∧ (0 ≤ wr ((wr (a2 * 64)) + a1) ∧ wr ((wr (a2 * 64)) + a1) < 448) ∧ (if v_X1_worthOf D a2 a3 a1 = D 68 (wr ((wr (a2 * 64)) + a1)) then (0 ≤ a3 ∧ a3 < 6 ∧ 0 ≤ D 1201 a3) ∧ (0 ≤ wr ((wr (a2 * 6)) + a3) ∧ wr ((wr (a2 * 6)) + a3) < 36) ∧ K_X1_takeLeastRow_31 (n + 1) A (up (up (up D 69 a2 (D 2000 (D 1201 a3))) 62 9 (wr ((D 62 9) + 1))) 62 10 (wr ((D 62 10) + (D 67 (wr ((wr (a2 * 6)) + a3)))))) (o_or a1 (o_shl 1 a3)) a2 (wr (a3 + 1)) D' else K_X1_takeLeastRow_31 (n + 1) A D a1 a2 (wr (a3 + 1)) D') else K_X1_takeLeastRow_14 (n + 1) A D a1 (wr (a2 + 1)) D'))) : K_X1_takeLeastRow_31 (n + 1) A D a1 a2 a3 D' := by
  unfold K_X1_takeLeastRow_31
  refine fun d hd s hr => ?_
  refine ok (m_iload_n (q := 32) rfl rfl rfl rfl) ?_
  refine ok (m_aload_n (q := 33) rfl rfl rfl rfl) ?_
  refine ok (m_gfs (z := 8) (q := 36) rfl rfl rfl hr rfl rfl rfl rfl rfl) ?_
  refine okc (m_cmpge (qt := 127) (qf := 39) rfl rfl h3 (Rp_rg hr 62 8) rfl rfl) (fun c9 => ?_) (fun c9 => ?_)
  · replace hp := ip c9 hp
    refine ok (m_iinc (q := 130) (lo' := [some (am_r (some 62)), some (am_i (wz a1)), some (am_i (wz (wr (a2 + 1)))), some (am_i (wz a3))]) rfl rfl rfl rfl rfl rfl rfl) ?_
    refine ok (m_goto (q := 14) rfl rfl rfl) ?_
    refine ok (mk rfl (lo' := [some (am_r (some 62)), some (am_i (wz a1)), some (am_i (wz (wr (a2 + 1)))), none]) rfl) ?_
    exact hp d hd _ hr
  · replace hp := iq c9 hp
    refine ok (m_aload_n (q := 40) rfl rfl rfl rfl) ?_
    refine ok (m_gfc (q := 43) rfl rfl rfl hr rfl rfl rfl) ?_
    refine ok (m_iload_n (q := 44) rfl rfl rfl rfl) ?_
    obtain ⟨g10, hp⟩ := hp
    refine ok (m_ials (q := 45) rfl rfl rfl hr rfl rfl g10 rfl) ?_
    refine ok (m_iconst (q := 46) rfl rfl rfl) ?_
    refine okc (m_cmpne (qt := 127) (qf := 49) rfl rfl (Rp_rg hr 69 a2) ⟨by decide, by decide⟩ rfl rfl) (fun c11 => ?_) (fun c11 => ?_)
    · replace hp := ip c11 hp
      refine ok (m_aload_n (q := 50) rfl rfl rfl rfl) ?_
      refine ok (m_iload_n (q := 51) rfl rfl rfl rfl) ?_
      refine ok (m_iload_n (q := 52) rfl rfl rfl rfl) ?_
      refine ok (m_iload_n (q := 53) rfl rfl rfl rfl) ?_
      obtain ⟨g14, hp⟩ := hp
      refine oke (e_ci (x_cv (q := 56) rfl rfl rfl rfl rfl rfl rfl rfl rfl rfl (is_st hr rfl rfl)) (ev_X1_worthOf (D := D) a2 a3 a1 h2 h3 h1 g14) (Nat.le_trans (by decide) hd) hr) (fun s12 r13 => ?_)
      refine ok (m_aload_n (q := 57) rfl rfl rfl rfl) ?_
      refine ok (m_gfc (q := 60) rfl rfl rfl r13 rfl rfl rfl) ?_
      refine ok (m_iload_n (q := 61) rfl rfl rfl rfl) ?_
      refine ok (m_bipush (q := 63) rfl rfl rfl) ?_
      refine ok (m_imul (q := 64) rfl rfl rfl) ?_
      refine ok (m_iload_n (q := 65) rfl rfl rfl rfl) ?_
      refine ok (m_iadd (q := 66) rfl rfl rfl) ?_
      obtain ⟨g15, hp⟩ := hp
      refine ok (m_ials (q := 67) rfl rfl rfl r13 rfl rfl g15 rfl) ?_
      refine okc (m_cmpne (qt := 121) (qf := 70) rfl rfl (Ev_rg (ev_X1_worthOf (D := D) a2 a3 a1 h2 h3 h1 g14) hr) (Rp_rg r13 68 (wr ((wr (a2 * 64)) + a1))) rfl rfl) (fun c16 => ?_) (fun c16 => ?_)
      · replace hp := ip c16 hp
        refine ok (m_aload_n (q := 71) rfl rfl rfl rfl) ?_
        refine ok (m_gfc (q := 74) rfl rfl rfl r13 rfl rfl rfl) ?_
        refine ok (m_iload_n (q := 75) rfl rfl rfl rfl) ?_
        refine ok (m_aload_n (q := 76) rfl rfl rfl rfl) ?_
        have f_17 := Rp_fx2_1 r13
        refine ok (m_gfy (q := 79) rfl rfl rfl r13 rfl rfl rfl) ?_
        refine ok (m_iload_n (q := 80) rfl rfl rfl rfl) ?_
        obtain ⟨g18, hp⟩ := hp
        refine ok (m_aal1 (q := 81) rfl rfl rfl r13 g18 rfl) ?_
        have f_19 : D 910 (D 1201 a3) = 1 := Rp_ch1 (D := D) r13 g18.2.2
        refine ok (m_gft (t := 10) (q := 84) rfl rfl rfl r13 rfl f_19 rfl rfl rfl) ?_
        refine oke (e_ias (q := 85) rfl rfl rfl r13 rfl rfl g10 (show rg (D 2000 (D 1201 a3)) from Rp_rg r13 2000 (D 1201 a3))) (fun s21 r20 => ?_)
        refine ok (m_aload_n (q := 86) rfl rfl rfl rfl) ?_
        refine ok (m_dup (q := 87) rfl rfl rfl rfl) ?_
        refine ok (m_gfs (z := 9) (q := 90) (w := D 62 9) rfl rfl rfl r20 rfl rfl rfl rfl rfl) ?_
        refine ok (m_iconst (q := 91) rfl rfl rfl) ?_
        refine ok (m_iadd (q := 92) rfl rfl rfl) ?_
        refine oke (e_pfs (q := 95) rfl rfl rfl r20 rfl rfl rfl rfl (rg_wr _)) (fun s23 r22 => ?_)
        refine ok (m_aload_n (q := 96) rfl rfl rfl rfl) ?_
        refine ok (m_dup (q := 97) rfl rfl rfl rfl) ?_
        refine ok (m_gfs (z := 10) (q := 100) (w := D 62 10) rfl rfl rfl r22 rfl rfl rfl rfl rfl) ?_
        refine ok (m_aload_n (q := 101) rfl rfl rfl rfl) ?_
        refine ok (m_gfc (q := 104) rfl rfl rfl r22 rfl rfl rfl) ?_
        refine ok (m_iload_n (q := 105) rfl rfl rfl rfl) ?_
        refine ok (m_bipush (q := 107) rfl rfl rfl) ?_
        refine ok (m_imul (q := 108) rfl rfl rfl) ?_
        refine ok (m_iload_n (q := 109) rfl rfl rfl rfl) ?_
        refine ok (m_iadd (q := 110) rfl rfl rfl) ?_
        obtain ⟨g24, hp⟩ := hp
        refine ok (m_ials (q := 111) (w := D 67 (wr ((wr (a2 * 6)) + a3))) rfl rfl rfl r22 rfl rfl g24 rfl) ?_
        refine ok (m_iadd (q := 112) rfl rfl rfl) ?_
        refine oke (e_pfs (q := 115) rfl rfl rfl r22 rfl rfl rfl rfl (rg_wr _)) (fun s26 r25 => ?_)
        refine ok (m_iload_n (q := 116) rfl rfl rfl rfl) ?_
        refine ok (m_iconst (q := 117) rfl rfl rfl) ?_
        refine ok (m_iload_n (q := 118) rfl rfl rfl rfl) ?_
        refine ok (m_ishl (q := 119) rfl rfl rfl) ?_
        refine ok (m_ior (q := 120) rfl rfl rfl) ?_
        refine ok (m_istore_n (q := 121) (lo' := [some (am_r (some 62)), some (am_i (wz (o_or a1 (o_shl 1 a3)))), some (am_i (wz a2)), some (am_i (wz a3))]) rfl rfl rfl rfl rfl) ?_
        refine ok (m_iinc (q := 124) (lo' := [some (am_r (some 62)), some (am_i (wz (o_or a1 (o_shl 1 a3)))), some (am_i (wz a2)), some (am_i (wz (wr (a3 + 1))))]) rfl rfl rfl rfl rfl rfl rfl) ?_
        refine ok (m_goto (q := 31) rfl rfl rfl) ?_
        exact hp d hd _ r25
      · replace hp := iq c16 hp
        refine ok (m_iinc (q := 124) (lo' := [some (am_r (some 62)), some (am_i (wz a1)), some (am_i (wz a2)), some (am_i (wz (wr (a3 + 1))))]) rfl rfl rfl rfl rfl rfl rfl) ?_
        refine ok (m_goto (q := 31) rfl rfl rfl) ?_
        exact hp d hd _ r13
    · replace hp := iq c11 hp
      refine ok (m_iinc (q := 130) (lo' := [some (am_r (some 62)), some (am_i (wz a1)), some (am_i (wz (wr (a2 + 1)))), some (am_i (wz a3))]) rfl rfl rfl rfl rfl rfl rfl) ?_
      refine ok (m_goto (q := 14) rfl rfl rfl) ?_
      refine ok (mk rfl (lo' := [some (am_r (some 62)), some (am_i (wz a1)), some (am_i (wz (wr (a2 + 1)))), none]) rfl) ?_
      exact hp d hd _ hr
/-- what the last m places of the least row leave -/
def Tl (D E D' : aD) (P S : Int) (c : Int → Int → Int) (m : Nat) (u : Int) : Prop := (∀ c', c' ≠ 62 → c' ≠ 69 → D' c' = D c') ∧ (∀ i, i ≠ 9 → i ≠ 10 → D' 62 i = D 62 i) ∧ D' 62 9 = E 62 9 + cn P S c m u ∧ D' 62 10 = E 62 10 + ds P S c m u ∧ (∀ i, i < P - m → D' 69 i = E 69 i) ∧ ∀ i, P - m ≤ i → i < P → D' 69 i = rwo P S c (fun j => D 2000 (D 1201 j)) (-1) m u i
theorem K_tl {P S : Int} {c : Int → Int → Int} (hT : Tb D P S c) (hB : ∀ k, 0 ≤ k → k ≤ P → Bs D P S c k) (hs : ∀ j, 0 ≤ j → j < S → 0 ≤ D 1201 j ∧ 0 ≤ D 2000 (D 1201 j)) : ∀ (m : Nat) (u : Int) (E : aD), (m : Int) ≤ P → (0 ≤ u ∧ u < o_shl 1 S) → (∀ c', c' ≠ 62 → c' ≠ 69 → E c' = D c') → (∀ i, i ≠ 9 → i ≠ 10 → E 62 i = D 62 i) → (0 ≤ E 62 9 ∧ E 62 9 ≤ P - m) → (0 ≤ E 62 10 ∧ E 62 10 ≤ 1999 * (P - m)) → ∃ D', Tl D E D' P S c m u ∧ ∀ n A, K_X1_takeLeastRow_14 (n + 1) A E u (P - m) D' := by
  have hP := hT.2.2.1
  have hS := hT.2.2.2.1
  have hw := pw_f hS
  have hc := hT.2.2.2.2.2
  intro m
  induction m with
  | zero =>
    intro u E hm hu h1 h2 h3 h4
    refine ⟨E, ⟨h1, h2, ?_, ?_, fun _ _ => rfl, fun i a b => by omega⟩, fun n A => rl_X1_takeLeastRow_14 _ _ (rgb (by omega) (by omega)) (rgb (by omega) (by omega)) ?_⟩
    · show _ = E 62 9 + 0; omega
    · show _ = E 62 10 + 0; omega
    · rw [if_pos (by rw [h2 7 (by decide) (by decide), hT.1]; omega)]
  | succ m ih =>
    intro u E hm hu h1 h2 h3 h4
    obtain ⟨k, hk⟩ : ∃ k, k = P - ((m : Int) + 1) := ⟨_, rfl⟩
    have hmk : P - ((m + 1 : Nat) : Int) = k := by omega
    have em : ((m + 1 : Nat) : Int) = (m : Int) + 1 := by omega
    rw [em] at hm h3 h4
    rw [hmk]
    have e67 : ∀ F : aD, (∀ c', c' ≠ 62 → c' ≠ 69 → F c' = D c') → (∀ i, i ≠ 9 → i ≠ 10 → F 62 i = D 62 i) → Tb F P S c ∧ Bs F P S c (k + 1) := fun F q1 q2 => by
      refine ⟨⟨by rw [q2 7 (by decide) (by decide)]; exact hT.1, by rw [q2 8 (by decide) (by decide)]; exact hT.2.1, hP, hS, ?_, hc⟩, ?_⟩
      · intro a b a0 a1 b0 b1
        show F 67 _ = _
        rw [q1 67 (by decide) (by decide)]; exact hT.2.2.2.2.1 a b a0 a1 b0 b1
      · intro v v0 v1
        rw [q1 68 (by decide) (by decide)]; exact hB (k + 1) (by omega) (by omega) v v0 v1
    have hbk := hB k (by omega) (by omega) u hu.1 hu.2
    rw [show (P - k).toNat = m + 1 by omega] at hbk
    -- after the place is settled
    have step : ∀ F : aD, (∀ c', c' ≠ 62 → c' ≠ 69 → F c' = D c') → (∀ i, i ≠ 9 → i ≠ 10 → F 62 i = D 62 i) → F 62 9 = E 62 9 + (if pk P S c m u = -1 then 0 else 1) → F 62 10 = E 62 10 + (if pk P S c m u = -1 then 0 else c k (pk P S c m u)) → (∀ i, i < k → F 69 i = E 69 i) → F 69 k = (if pk P S c m u = -1 then -1 else D 2000 (D 1201 (pk P S c m u))) → ∃ D', Tl D E D' P S c (m + 1) u ∧ ∀ n A, K_X1_takeLeastRow_14 (n + 1) A F (nx P S c m u) (k + 1) D' := fun F q1 q2 q3 q4 q5 q6 => by
      have hn : 0 ≤ nx P S c m u ∧ nx P S c m u < o_shl 1 S := by
        unfold nx
        rcases pk_s (P := P) (c := c) hS.1 m u with ⟨z1, _⟩ | ⟨z1, z2, _⟩
        · rw [if_pos z1]; exact hu
        · rw [if_neg (by omega)]
          exact ⟨(tb_f (u := u) (j := pk P S c m u) ⟨hu.1, by omega⟩ ⟨z1, by omega⟩).2.2.2.1.1, ad_f hS hu ⟨z1, z2⟩⟩
      have hck := hc k (pk P S c m u)
      have hb9 : (0 ≤ F 62 9 ∧ F 62 9 ≤ P - m) := by rw [q3]; split <;> omega
      have hb10 : (0 ≤ F 62 10 ∧ F 62 10 ≤ 1999 * (P - m)) := by
        rw [q4]
        rcases pk_s (P := P) (c := c) hS.1 m u with ⟨z1, _⟩ | ⟨z1, z2, z3, z4, z5, _⟩
        · rw [if_pos z1]; omega
        · rw [← hk] at z5
          rw [if_neg (by omega)]; omega
      obtain ⟨D', ⟨t1, t2, t3, t4, t5, t6⟩, K⟩ := ih (nx P S c m u) F (by omega) hn q1 q2 hb9 hb10
      refine ⟨D', ⟨t1, t2, ?_, ?_, ?_, ?_⟩, fun n A => ?_⟩
      · rw [t3, q3, show cn P S c (m + 1) u = (if pk P S c m u = -1 then 0 else 1) + cn P S c m (nx P S c m u) from rfl]; omega
      · rw [t4, q4, show ds P S c (m + 1) u = (if pk P S c m u = -1 then 0 else c (P - (m + 1)) (pk P S c m u)) + ds P S c m (nx P S c m u) from rfl, ← hk]; omega
      · intro i hi
        rw [t5 i (by omega), q5 i (by omega)]
      · intro i i0 i1
        unfold rwo
        by_cases e : i = P - ((m : Int) + 1)
        · rw [if_pos e, t5 i (by omega), show i = k by omega, q6]
        · rw [if_neg e]; exact t6 i (by omega) i1
      · have := K n A
        rw [show P - (m : Int) = k + 1 by omega] at this; exact this
    obtain ⟨F0, hF0⟩ : ∃ F0, F0 = up E 69 k (-1) := ⟨_, rfl⟩
    have g1 : ∀ c', c' ≠ 62 → c' ≠ 69 → F0 c' = D c' := fun c' a b => by rw [hF0, up_cf b]; exact h1 c' a b
    have g2 : ∀ i, i ≠ 9 → i ≠ 10 → F0 62 i = D 62 i := fun i a b => by rw [hF0, up_c (by decide)]; exact h2 i a b
    have g3 : F0 62 9 = E 62 9 ∧ F0 62 10 = E 62 10 := by rw [hF0, up_c (by decide), up_c (by decide)]; exact ⟨rfl, rfl⟩
    have g4 : F0 69 k = -1 := by rw [hF0, up_eq]
    have g5 : ∀ i, i < k → F0 69 i = E 69 i := fun i hi => by rw [hF0, up_i (by omega)]
    have g8 : F0 62 8 = S := by rw [g2 8 (by decide) (by decide)]; exact hT.2.1
    obtain ⟨TF, BF⟩ := e67 F0 g1 g2
    have main : ∃ D', Tl D E D' P S c (m + 1) u ∧ ∀ n A, K_X1_takeLeastRow_31 (n + 1) A F0 u k 0 D' := by
      rcases pk_s (P := P) (c := c) hS.1 m u with ⟨z1, z2, _⟩ | ⟨z1, z2, z3, z4, z5, z6, z7⟩
      · obtain ⟨D', T', K⟩ := step F0 g1 g2 (by rw [if_pos z1]; omega) (by rw [if_pos z1]; omega) g5 (by rw [if_pos z1]; exact g4)
        refine ⟨D', T', fun n A => ?_⟩
        refine dn_ind (K := fun j => K_X1_takeLeastRow_31 (n + 1) A F0 u k j D') (lo := 0) (N := S) ?_ ?_ 0 (by omega) (by omega)
        · refine rl_X1_takeLeastRow_31 _ _ _ (rgb (by omega) (by omega)) (rgb (by omega) (by omega)) (rgb (by omega) (by omega)) ?_
          rw [if_pos (by omega), wr_id (by omega) (by omega)]
          have := K n A; unfold nx at this; rw [if_pos z1] at this; exact this
        · intro j j0 j1 ihj
          refine rl_X1_takeLeastRow_31 _ _ _ (rgb (by omega) (by omega)) (rgb (by omega) (by omega)) (rgb (by omega) (by omega)) ?_
          have w := wo_e TF BF (by omega) hk ⟨j0, j1⟩ hu
          have zj := z2 j j0 j1
          rw [← hk] at zj
          rw [if_neg (by omega), if_pos g4, w.1, wr_id (z := k * 64) (by omega) (by omega), wr_id (z := k * 64 + u) (by omega) (by omega), show k * 64 + u = 64 * k + u by omega, g1 68 (by decide) (by decide), hbk, if_neg (by omega), wr_id (z := j + 1) (by omega) (by omega)]
          exact ⟨by omega, w.2, by omega, ihj⟩
      · obtain ⟨J, hJ⟩ : ∃ J, J = pk P S c m u := ⟨_, rfl⟩
        rw [← hJ] at z1 z2 z3 z4 z5 z6 z7
        rw [← hk] at z3 z4 z5 z7
        have hck := hc k J
        have hsJ := hs J z1 z2
        have eT : tbl F0 k J = c k J := TF.2.2.2.2.1 k J (by omega) (by omega) z1 z2
        unfold tbl at eT
        obtain ⟨F1, hF1⟩ : ∃ F1, F1 = up (up (up F0 69 k (D 2000 (D 1201 J))) 62 9 (E 62 9 + 1)) 62 10 (E 62 10 + c k J) := ⟨_, rfl⟩
        have b1 : ∀ c', c' ≠ 62 → c' ≠ 69 → F1 c' = D c' := fun c' a b => by rw [hF1, up_cf a, up_cf a, up_cf b]; exact g1 c' a b
        have b2 : ∀ i, i ≠ 9 → i ≠ 10 → F1 62 i = D 62 i := fun i a b => by rw [hF1, up_i b, up_i a, up_c (by decide)]; exact g2 i a b
        have b4 : F1 69 k = D 2000 (D 1201 J) := by rw [hF1, up_c (by decide), up_c (by decide), up_eq]
        obtain ⟨D', T', K⟩ := step F1 b1 b2 (by rw [hF1, up_i (by decide), up_eq, ← hJ, if_neg (by omega)]) (by rw [hF1, up_eq, ← hJ, if_neg (by omega)]) (fun i hi => by rw [hF1, up_c (by decide), up_c (by decide), up_i (by omega)]; exact g5 i hi) (by rw [b4, ← hJ, if_neg (by omega)])
        have hnx : nx P S c m u = ad u J := by unfold nx; rw [← hJ, if_neg (by omega)]
        rw [hnx] at K
        have had := ad_f hS hu ⟨z1, z2⟩
        have had0 := (tb_f (u := u) (j := J) ⟨hu.1, by omega⟩ ⟨z1, by omega⟩).2.2.2.1.1
        refine ⟨D', T', fun n A => ?_⟩
        refine dn_ind (K := fun j => K_X1_takeLeastRow_31 (n + 1) A F0 u k j D') (lo := 0) (N := J) ?_ ?_ 0 (by omega) (by omega)
        · refine rl_X1_takeLeastRow_31 _ _ _ (rgb (by omega) (by omega)) (rgb (by omega) (by omega)) (rgb (by omega) (by omega)) ?_
          have w := wo_e TF BF (by omega) hk ⟨z1, z2⟩ hu
          rw [if_neg (by omega), if_pos g4, w.1, wr_id (z := k * 64) (by omega) (by omega), wr_id (z := k * 64 + u) (by omega) (by omega), show k * 64 + u = 64 * k + u by omega, g1 68 (by decide) (by decide), hbk, if_pos z3, wr_id (z := J + 1) (by omega) (by omega), wr_id (z := k * 6) (by omega) (by omega), wr_id (z := k * 6 + J) (by omega) (by omega), show k * 6 + J = 6 * k + J by omega, eT, g3.1, g3.2, wr_id (z := E 62 9 + 1) (by omega) (by omega), wr_id (z := E 62 10 + c k J) (by omega) (by omega), g1 2000 (by decide) (by decide), g1 1201 (by decide) (by decide), ← hF1]
          refine ⟨by omega, w.2, by omega, by omega, by omega, ?_⟩
          refine rl_X1_takeLeastRow_31 _ _ _ (rg_o _) (rgb (by omega) (by omega)) (rgb (by omega) (by omega)) ?_
          by_cases cJ : F1 62 8 ≤ J + 1
          · rw [if_pos cJ, wr_id (by omega) (by omega)]; exact K n A
          · rw [if_neg cJ, if_neg (by rw [b4]; omega), wr_id (by omega) (by omega)]
            exact ⟨by omega, K n A⟩
        · intro j j0 j1 ihj
          refine rl_X1_takeLeastRow_31 _ _ _ (rgb (by omega) (by omega)) (rgb (by omega) (by omega)) (rgb (by omega) (by omega)) ?_
          have w := wo_e TF BF (by omega) hk ⟨j0, by omega⟩ hu
          have zj := z4 j j0 j1
          rw [if_neg (by omega), if_pos g4, w.1, wr_id (z := k * 64) (by omega) (by omega), wr_id (z := k * 64 + u) (by omega) (by omega), show k * 64 + u = 64 * k + u by omega, g1 68 (by decide) (by decide), hbk, if_neg (by omega), wr_id (z := j + 1) (by omega) (by omega)]
          exact ⟨by omega, w.2, by omega, ihj⟩
    obtain ⟨D', T', K⟩ := main
    refine ⟨D', T', fun n A => ?_⟩
    refine rl_X1_takeLeastRow_14 _ _ (rgb (by omega) (by omega)) (rgb (by omega) (by omega)) ?_
    rw [if_neg (by rw [h2 7 (by decide) (by decide), hT.1]; omega)]
    refine ⟨by omega, ?_⟩
    rw [← hF0]; exact K n A
def p_tl (D : aD) : Prop := ∃ P S c, Tb D P S c ∧ (∀ k, 0 ≤ k → k ≤ P → Bs D P S c k) ∧ ∀ j, 0 ≤ j → j < S → 0 ≤ D 1201 j ∧ 0 ≤ D 2000 (D 1201 j)
theorem tl_ex (D : aD) : ∃ D', (∀ c', c' ≠ 62 → c' ≠ 69 → D' c' = D c') ∧ (p_tl D → (∀ n A, Ev (n + 1) 2 9 [am_r (some 62)] A D rv A D') ∧ ∀ P S c, Tb D P S c → (∀ k, 0 ≤ k → k ≤ P → Bs D P S c k) → Tl D (up (up D 62 9 0) 62 10 0) D' P S c P.toNat 0) := by
  by_cases h : p_tl D
  · obtain ⟨P, S, c, hT, hB, hs⟩ := h
    have hP := hT.2.2.1
    have hS := hT.2.2.2.1
    have hw := pw_f hS
    obtain ⟨D', T', K⟩ := K_tl hT hB hs P.toNat 0 (up (up D 62 9 0) 62 10 0) (by omega) ⟨by omega, by omega⟩ (fun c' a b => by rw [up_cf a, up_cf a]) (fun i a b => by rw [up_i b, up_i a]) (by rw [up_i (by decide), up_eq]; omega) (by rw [up_eq]; omega)
    refine ⟨D', T'.1, fun _ => ⟨fun n A => rl_X1_takeLeastRow ?_, fun P' S' c' hT' hB' => ?_⟩⟩
    · have := K n A
      rw [show P - (P.toNat : Int) = 0 by omega] at this; exact this
    · have eP : P' = P := by rw [← hT'.1, hT.1]
      have eS : S' = S := by rw [← hT'.2.1, hT.2.1]
      subst eP; subst eS
      have ec : ∀ k j, 0 ≤ k → k < P' → 0 ≤ j → j < S' → c k j = c' k j := fun k j a b e f => by rw [← hT.2.2.2.2.1 k j a b e f, ← hT'.2.2.2.2.1 k j a b e f]
      have q := cn_cg (num := fun j => D 2000 (D 1201 j)) hS.1 ec (-1) P'.toNat (by omega) 0
      obtain ⟨t1, t2, t3, t4, t5, t6⟩ := T'
      refine ⟨t1, t2, by rw [← q.1]; exact t3, by rw [← q.2.1]; exact t4, t5, fun i a b => by rw [← q.2.2 i]; exact t6 i a b⟩
  · exact ⟨D, fun _ _ _ => rfl, fun q => absurd q h⟩
noncomputable def u_tl (D : aD) : aD := Classical.choose (tl_ex D)
theorem ev_X1_takeLeastRow (hp : p_tl D) : Ev (n + 1) 2 9 [am_r (some 62)] A D rv A (u_tl D) := ((Classical.choose_spec (tl_ex D)).2 hp).1 n A
theorem fl_tl (D : aD) (t : Nat) (i : Int) (ht : Nat.ble t 49 = true) : u_tl D (900 + t) i = D (900 + t) i := by rw [show u_tl D (900 + t) = D (900 + t) from (Classical.choose_spec (tl_ex D)).1 _ (by omega) (by omega)]
abbrev P_X1_fill : Nat → Option am_E := am_fy tb_X1_fill
def K_X1_fill_2 (n : Nat) (A : aA) (D : aD) (i1 : Int) (a2 : Int) (a3 : Int) (D' : aD) : Prop := Lp n 6 P_X1_fill 2 [some (am_r (some 62)), some (am_r (some (A 14 i1))), some (am_i (wz a2)), some (am_i (wz a3)), none, none] [] A D rv A D'
def K_X1_fill_13 (n : Nat) (A : aA) (D : aD) (i1 : Int) (a2 : Int) (a3 : Int) (a4 : Int) (D' : aD) : Prop := Lp n 6 P_X1_fill 13 [some (am_r (some 62)), some (am_r (some (A 14 i1))), some (am_i (wz a2)), some (am_i (wz a3)), some (am_i (wz a4)), none] [] A D rv A D'
def K_X1_fill_116 (n : Nat) (A : aA) (D : aD) (a3 : Int) (D' : aD) : Prop := Lp n 6 P_X1_fill 116 [some (am_r (some 62)), none, none, some (am_i (wz a3)), none, none] [] A D rv A D'
def K_X1_fill_123 (n : Nat) (A : aA) (D : aD) (a3 : Int) (a4 : Int) (D' : aD) : Prop := Lp n 6 P_X1_fill 123 [some (am_r (some 62)), none, none, some (am_i (wz a3)), some (am_i (wz a4)), none] [] A D rv A D'
set_option maxRecDepth 100000 in
theorem rl_X1_fill {A : aA} {D D' : aD} (i1 : Int) (a2 : Int) (f1 : D 914 i1 = 1) (h2 : rg a2) (hp : K_X1_fill_2 (1) A D i1 a2 0 D') : Ev (1) (7) 6 [am_r (some 62), am_r (some (A 14 i1)), am_i (wz a2)] A D rv A D' := by
  refine Ev_of (c := 6) (P := P_X1_fill) (lo := [some (am_r (some 62)), some (am_r (some (A 14 i1))), some (am_i (wz a2)), none, none, none]) rfl rfl rfl (fun d hd s hr => ?_)
  refine ok (m_iconst (q := 1) rfl rfl rfl) ?_
  refine ok (m_istore_n (q := 2) (lo' := [some (am_r (some 62)), some (am_r (some (A 14 i1))), some (am_i (wz a2)), some (am_i (wz 0)), none, none]) rfl rfl rfl rfl rfl) ?_
  exact hp d hd _ hr
set_option maxRecDepth 100000 in
theorem rl_X1_fill_2 {A : aA} {D D' : aD} (i1 : Int) (a2 : Int) (a3 : Int) (f1 : D 914 i1 = 1) (h2 : rg a2) (h3 : rg a3) (hp : (if D 62 7 ≤ a3 then K_X1_fill_116 (1) A (fil D 68 448 0) (wr ((D 62 7) - 1)) D' else K_X1_fill_13 (1) A D i1 a2 a3 0 D')) : K_X1_fill_2 (1) A D i1 a2 a3 D' := by
  unfold K_X1_fill_2
  refine fun d hd s hr => ?_
  refine ok (m_iload_n (q := 3) rfl rfl rfl rfl) ?_
  refine ok (m_aload_n (q := 4) rfl rfl rfl rfl) ?_
  refine ok (m_gfs (z := 7) (q := 7) rfl rfl rfl hr rfl rfl rfl rfl rfl) ?_
  refine okc (m_cmpge (qt := 101) (qf := 10) rfl rfl h3 (Rp_rg hr 62 7) rfl rfl) (fun c1 => ?_) (fun c1 => ?_)
  · replace hp := ip c1 hp
    refine ok (m_aload_n (q := 102) rfl rfl rfl rfl) ?_
    refine ok (m_gfc (q := 105) rfl rfl rfl hr rfl rfl rfl) ?_
    refine ok (m_iconst (q := 106) rfl rfl rfl) ?_
    refine oke (e_cvd (x_cs (q := 109) rfl rfl rfl rfl rfl rfl rfl rfl rfl) (ev_fill 68 0 rfl rfl ⟨by decide, by decide⟩) (Nat.le_trans (by decide) hd) hr) (fun s2 r3 => ?_)
    refine ok (m_aload_n (q := 110) rfl rfl rfl rfl) ?_
    refine ok (m_gfs (z := 7) (q := 113) (w := D 62 7) rfl rfl rfl r3 rfl rfl rfl rfl rfl) ?_
    refine ok (m_iconst (q := 114) rfl rfl rfl) ?_
    refine ok (m_isub (q := 115) rfl rfl rfl) ?_
    refine ok (m_istore_n (q := 116) (lo' := [some (am_r (some 62)), some (am_r (some (A 14 i1))), some (am_i (wz a2)), some (am_i (wz (wr ((D 62 7) - 1)))), none, none]) rfl rfl rfl rfl rfl) ?_
    refine ok (mk rfl (lo' := [some (am_r (some 62)), none, none, some (am_i (wz (wr ((D 62 7) - 1)))), none, none]) rfl) ?_
    exact hp d hd _ r3
  · replace hp := iq c1 hp
    refine ok (m_iconst (q := 11) rfl rfl rfl) ?_
    refine ok (m_istore (q := 13) (lo' := [some (am_r (some 62)), some (am_r (some (A 14 i1))), some (am_i (wz a2)), some (am_i (wz a3)), some (am_i (wz 0)), none]) rfl rfl rfl rfl rfl) ?_
    exact hp d hd _ hr
set_option maxRecDepth 100000 in
theorem rl_X1_fill_13 {A : aA} {D D' : aD} (i1 : Int) (a2 : Int) (a3 : Int) (a4 : Int) (f1 : D 914 i1 = 1) (h2 : rg a2) (h3 : rg a3) (h4 : rg a4) (hp : (if D 62 8 ≤ a4 then K_X1_fill_2 (1) A D i1 a2 (wr (a3 + 1)) D' else (0 ≤ a4 ∧ a4 < 6 ∧ 0 ≤ D 1201 a4) ∧ (0 ≤ a3 ∧ a3 < 6 ∧ 0 ≤ D 1200 a3) ∧ (p_X7_unfitness D i1 (D 1201 a4) (D 1200 a3) a2) ∧ (if v_X7_unfitness D i1 (D 1201 a4) (D 1200 a3) a2 = 0 then (0 ≤ a4 ∧ a4 < 6) ∧ (0 ≤ a3 ∧ a3 < 6) ∧ (0 ≤ wr ((wr (a3 * 6)) + a4) ∧ wr ((wr (a3 * 6)) + a4) < 36) ∧ K_X1_fill_13 (1) A (up D 67 (wr ((wr (a3 * 6)) + a4)) (max 0 (wr ((D 66 a4) - (D 64 a3))))) i1 a2 a3 (wr (a4 + 1)) D' else (0 ≤ wr ((wr (a3 * 6)) + a4) ∧ wr ((wr (a3 * 6)) + a4) < 36) ∧ K_X1_fill_13 (1) A (up D 67 (wr ((wr (a3 * 6)) + a4)) (-1)) i1 a2 a3 (wr (a4 + 1)) D'))) : K_X1_fill_13 (1) A D i1 a2 a3 a4 D' := by
  unfold K_X1_fill_13
  refine fun d hd s hr => ?_
  refine ok (m_iload (q := 15) rfl rfl rfl rfl) ?_
  refine ok (m_aload_n (q := 16) rfl rfl rfl rfl) ?_
  refine ok (m_gfs (z := 8) (q := 19) rfl rfl rfl hr rfl rfl rfl rfl rfl) ?_
  refine okc (m_cmpge (qt := 95) (qf := 22) rfl rfl h4 (Rp_rg hr 62 8) rfl rfl) (fun c4 => ?_) (fun c4 => ?_)
  · replace hp := ip c4 hp
    refine ok (m_iinc (q := 98) (lo' := [some (am_r (some 62)), some (am_r (some (A 14 i1))), some (am_i (wz a2)), some (am_i (wz (wr (a3 + 1)))), some (am_i (wz a4)), none]) rfl rfl rfl rfl rfl rfl rfl) ?_
    refine ok (m_goto (q := 2) rfl rfl rfl) ?_
    refine ok (mk rfl (lo' := [some (am_r (some 62)), some (am_r (some (A 14 i1))), some (am_i (wz a2)), some (am_i (wz (wr (a3 + 1)))), none, none]) rfl) ?_
    exact hp d hd _ hr
  · replace hp := iq c4 hp
    refine ok (m_aload_n (q := 23) rfl rfl rfl rfl) ?_
    refine ok (m_aload_n (q := 24) rfl rfl rfl rfl) ?_
    have f_5 := Rp_fx2_1 hr
    refine ok (m_gfy (q := 27) rfl rfl rfl hr rfl rfl rfl) ?_
    refine ok (m_iload (q := 29) rfl rfl rfl rfl) ?_
    obtain ⟨g6, hp⟩ := hp
    refine ok (m_aal1 (q := 30) rfl rfl rfl hr g6 rfl) ?_
    have f_7 : D 910 (D 1201 a4) = 1 := Rp_ch1 (D := D) hr g6.2.2
    refine ok (m_aload_n (q := 31) rfl rfl rfl rfl) ?_
    have f_8 := Rp_fx2_0 hr
    refine ok (m_gfy (q := 34) rfl rfl rfl hr rfl rfl rfl) ?_
    refine ok (m_iload_n (q := 35) rfl rfl rfl rfl) ?_
    obtain ⟨g9, hp⟩ := hp
    refine ok (m_aal0 (q := 36) rfl rfl rfl hr g9 rfl) ?_
    have f_10 : D 911 (D 1200 a3) = 1 := Rp_ch0 (D := D) hr g9.2.2
    refine ok (m_iload_n (q := 37) rfl rfl rfl rfl) ?_
    obtain ⟨g13, hp⟩ := hp
    refine oke (e_ci (x_cv (q := 40) rfl rfl rfl rfl rfl rfl rfl rfl rfl rfl (is_ty hr rfl f1)) (ev_X7_unfitness (D := D) i1 (D 1201 a4) (D 1200 a3) a2 f1 f_7 f_10 h2 g13) (Nat.le_trans (by decide) hd) hr) (fun s11 r12 => ?_)
    refine okc (m_ifne (qt := 47) (qf := 43) rfl rfl (Ev_rg (ev_X7_unfitness (D := D) i1 (D 1201 a4) (D 1200 a3) a2 f1 f_7 f_10 h2 g13) hr) rfl rfl) (fun c14 => ?_) (fun c14 => ?_)
    · replace hp := ip c14 hp
      refine ok (m_iconst (q := 44) rfl rfl rfl) ?_
      refine ok (m_goto (q := 48) rfl rfl rfl) ?_
      refine ok (m_istore (q := 50) (lo' := [some (am_r (some 62)), some (am_r (some (A 14 i1))), some (am_i (wz a2)), some (am_i (wz a3)), some (am_i (wz a4)), some (am_i (wz 1))]) rfl rfl rfl rfl rfl) ?_
      refine ok (m_aload_n (q := 51) rfl rfl rfl rfl) ?_
      refine ok (m_gfc (q := 54) rfl rfl rfl r12 rfl rfl rfl) ?_
      refine ok (m_iload_n (q := 55) rfl rfl rfl rfl) ?_
      refine ok (m_bipush (q := 57) rfl rfl rfl) ?_
      refine ok (m_imul (q := 58) rfl rfl rfl) ?_
      refine ok (m_iload (q := 60) rfl rfl rfl rfl) ?_
      refine ok (m_iadd (q := 61) rfl rfl rfl) ?_
      refine ok (m_iload (q := 63) rfl rfl rfl rfl) ?_
      refine ok ((m_ifeq (qt := 87) (qf := 66) rfl rfl ⟨by decide, by decide⟩ rfl rfl).trans (if_neg (by decide))) ?_
      refine ok (m_iconst (q := 67) rfl rfl rfl) ?_
      refine ok (m_aload_n (q := 68) rfl rfl rfl rfl) ?_
      refine ok (m_gfc (q := 71) rfl rfl rfl r12 rfl rfl rfl) ?_
      refine ok (m_iload (q := 73) rfl rfl rfl rfl) ?_
      obtain ⟨g15, hp⟩ := hp
      refine ok (m_ials (q := 74) rfl rfl rfl r12 rfl rfl g15 rfl) ?_
      refine ok (m_aload_n (q := 75) rfl rfl rfl rfl) ?_
      refine ok (m_gfc (q := 78) rfl rfl rfl r12 rfl rfl rfl) ?_
      refine ok (m_iload_n (q := 79) rfl rfl rfl rfl) ?_
      obtain ⟨g16, hp⟩ := hp
      refine ok (m_ials (q := 80) rfl rfl rfl r12 rfl rfl g16 rfl) ?_
      refine ok (m_isub (q := 81) rfl rfl rfl) ?_
      refine ok (m_max (q := 84) rfl rfl rfl ⟨by decide, by decide⟩ (rg_wr _) rfl) ?_
      refine ok (m_goto (q := 88) rfl rfl rfl) ?_
      obtain ⟨g19, hp⟩ := hp
      refine oke (e_ias (q := 89) rfl rfl rfl r12 rfl rfl g19 (rg_max ⟨by decide, by decide⟩ (rg_wr _))) (fun s18 r17 => ?_)
      refine ok (m_iinc (q := 92) (lo' := [some (am_r (some 62)), some (am_r (some (A 14 i1))), some (am_i (wz a2)), some (am_i (wz a3)), some (am_i (wz (wr (a4 + 1)))), some (am_i (wz 1))]) rfl rfl rfl rfl rfl rfl rfl) ?_
      refine ok (m_goto (q := 13) rfl rfl rfl) ?_
      refine ok (mk rfl (lo' := [some (am_r (some 62)), some (am_r (some (A 14 i1))), some (am_i (wz a2)), some (am_i (wz a3)), some (am_i (wz (wr (a4 + 1)))), none]) rfl) ?_
      exact hp d hd _ r17
    · replace hp := iq c14 hp
      refine ok (m_iconst (q := 48) rfl rfl rfl) ?_
      refine ok (m_istore (q := 50) (lo' := [some (am_r (some 62)), some (am_r (some (A 14 i1))), some (am_i (wz a2)), some (am_i (wz a3)), some (am_i (wz a4)), some (am_i (wz 0))]) rfl rfl rfl rfl rfl) ?_
      refine ok (m_aload_n (q := 51) rfl rfl rfl rfl) ?_
      refine ok (m_gfc (q := 54) rfl rfl rfl r12 rfl rfl rfl) ?_
      refine ok (m_iload_n (q := 55) rfl rfl rfl rfl) ?_
      refine ok (m_bipush (q := 57) rfl rfl rfl) ?_
      refine ok (m_imul (q := 58) rfl rfl rfl) ?_
      refine ok (m_iload (q := 60) rfl rfl rfl rfl) ?_
      refine ok (m_iadd (q := 61) rfl rfl rfl) ?_
      refine ok (m_iload (q := 63) rfl rfl rfl rfl) ?_
      refine ok ((m_ifeq (qt := 87) (qf := 66) rfl rfl ⟨by decide, by decide⟩ rfl rfl).trans (if_pos (by decide))) ?_
      refine ok (m_iconst (q := 88) rfl rfl rfl) ?_
      obtain ⟨g22, hp⟩ := hp
      refine oke (e_ias (q := 89) rfl rfl rfl r12 rfl rfl g22 ⟨by decide, by decide⟩) (fun s21 r20 => ?_)
      refine ok (m_iinc (q := 92) (lo' := [some (am_r (some 62)), some (am_r (some (A 14 i1))), some (am_i (wz a2)), some (am_i (wz a3)), some (am_i (wz (wr (a4 + 1)))), some (am_i (wz 0))]) rfl rfl rfl rfl rfl rfl rfl) ?_
      refine ok (m_goto (q := 13) rfl rfl rfl) ?_
      refine ok (mk rfl (lo' := [some (am_r (some 62)), some (am_r (some (A 14 i1))), some (am_i (wz a2)), some (am_i (wz a3)), some (am_i (wz (wr (a4 + 1)))), none]) rfl) ?_
      exact hp d hd _ r20
set_option maxRecDepth 100000 in
theorem rl_X1_fill_116 {A : aA} {D D' : aD} (a3 : Int) (h3 : rg a3) (hp : (if a3 < 0 then (p_tl D) ∧ (D' = (u_tl D)) else K_X1_fill_123 (1) A D a3 0 D')) : K_X1_fill_116 (1) A D a3 D' := by
  unfold K_X1_fill_116
  refine fun d hd s hr => ?_
  refine ok (m_iload_n (q := 117) rfl rfl rfl rfl) ?_
  refine okc (m_iflt (qt := 165) (qf := 120) rfl rfl h3 rfl rfl) (fun c23 => ?_) (fun c23 => ?_)
  · replace hp := ip c23 hp
    refine ok (m_aload_n (q := 166) rfl rfl rfl rfl) ?_
    obtain ⟨g26, hp⟩ := hp
    refine oke (e_cvd (x_cv (q := 169) rfl rfl rfl rfl rfl rfl rfl rfl rfl rfl (is_st hr rfl rfl)) (ev_X1_takeLeastRow (D := D) g26) (Nat.le_trans (by decide) hd) hr) (fun s24 r25 => ?_)
    exact ok (m_retv rfl rfl) (ok_vq r25 hp)
  · replace hp := iq c23 hp
    refine ok (m_iconst (q := 121) rfl rfl rfl) ?_
    refine ok (m_istore (q := 123) (lo' := [some (am_r (some 62)), none, none, some (am_i (wz a3)), some (am_i (wz 0)), none]) rfl rfl rfl rfl rfl) ?_
    exact hp d hd _ hr
set_option maxRecDepth 100000 in
theorem rl_X1_fill_123 {A : aA} {D D' : aD} (a3 : Int) (a4 : Int) (h3 : rg a3) (h4 : rg a4) (hp : (if o_shl 1 (D 62 8) ≤ a4 then K_X1_fill_116 (1) A D (wr (a3 + (-1))) D' else (p_bf D a3 a4) ∧ (0 ≤ wr ((wr (a3 * 64)) + a4) ∧ wr ((wr (a3 * 64)) + a4) < 448) ∧ K_X1_fill_123 (1) A (up D 68 (wr ((wr (a3 * 64)) + a4)) (w_bf D a3 a4)) a3 (wr (a4 + 1)) D')) : K_X1_fill_123 (1) A D a3 a4 D' := by
  unfold K_X1_fill_123
  refine fun d hd s hr => ?_
  refine ok (m_iload (q := 125) rfl rfl rfl rfl) ?_
  refine ok (m_iconst (q := 126) rfl rfl rfl) ?_
  refine ok (m_aload_n (q := 127) rfl rfl rfl rfl) ?_
  refine ok (m_gfs (z := 8) (q := 130) rfl rfl rfl hr rfl rfl rfl rfl rfl) ?_
  refine ok (m_ishl (q := 131) rfl rfl rfl) ?_
  refine okc (m_cmpge (qt := 159) (qf := 134) rfl rfl h4 (rg_o _) rfl rfl) (fun c27 => ?_) (fun c27 => ?_)
  · replace hp := ip c27 hp
    refine ok (m_iinc (q := 162) (lo' := [some (am_r (some 62)), none, none, some (am_i (wz (wr (a3 + (-1))))), some (am_i (wz a4)), none]) rfl rfl rfl rfl rfl rfl rfl) ?_
    refine ok (m_goto (q := 116) rfl rfl rfl) ?_
    refine ok (mk rfl (lo' := [some (am_r (some 62)), none, none, some (am_i (wz (wr (a3 + (-1))))), none, none]) rfl) ?_
    exact hp d hd _ hr
  · replace hp := iq c27 hp
    refine ok (m_aload_n (q := 135) rfl rfl rfl rfl) ?_
    refine ok (m_gfc (q := 138) rfl rfl rfl hr rfl rfl rfl) ?_
    refine ok (m_iload_n (q := 139) rfl rfl rfl rfl) ?_
    refine ok (m_bipush (q := 141) rfl rfl rfl) ?_
    refine ok (m_imul (q := 142) rfl rfl rfl) ?_
    refine ok (m_iload (q := 144) rfl rfl rfl rfl) ?_
    refine ok (m_iadd (q := 145) rfl rfl rfl) ?_
    refine ok (m_aload_n (q := 146) rfl rfl rfl rfl) ?_
    refine ok (m_iload_n (q := 147) rfl rfl rfl rfl) ?_
    refine ok (m_iload (q := 149) rfl rfl rfl rfl) ?_
    obtain ⟨g30, hp⟩ := hp
    refine oke (e_ci (x_cv (q := 152) rfl rfl rfl rfl rfl rfl rfl rfl rfl rfl (is_st hr rfl rfl)) (ev_X1_bestFrom (D := D) a3 a4 h3 h4 g30) (Nat.le_trans (by decide) hd) hr) (fun s28 r29 => ?_)
    obtain ⟨g33, hp⟩ := hp
    refine oke (e_ias (q := 153) rfl rfl rfl r29 rfl rfl g33 (Ev_rg (ev_X1_bestFrom (D := D) a3 a4 h3 h4 g30) hr)) (fun s32 r31 => ?_)
    refine ok (m_iinc (q := 156) (lo' := [some (am_r (some 62)), none, none, some (am_i (wz a3)), some (am_i (wz (wr (a4 + 1)))), none]) rfl rfl rfl rfl rfl rfl rfl) ?_
    refine ok (m_goto (q := 123) rfl rfl rfl) ?_
    exact hp d hd _ r31
end Cx
