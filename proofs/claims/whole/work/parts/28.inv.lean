/-! What holds between two calls: the class's things and the reference's rows tell the same. -/
def I_ct (D : aD) : Prop :=
  (D 32 14 = D 70 0 ∧ 0 ≤ D 70 0 ∧ D 70 0 ≤ 999) ∧ (D 1002 0 = D 70 1 ∧ 0 ≤ D 70 1 ∧ D 70 1 ≤ 24) ∧ (D 32 15 = D 70 2 ∧ 0 ≤ D 70 2 ∧ D 70 2 ≤ 12) ∧ (D 1002 1 = D 70 3 ∧ 0 ≤ D 70 3 ∧ D 70 3 ≤ 30) ∧ (D 1002 5 = D 70 4 ∧ 0 ≤ D 70 4 ∧ D 70 4 ≤ 60)
def I_cu (D : aD) : Prop :=
  (D 1002 2 = D 70 51 ∧ 0 ≤ D 70 51 ∧ D 70 51 ≤ 60) ∧ (D 1002 3 = D 70 78 ∧ 0 ≤ D 70 78 ∧ D 70 78 ≤ 60) ∧ (D 32 16 = D 70 83 ∧ 0 ≤ D 70 83 ∧ D 70 83 ≤ 30) ∧ (D 32 17 = D 70 84 ∧ 0 ≤ D 70 84 ∧ D 70 84 ≤ 9999 * D 70 83)
def I_tp (D : aD) : Prop :=
  (D 47 2 = D 70 28 ∧ 0 ≤ D 70 28 ∧ D 70 28 ≤ 700) ∧ D 47 3 = D 70 32 ∧ ∀ i, 0 ≤ i → i < D 70 28 → D 48 i = D 106 i ∧ -128 ≤ D 106 i ∧ D 106 i ≤ 127
def I_lg (D : aD) : Prop := ∀ i, 0 ≤ i → i < 5 → D 33 i = D 76 i ∧ 0 ≤ D 76 i ∧ D 76 i ≤ 30
def I_hs (D : aD) : Prop := ∀ i, 0 ≤ i → i < D 70 2 → D 34 i = D 75 i ∧ 0 ≤ D 75 i ∧ D 75 i ≤ 4
def I_sv (D : aD) : Prop := ∀ i, 0 ≤ i → i < D 70 1 → D 2000 i = i ∧ D 2001 i = D 71 i ∧ D 2002 i = D 72 i ∧ D 2003 i = D 73 i ∧ -20000 ≤ D 71 i ∧ D 71 i ≤ 999 ∧ 0 ≤ D 72 i ∧ D 72 i ≤ 255 ∧ 0 ≤ D 73 i ∧ D 73 i ≤ 3
def I_pl (D : aD) : Prop := ∀ i, 0 ≤ i → i < D 70 3 → D 2100 i = i ∧ D 2101 i = D 77 i ∧ D 2102 i = D 75 (D 77 i) ∧ D 2103 i = D 78 i ∧ D 2104 i = D 79 i ∧ D 2105 i = D 80 i ∧ D 2106 i = D 81 i ∧ D 2107 i = D 82 i ∧ 0 ≤ D 77 i ∧ D 77 i < D 70 2 ∧ 0 ≤ D 78 i ∧ D 78 i ≤ 5 ∧ 1 ≤ D 79 i ∧ D 79 i ≤ 999 ∧ 0 ≤ D 80 i ∧ D 80 i ≤ 255 ∧ 0 ≤ D 81 i ∧ D 81 i ≤ 99 ∧ -1 ≤ D 82 i ∧ D 82 i ≤ 3
def I_pg (D : aD) : Prop := ∀ i, 0 ≤ i → i < D 70 4 → D 2500 i = i ∧ D 2501 i = D 83 i ∧ D 2502 i = D 84 i ∧ D 2503 i = D 85 i ∧ D 2504 i = D 86 i ∧ D 2505 i = D 88 i ∧ (D 2506 i = if D 91 i = 5000 then -1 else D 91 i) ∧ (D 2509 i = if D 87 i = 5000 then -1 else D 87 i) ∧ 0 ≤ D 83 i ∧ D 83 i < D 70 1 ∧ 0 ≤ D 84 i ∧ D 84 i < D 70 3 ∧ 0 ≤ D 85 i ∧ D 85 i ≤ D 70 0 ∧ 0 ≤ D 86 i ∧ D 86 i ≤ 1029 ∧ (D 87 i = 5000 ∨ (0 ≤ D 87 i ∧ D 87 i ≤ 999)) ∧ ((D 88 i = -1 ∧ D 91 i = 5000 ∧ D 2508 i = -1) ∨ (D 85 i ≤ D 88 i ∧ D 88 i ≤ D 70 0 ∧ 0 ≤ D 91 i ∧ D 91 i ≤ 1029 ∧ D 2508 i = D 90 i ∧ D 2507 i = D 89 i ∧ 0 ≤ D 89 i ∧ D 89 i ≤ 99 ∧ 0 ≤ D 90 i ∧ D 90 i ≤ 4))
def I_bx (D : aD) : Prop := (∀ i, 0 ≤ i → i < D 70 4 → (D 2510 i = 1 ∧ ∃ k, 0 ≤ k ∧ k < D 70 83 ∧ D 134 k = i) ∨ (D 2510 i = 0 ∧ ∀ k, 0 ≤ k → k < D 70 83 → D 134 k ≠ i)) ∧ ∀ k, 0 ≤ k → k < D 70 83 → 0 ≤ D 134 k ∧ D 134 k < D 70 4
def I_tm (D : aD) : Prop := ∀ i, 0 ≤ i → i < D 70 51 → D 2200 i = D 108 i ∧ D 2201 i = D 109 i ∧ D 2202 i = D 110 i ∧ D 2203 i = D 113 i ∧ D 2204 i = D 111 i ∧ D 2205 i = D 112 i ∧ 0 ≤ D 108 i ∧ D 108 i < D 70 2 ∧ 0 ≤ D 109 i ∧ D 109 i < D 70 1 ∧ 0 ≤ D 110 i ∧ D 110 i ≤ 9 ∧ 0 ≤ D 113 i ∧ D 113 i ≤ D 70 0 ∧ 0 ≤ D 111 i ∧ D 111 i ≤ D 112 i ∧ D 112 i ≤ D 70 0
def I_ak (D : aD) : Prop := ∀ i, 0 ≤ i → i < D 70 78 → D 2300 i = D 130 i ∧ D 2301 i = D 131 i ∧ D 2302 i = v_X12_ageOn D (D 130 i) (D 132 i) ∧ D 2303 i = D 133 i ∧ 0 ≤ D 130 i ∧ D 130 i < D 70 1 ∧ 0 ≤ D 131 i ∧ D 131 i < D 70 3 ∧ 0 ≤ D 132 i ∧ D 132 i ≤ 999 ∧ 0 ≤ D 133 i ∧ D 133 i ≤ 1
def I_ws (D : aD) : Prop :=
  (∀ s, 0 ≤ s → s < D 70 1 → 0 ≤ D 3000 s ∧ D 3000 s ≤ 13 ∧ (∀ k, 0 ≤ k → k < D 3000 s → 0 ≤ D 3001 (1024 * s + k) ∧ D 3001 (1024 * s + k) < D 70 3 ∧ D 114 (30 * s + D 3001 (1024 * s + k)) = k + 1) ∧ ∀ p, 0 ≤ p → p < 30 → D 114 (30 * s + p) = 0 ∨ (1 ≤ D 114 (30 * s + p) ∧ D 114 (30 * s + p) ≤ D 3000 s ∧ D 3001 (1024 * s + (D 114 (30 * s + p) - 1)) = p)) ∧
  (∀ q, 0 ≤ q → q < D 70 3 → 0 ≤ D 3100 q ∧ D 3100 q ≤ 13 ∧ (∀ k, 0 ≤ k → k < D 3100 q → 0 ≤ D 3101 (1024 * q + k) ∧ D 3101 (1024 * q + k) < D 70 1 ∧ D 115 (24 * q + D 3101 (1024 * q + k)) = k + 1) ∧ ∀ s, 0 ≤ s → s < 24 → D 115 (24 * q + s) = 0 ∨ (1 ≤ D 115 (24 * q + s) ∧ D 115 (24 * q + s) ≤ D 3100 q ∧ D 3101 (1024 * q + (D 115 (24 * q + s) - 1)) = s))
def I_wf (D : aD) : Prop := (∀ k, 30 * D 70 1 ≤ k → k < 720 → D 114 k = 0) ∧ (∀ k, 24 * D 70 3 ≤ k → k < 720 → D 115 k = 0)
def I_td (D : aD) : Prop := ∀ s, 0 ≤ s → s < 24 → D 36 s = D 116 s - 1 ∧ 0 ≤ D 116 s ∧ D 116 s ≤ D 70 3 ∧ (D 70 1 ≤ s → D 116 s = 0)
def I_cn (D : aD) : Prop := (D 62 7 = D 70 68 ∧ 0 ≤ D 70 68 ∧ D 70 68 ≤ 6) ∧ (D 62 8 = D 70 69 ∧ 0 ≤ D 70 69 ∧ D 70 69 ≤ 6) ∧
  (∀ k, 0 ≤ k → k < D 70 68 → D 1200 k = D 124 k ∧ D 64 k = D 125 k ∧ 0 ≤ D 124 k ∧ D 124 k < D 70 3 ∧ 0 ≤ D 125 k ∧ D 125 k ≤ 1999) ∧
  (∀ k, 0 ≤ k → k < D 70 69 → 0 ≤ D 126 k ∧ D 126 k < D 70 1 ∧ 0 ≤ D 127 k ∧ D 127 k ≤ 1999 ∧ ∃ j, 0 ≤ j ∧ j < D 70 69 ∧ D 1201 j = D 126 k ∧ D 66 j = D 127 k) ∧
  (∀ j, 0 ≤ j → j < D 70 69 → ∃ k, 0 ≤ k ∧ k < D 70 69 ∧ D 1201 j = D 126 k ∧ D 66 j = D 127 k) ∧
  (∀ j j', 0 ≤ j → j < j' → j' < D 70 69 → D 1201 j < D 1201 j') ∧ (∀ k k', 0 ≤ k → k < k' → k' < D 70 69 → D 126 k ≠ D 126 k') ∧ (∀ k k', 0 ≤ k → k < k' → k' < D 70 68 → D 124 k ≠ D 124 k')
def Iv (D : aD) : Prop := I_ct D ∧ I_cu D ∧ I_tp D ∧ I_lg D ∧ I_hs D ∧ I_sv D ∧ I_pl D ∧ I_pg D ∧ I_bx D ∧ I_tm D ∧ I_ak D ∧ I_ws D ∧ I_wf D ∧ I_td D ∧ I_cn D
section Iv_
variable {D D' : aD}
theorem Iv.ct (h : Iv D) : I_ct D := h.1
theorem Iv.cu (h : Iv D) : I_cu D := h.2.1
theorem Iv.tp (h : Iv D) : I_tp D := h.2.2.1
theorem Iv.lg (h : Iv D) : I_lg D := h.2.2.2.1
theorem Iv.hs (h : Iv D) : I_hs D := h.2.2.2.2.1
theorem Iv.sv (h : Iv D) : I_sv D := h.2.2.2.2.2.1
theorem Iv.pl (h : Iv D) : I_pl D := h.2.2.2.2.2.2.1
theorem Iv.pg (h : Iv D) : I_pg D := h.2.2.2.2.2.2.2.1
theorem Iv.bx (h : Iv D) : I_bx D := h.2.2.2.2.2.2.2.2.1
theorem Iv.tm (h : Iv D) : I_tm D := h.2.2.2.2.2.2.2.2.2.1
theorem Iv.ak (h : Iv D) : I_ak D := h.2.2.2.2.2.2.2.2.2.2.1
theorem Iv.ws (h : Iv D) : I_ws D := h.2.2.2.2.2.2.2.2.2.2.2.1
theorem Iv.wf (h : Iv D) : I_wf D := h.2.2.2.2.2.2.2.2.2.2.2.2.1
theorem Iv.td (h : Iv D) : I_td D := h.2.2.2.2.2.2.2.2.2.2.2.2.2.1
theorem Iv.cn (h : Iv D) : I_cn D := h.2.2.2.2.2.2.2.2.2.2.2.2.2.2
/-- the same on all codes that are seen always -/
def Sm (D' D : aD) : Prop := ∀ c, Nat.ble (lev c) 0 = true → D' c = D c
theorem Sm.refl (D : aD) : Sm D D := fun _ _ => rfl
theorem Sm.trans {D1 D2 D3 : aD} (h : Sm D1 D2) (h' : Sm D2 D3) : Sm D1 D3 := fun c q => (h c q).trans (h' c q)
theorem Sm.symm (h : Sm D' D) : Sm D D' := fun c q => (h c q).symm
theorem Sm.up {c : Nat} {i v : Int} (h : Sm D' D) (hc : Nat.ble (lev c) 0 = false) : Sm (up D' c i v) D := fun c' q => by
  rw [up_cf (fun e => by rw [e, hc] at q; cases q)]; exact h c' q
theorem Sm.fil {c m : Nat} {v : Int} (h : Sm D' D) (hc : Nat.ble (lev c) 0 = false) : Sm (fil D' c m v) D := fun c' q => by
  rw [fil_c (fun e => by rw [e, hc] at q; cases q)]; exact h c' q
theorem Iv_cg (e : Sm D' D) (h : Iv D) : Iv D' := by
  unfold Iv I_ct I_cu I_tp I_lg I_hs I_sv I_pl I_pg I_bx I_tm I_ak I_ws I_wf I_td I_cn v_X12_ageOn at *
  simp only [e 32 rfl, e 70 rfl, e 1002 rfl, e 47 rfl, e 48 rfl, e 106 rfl, e 33 rfl, e 76 rfl, e 34 rfl, e 75 rfl, e 2000 rfl, e 2001 rfl, e 2002 rfl, e 2003 rfl, e 71 rfl, e 72 rfl, e 73 rfl, e 2100 rfl, e 2101 rfl, e 2102 rfl, e 2103 rfl, e 2104 rfl, e 2105 rfl, e 2106 rfl, e 2107 rfl, e 77 rfl, e 78 rfl, e 79 rfl, e 80 rfl, e 81 rfl, e 82 rfl, e 2500 rfl, e 2501 rfl, e 2502 rfl, e 2503 rfl, e 2504 rfl, e 2505 rfl, e 2506 rfl, e 2507 rfl, e 2508 rfl, e 2509 rfl, e 2510 rfl, e 83 rfl, e 84 rfl, e 85 rfl, e 86 rfl, e 87 rfl, e 88 rfl, e 89 rfl, e 90 rfl, e 91 rfl, e 134 rfl, e 2200 rfl, e 2201 rfl, e 2202 rfl, e 2203 rfl, e 2204 rfl, e 2205 rfl, e 108 rfl, e 109 rfl, e 110 rfl, e 111 rfl, e 112 rfl, e 113 rfl, e 2300 rfl, e 2301 rfl, e 2302 rfl, e 2303 rfl, e 130 rfl, e 131 rfl, e 132 rfl, e 133 rfl, e 3000 rfl, e 3001 rfl, e 3100 rfl, e 3101 rfl, e 114 rfl, e 115 rfl, e 36 rfl, e 116 rfl, e 62 rfl, e 1200 rfl, e 1201 rfl, e 64 rfl, e 66 rfl, e 124 rfl, e 125 rfl, e 126 rfl, e 127 rfl]
  exact h
theorem kn_eq (h : I_pg D) {p k : Int} (h0 : 0 ≤ p) (h1 : p < D 70 4) (hk : k ≤ 999) : v_X5_isKnownBy D p k = v_X12_isKnown D p k := by
  have q := h p h0 h1
  unfold v_X5_isKnownBy v_X12_isKnown
  omega
theorem kl_eq (h : I_pg D) (h2 : D 70 0 ≤ 999) {p k : Int} (h0 : 0 ≤ p) (h1 : p < D 70 4) (hk : k ≤ 999) : v_X5_isKnownLeftBy D p k = if v_X12_endOf D p k = 5000 then 0 else 1 := by
  have q := h p h0 h1
  unfold v_X5_isKnownLeftBy v_X12_endOf
  omega
theorem en_rg (h : I_pg D) (h2 : D 70 0 ≤ 999) {p k : Int} (h0 : 0 ≤ p) (h1 : p < D 70 4) : v_X12_endOf D p k = 5000 ∨ (-1 ≤ v_X12_endOf D p k ∧ v_X12_endOf D p k ≤ 999) := by
  have q := h p h0 h1
  unfold v_X12_endOf
  omega
theorem en_eq (h : I_pg D) (h2 : D 70 0 ≤ 999) {p k : Int} (h0 : 0 ≤ p) (h1 : p < D 70 4) (hk : k ≤ 999) : v_X5_endAsKnown D p k = if v_X12_endOf D p k = 5000 then 1000 else v_X12_endOf D p k := by
  have q := h p h0 h1
  unfold v_X5_endAsKnown v_X5_isKnownLeftBy v_X12_endOf
  omega
theorem srv_eq (h : Iv D) {p : Int} (h0 : 0 ≤ p) (h1 : p < D 70 4) : D 2000 (D 2501 p) = D 83 p := by
  have q := h.pg p h0 h1
  rw [q.2.1]
  exact (h.sv (D 83 p) (by omega) (by omega)).1
theorem plc_eq (h : Iv D) {p : Int} (h0 : 0 ≤ p) (h1 : p < D 70 4) : D 2100 (D 2502 p) = D 84 p ∧ D 2101 (D 2502 p) = D 77 (D 84 p) ∧ D 2103 (D 2502 p) = D 78 (D 84 p) ∧ D 2104 (D 2502 p) = D 79 (D 84 p) ∧ D 2102 (D 2502 p) = D 75 (D 77 (D 84 p)) := by
  have q := h.pg p h0 h1
  rw [q.2.2.1]
  have q2 := h.pl (D 84 p) (by omega) (by omega)
  exact ⟨q2.1, q2.2.1, q2.2.2.2.1, q2.2.2.2.2.1, q2.2.2.1⟩
end Iv_
/-- where a servant is -/
def inStep (D : aD) (s d k : Int) (b p : Int) : Int := if D 83 p = s ∧ ¬ v_X12_isKnown D p k = 0 ∧ D 85 p ≤ d ∧ d < v_X12_endOf D p k ∧ (b = -1 ∨ D 85 b ≤ D 85 p) then p else b
def w_inOf (D : aD) (s d k : Int) : Int := foi (inStep D s d k) (-1) (D 70 4)
def p_inOf (D : aD) (_ d k : Int) : Prop := Iv D ∧ (0 ≤ d ∧ d ≤ 999) ∧ (0 ≤ k ∧ k ≤ 999)
theorem inUp {D : aD} {s d k : Int} {N : Int} : ∀ j, 0 ≤ j → j ≤ N → -1 ≤ foi (inStep D s d k) (-1) j ∧ foi (inStep D s d k) (-1) j < j ∨ (foi (inStep D s d k) (-1) j = -1) := by
  refine foi_ind (Q := fun j x => -1 ≤ x ∧ x < j ∨ x = -1) (Or.inr rfl) (fun j x h0 h1 q => ?_)
  unfold inStep
  split <;> omega
theorem inOf_b {D : aD} {s d k : Int} (h : 0 ≤ D 70 4) : -1 ≤ w_inOf D s d k ∧ (w_inOf D s d k < D 70 4 ∨ w_inOf D s d k = -1) := by
  have := inUp (D := D) (s := s) (d := d) (k := k) (N := D 70 4) (D 70 4) h (Int.le_refl _)
  unfold w_inOf
  omega
abbrev P_X12_inOf : Nat → Option am_E := am_fy tb_X12_inOf
def K_X12_inOf_6 (n : Nat) (A : aA) (D : aD) (a1 : Int) (a2 : Int) (a3 : Int) (a4 : Int) (a5 : Int) (x : Int) (D' : aD) : Prop := Lp n 1 P_X12_inOf 6 [some (am_r (some 70)), some (am_i (wz a1)), some (am_i (wz a2)), some (am_i (wz a3)), some (am_i (wz a4)), some (am_i (wz a5))] [] A D (ri x) A D'
set_option maxRecDepth 100000 in
theorem rl_X12_inOf {n : Nat} {A : aA} {D D' : aD} (a1 : Int) (a2 : Int) (a3 : Int) (h1 : rg a1) (h2 : rg a2) (h3 : rg a3) {x : Int} (hp : K_X12_inOf_6 (n) A D a1 a2 a3 (-1) 0 x D') : Ev (n) (2) 141 [am_r (some 70), am_i (wz a1), am_i (wz a2), am_i (wz a3)] A D (ri x) A D' := by
  refine Ev_of (c := 1) (P := P_X12_inOf) (lo := [some (am_r (some 70)), some (am_i (wz a1)), some (am_i (wz a2)), some (am_i (wz a3)), none, none]) rfl rfl rfl (fun d hd s hr => ?_)
  refine ok (m_iconst (q := 1) rfl rfl rfl) ?_
  refine ok (m_istore (q := 3) (lo' := [some (am_r (some 70)), some (am_i (wz a1)), some (am_i (wz a2)), some (am_i (wz a3)), some (am_i (wz (-1))), none]) rfl rfl rfl rfl rfl) ?_
  refine ok (m_iconst (q := 4) rfl rfl rfl) ?_
  refine ok (m_istore (q := 6) (lo' := [some (am_r (some 70)), some (am_i (wz a1)), some (am_i (wz a2)), some (am_i (wz a3)), some (am_i (wz (-1))), some (am_i (wz 0))]) rfl rfl rfl rfl rfl) ?_
  exact hp d hd _ hr
set_option maxRecDepth 100000 in
theorem rl_X12_inOf_6 {n : Nat} {A : aA} {D D' : aD} (a1 : Int) (a2 : Int) (a3 : Int) (a4 : Int) (a5 : Int) (h1 : rg a1) (h2 : rg a2) (h3 : rg a3) (h4 : rg a4) (h5 : rg a5) {x : Int} (hp : (if D 70 4 ≤ a5 then (x = a4 ∧ D' = D) else (0 ≤ a5 ∧ a5 < 60) ∧ (if D 83 a5 = a1 then (p_X12_isKnown D a5 a3) ∧ (if v_X12_isKnown D a5 a3 = 0 then K_X12_inOf_6 (n) A D a1 a2 a3 a4 (wr (a5 + 1)) x D' else (if a2 < D 85 a5 then K_X12_inOf_6 (n) A D a1 a2 a3 a4 (wr (a5 + 1)) x D' else (p_X12_endOf D a5 a3) ∧ (if v_X12_endOf D a5 a3 ≤ a2 then K_X12_inOf_6 (n) A D a1 a2 a3 a4 (wr (a5 + 1)) x D' else (if a4 = (-1) then K_X12_inOf_6 (n) A D a1 a2 a3 a5 (wr (a5 + 1)) x D' else (0 ≤ a4 ∧ a4 < 60) ∧ (if D 85 a5 < D 85 a4 then K_X12_inOf_6 (n) A D a1 a2 a3 a4 (wr (a5 + 1)) x D' else K_X12_inOf_6 (n) A D a1 a2 a3 a5 (wr (a5 + 1)) x D'))))) else K_X12_inOf_6 (n) A D a1 a2 a3 a4 (wr (a5 + 1)) x D'))) : K_X12_inOf_6 (n) A D a1 a2 a3 a4 a5 x D' := by
  unfold K_X12_inOf_6
  refine fun d hd s hr => ?_
  refine ok (m_iload (q := 8) rfl rfl rfl rfl) ?_
  refine ok (m_aload_n (q := 9) rfl rfl rfl rfl) ?_
  refine ok (m_gfs (z := 4) (q := 12) rfl rfl rfl hr rfl rfl rfl rfl rfl) ?_
  refine okc (m_cmpge (qt := 91) (qf := 15) rfl rfl h5 (Rp_rg hr 70 4) rfl rfl) (fun c1 => ?_) (fun c1 => ?_)
  · replace hp := ip c1 hp
    refine ok (m_iload (q := 93) rfl rfl rfl rfl) ?_
    exact ok (m_reti rfl rfl) (ok_iq hr h4 hp)
  · replace hp := iq c1 hp
    refine ok (m_aload_n (q := 16) rfl rfl rfl rfl) ?_
    refine ok (m_gfc (q := 19) rfl rfl rfl hr rfl rfl rfl) ?_
    refine ok (m_iload (q := 21) rfl rfl rfl rfl) ?_
    obtain ⟨g2, hp⟩ := hp
    refine ok (m_ials (q := 22) rfl rfl rfl hr rfl rfl g2 rfl) ?_
    refine ok (m_iload_n (q := 23) rfl rfl rfl rfl) ?_
    refine okc (m_cmpne (qt := 85) (qf := 26) rfl rfl (Rp_rg hr 83 a5) h1 rfl rfl) (fun c3 => ?_) (fun c3 => ?_)
    · replace hp := ip c3 hp
      refine ok (m_aload_n (q := 27) rfl rfl rfl rfl) ?_
      refine ok (m_iload (q := 29) rfl rfl rfl rfl) ?_
      refine ok (m_iload_n (q := 30) rfl rfl rfl rfl) ?_
      obtain ⟨g6, hp⟩ := hp
      refine oke (e_ci (x_cv (q := 33) rfl rfl rfl rfl rfl rfl rfl rfl rfl rfl (is_st hr rfl rfl)) (ev_X12_isKnown (D := D) a5 a3 h5 h3 g6) (Nat.le_trans (by decide) hd) hr) (fun s4 r5 => ?_)
      refine okc (m_ifeq (qt := 85) (qf := 36) rfl rfl (Ev_rg (ev_X12_isKnown (D := D) a5 a3 h5 h3 g6) hr) rfl rfl) (fun c7 => ?_) (fun c7 => ?_)
      · replace hp := ip c7 hp
        refine ok (m_iinc (q := 88) (lo' := [some (am_r (some 70)), some (am_i (wz a1)), some (am_i (wz a2)), some (am_i (wz a3)), some (am_i (wz a4)), some (am_i (wz (wr (a5 + 1))))]) rfl rfl rfl rfl rfl rfl rfl) ?_
        refine ok (m_goto (q := 6) rfl rfl rfl) ?_
        exact hp d hd _ r5
      · replace hp := iq c7 hp
        refine ok (m_aload_n (q := 37) rfl rfl rfl rfl) ?_
        refine ok (m_gfc (q := 40) rfl rfl rfl r5 rfl rfl rfl) ?_
        refine ok (m_iload (q := 42) rfl rfl rfl rfl) ?_
        refine ok (m_ials (q := 43) rfl rfl rfl r5 rfl rfl g2 rfl) ?_
        refine ok (m_iload_n (q := 44) rfl rfl rfl rfl) ?_
        refine okc (m_cmpgt (qt := 85) (qf := 47) rfl rfl (Rp_rg r5 85 a5) h2 rfl rfl) (fun c8 => ?_) (fun c8 => ?_)
        · replace hp := ip c8 hp
          refine ok (m_iinc (q := 88) (lo' := [some (am_r (some 70)), some (am_i (wz a1)), some (am_i (wz a2)), some (am_i (wz a3)), some (am_i (wz a4)), some (am_i (wz (wr (a5 + 1))))]) rfl rfl rfl rfl rfl rfl rfl) ?_
          refine ok (m_goto (q := 6) rfl rfl rfl) ?_
          exact hp d hd _ r5
        · replace hp := iq c8 hp
          refine ok (m_aload_n (q := 48) rfl rfl rfl rfl) ?_
          refine ok (m_iload (q := 50) rfl rfl rfl rfl) ?_
          refine ok (m_iload_n (q := 51) rfl rfl rfl rfl) ?_
          obtain ⟨g11, hp⟩ := hp
          refine oke (e_ci (x_cv (q := 54) rfl rfl rfl rfl rfl rfl rfl rfl rfl rfl (is_st r5 rfl rfl)) (ev_X12_endOf (D := D) a5 a3 h5 h3 g11) (Nat.le_trans (by decide) hd) r5) (fun s9 r10 => ?_)
          refine ok (m_iload_n (q := 55) rfl rfl rfl rfl) ?_
          refine okc (m_cmple (qt := 85) (qf := 58) rfl rfl (Ev_rg (ev_X12_endOf (D := D) a5 a3 h5 h3 g11) r5) h2 rfl rfl) (fun c12 => ?_) (fun c12 => ?_)
          · replace hp := ip c12 hp
            refine ok (m_iinc (q := 88) (lo' := [some (am_r (some 70)), some (am_i (wz a1)), some (am_i (wz a2)), some (am_i (wz a3)), some (am_i (wz a4)), some (am_i (wz (wr (a5 + 1))))]) rfl rfl rfl rfl rfl rfl rfl) ?_
            refine ok (m_goto (q := 6) rfl rfl rfl) ?_
            exact hp d hd _ r10
          · replace hp := iq c12 hp
            refine ok (m_iload (q := 60) rfl rfl rfl rfl) ?_
            refine ok (m_iconst (q := 61) rfl rfl rfl) ?_
            refine okc (m_cmpeq (qt := 81) (qf := 64) rfl rfl h4 ⟨by decide, by decide⟩ rfl rfl) (fun c13 => ?_) (fun c13 => ?_)
            · replace hp := ip c13 hp
              refine ok (m_iload (q := 83) rfl rfl rfl rfl) ?_
              refine ok (m_istore (q := 85) (lo' := [some (am_r (some 70)), some (am_i (wz a1)), some (am_i (wz a2)), some (am_i (wz a3)), some (am_i (wz a5)), some (am_i (wz a5))]) rfl rfl rfl rfl rfl) ?_
              refine ok (m_iinc (q := 88) (lo' := [some (am_r (some 70)), some (am_i (wz a1)), some (am_i (wz a2)), some (am_i (wz a3)), some (am_i (wz a5)), some (am_i (wz (wr (a5 + 1))))]) rfl rfl rfl rfl rfl rfl rfl) ?_
              refine ok (m_goto (q := 6) rfl rfl rfl) ?_
              exact hp d hd _ r10
            · replace hp := iq c13 hp
              refine ok (m_aload_n (q := 65) rfl rfl rfl rfl) ?_
              refine ok (m_gfc (q := 68) rfl rfl rfl r10 rfl rfl rfl) ?_
              refine ok (m_iload (q := 70) rfl rfl rfl rfl) ?_
              refine ok (m_ials (q := 71) rfl rfl rfl r10 rfl rfl g2 rfl) ?_
              refine ok (m_aload_n (q := 72) rfl rfl rfl rfl) ?_
              refine ok (m_gfc (q := 75) rfl rfl rfl r10 rfl rfl rfl) ?_
              refine ok (m_iload (q := 77) rfl rfl rfl rfl) ?_
              obtain ⟨g14, hp⟩ := hp
              refine ok (m_ials (q := 78) rfl rfl rfl r10 rfl rfl g14 rfl) ?_
              refine okc (m_cmplt (qt := 85) (qf := 81) rfl rfl (Rp_rg r10 85 a5) (Rp_rg r10 85 a4) rfl rfl) (fun c15 => ?_) (fun c15 => ?_)
              · replace hp := ip c15 hp
                refine ok (m_iinc (q := 88) (lo' := [some (am_r (some 70)), some (am_i (wz a1)), some (am_i (wz a2)), some (am_i (wz a3)), some (am_i (wz a4)), some (am_i (wz (wr (a5 + 1))))]) rfl rfl rfl rfl rfl rfl rfl) ?_
                refine ok (m_goto (q := 6) rfl rfl rfl) ?_
                exact hp d hd _ r10
              · replace hp := iq c15 hp
                refine ok (m_iload (q := 83) rfl rfl rfl rfl) ?_
                refine ok (m_istore (q := 85) (lo' := [some (am_r (some 70)), some (am_i (wz a1)), some (am_i (wz a2)), some (am_i (wz a3)), some (am_i (wz a5)), some (am_i (wz a5))]) rfl rfl rfl rfl rfl) ?_
                refine ok (m_iinc (q := 88) (lo' := [some (am_r (some 70)), some (am_i (wz a1)), some (am_i (wz a2)), some (am_i (wz a3)), some (am_i (wz a5)), some (am_i (wz (wr (a5 + 1))))]) rfl rfl rfl rfl rfl rfl rfl) ?_
                refine ok (m_goto (q := 6) rfl rfl rfl) ?_
                exact hp d hd _ r10
    · replace hp := iq c3 hp
      refine ok (m_iinc (q := 88) (lo' := [some (am_r (some 70)), some (am_i (wz a1)), some (am_i (wz a2)), some (am_i (wz a3)), some (am_i (wz a4)), some (am_i (wz (wr (a5 + 1))))]) rfl rfl rfl rfl rfl rfl rfl) ?_
      refine ok (m_goto (q := 6) rfl rfl rfl) ?_
      exact hp d hd _ hr
abbrev P_X3_whereIn : Nat → Option am_E := am_fy tb_X3_whereIn
def K_X3_whereIn_6 (n : Nat) (A : aA) (D : aD) (a1 : Int) (a2 : Int) (a3 : Int) (i4 : Int) (a5 : Int) (x : Option Nat) (D' : aD) : Prop := Lp n 4 P_X3_whereIn 6 [some (am_r (some 50)), some (am_i (wz a1)), some (am_i (wz a2)), some (am_i (wz a3)), some (am_r (nr A 15 i4)), some (am_i (wz a5)), none] [] A D (rr x) A D'
set_option maxRecDepth 100000 in
theorem rl_X3_whereIn {n : Nat} {A : aA} {D D' : aD} (a1 : Int) (a2 : Int) (a3 : Int) (h1 : rg a1) (h2 : rg a2) (h3 : rg a3) {x : Option Nat} (hp : K_X3_whereIn_6 (n) A D a1 a2 a3 (-1) 0 x D') : Ev (n) (5) 23 [am_r (some 50), am_i (wz a1), am_i (wz a2), am_i (wz a3)] A D (rr x) A D' := by
  refine Ev_of (c := 4) (P := P_X3_whereIn) (lo := [some (am_r (some 50)), some (am_i (wz a1)), some (am_i (wz a2)), some (am_i (wz a3)), none, none, none]) rfl rfl rfl (fun d hd s hr => ?_)
  refine ok (m_aconst_null (q := 1) rfl rfl rfl) ?_
  refine ok (m_astore (q := 3) (lo' := [some (am_r (some 50)), some (am_i (wz a1)), some (am_i (wz a2)), some (am_i (wz a3)), some (am_r (none)), none, none]) rfl rfl rfl rfl rfl) ?_
  refine ok (m_iconst (q := 4) rfl rfl rfl) ?_
  refine ok (m_istore (q := 6) (lo' := [some (am_r (some 50)), some (am_i (wz a1)), some (am_i (wz a2)), some (am_i (wz a3)), some (am_r (none)), some (am_i (wz 0)), none]) rfl rfl rfl rfl rfl) ?_
  exact hp d hd _ hr
set_option maxRecDepth 100000 in
theorem rl_X3_whereIn_6 {n : Nat} {A : aA} {D D' : aD} (a1 : Int) (a2 : Int) (a3 : Int) (i4 : Int) (a5 : Int) (h1 : rg a1) (h2 : rg a2) (h3 : rg a3) (f4 : 0 ≤ i4 → D 915 i4 = 1) (h5 : rg a5) {x : Option Nat} (hp : (if D 1002 5 ≤ a5 then (x = nr A 15 i4 ∧ D' = D) else (0 ≤ a5 ∧ a5 < D 1002 5) ∧ (if D 2000 (D 2501 a5) = a1 then (if v_X5_isKnownBy D a5 a3 = 0 then K_X3_whereIn_6 (n) A D a1 a2 a3 i4 (wr (a5 + 1)) x D' else (if a2 < D 2503 a5 then K_X3_whereIn_6 (n) A D a1 a2 a3 i4 (wr (a5 + 1)) x D' else (if v_X5_endAsKnown D a5 a3 ≤ a2 then K_X3_whereIn_6 (n) A D a1 a2 a3 i4 (wr (a5 + 1)) x D' else (if i4 < 0 then K_X3_whereIn_6 (n) A D a1 a2 a3 a5 (wr (a5 + 1)) x D' else (if D 2503 a5 < D 2503 i4 then K_X3_whereIn_6 (n) A D a1 a2 a3 i4 (wr (a5 + 1)) x D' else K_X3_whereIn_6 (n) A D a1 a2 a3 a5 (wr (a5 + 1)) x D'))))) else K_X3_whereIn_6 (n) A D a1 a2 a3 i4 (wr (a5 + 1)) x D'))) : K_X3_whereIn_6 (n) A D a1 a2 a3 i4 a5 x D' := by
  unfold K_X3_whereIn_6
  refine fun d hd s hr => ?_
  refine ok (m_iload (q := 8) rfl rfl rfl rfl) ?_
  refine ok (m_aload_n (q := 9) rfl rfl rfl rfl) ?_
  have f_1 := Rp_fx0_5 hr
  refine ok (m_gfy (q := 12) rfl rfl rfl hr rfl rfl rfl) ?_
  refine oke (e_ci (x_cv (q := 15) rfl rfl rfl rfl rfl rfl rfl rfl rfl rfl (is_ty hr rfl f_1)) (ev_size 5 f_1) (Nat.le_trans (by decide) hd) hr) (fun s2 r3 => ?_)
  refine okc (m_cmpge (qt := 100) (qf := 18) rfl rfl h5 (show rg (D 1002 5) from Rp_rg hr 1002 5) rfl rfl) (fun c4 => ?_) (fun c4 => ?_)
  · replace hp := ip c4 hp
    refine ok (m_aload (q := 102) rfl rfl rfl rfl) ?_
    exact ok (m_retr rfl rfl) (ok_rq r3 hp)
  · replace hp := iq c4 hp
    refine ok (m_aload_n (q := 19) rfl rfl rfl rfl) ?_
    have f_5 := Rp_fx0_5 r3
    refine ok (m_gfy (q := 22) rfl rfl rfl r3 rfl rfl rfl) ?_
    refine ok (m_iload (q := 24) rfl rfl rfl rfl) ?_
    obtain ⟨g8, hp⟩ := hp
    have f_9 := Rp_el5 (D := D) r3 g8
    refine oke (e_cr (x_cv (q := 27) rfl rfl rfl rfl rfl rfl rfl rfl rfl rfl (is_ty r3 rfl f_5)) (ev_get5 a5 g8) (Nat.le_trans (by decide) hd) r3) (fun s6 r7 => ?_)
    refine ok (m_cast (q := 30) rfl rfl rfl (isN_ty r7 rfl f_9)) ?_
    refine ok (m_astore (q := 32) (lo' := [some (am_r (some 50)), some (am_i (wz a1)), some (am_i (wz a2)), some (am_i (wz a3)), some (am_r (nr A 15 i4)), some (am_i (wz a5)), some (am_r (some (A 15 a5)))]) rfl rfl rfl rfl rfl) ?_
    refine ok (m_aload (q := 34) rfl rfl rfl rfl) ?_
    have f_10 : D 910 (D 2501 a5) = 1 := Rp_f15_10 (D := D) (i := a5) r7 f_9
    refine ok (m_gfx (t := 15) (q := 37) (r := some (A 10 (D 2501 a5))) rfl rfl rfl r7 rfl f_9 rfl rfl rfl) ?_
    refine ok (m_gft (t := 10) (q := 40) rfl rfl rfl r7 rfl f_10 rfl rfl rfl) ?_
    refine ok (m_iload_n (q := 41) rfl rfl rfl rfl) ?_
    refine okc (m_cmpne (qt := 94) (qf := 44) rfl rfl (show rg (D 2000 (D 2501 a5)) from Rp_rg r7 2000 (D 2501 a5)) h1 rfl rfl) (fun c11 => ?_) (fun c11 => ?_)
    · replace hp := ip c11 hp
      refine ok (m_aload (q := 46) rfl rfl rfl rfl) ?_
      refine ok (m_iload_n (q := 47) rfl rfl rfl rfl) ?_
      refine oke (e_ci (x_cv (q := 50) rfl rfl rfl rfl rfl rfl rfl rfl rfl rfl (is_ty r7 rfl f_9)) (ev_X5_isKnownBy (D := D) a5 a3 f_9 h3) (Nat.le_trans (by decide) hd) r7) (fun s12 r13 => ?_)
      refine okc (m_ifeq (qt := 94) (qf := 53) rfl rfl (Ev_rg (ev_X5_isKnownBy (D := D) a5 a3 f_9 h3) r7) rfl rfl) (fun c14 => ?_) (fun c14 => ?_)
      · replace hp := ip c14 hp
        refine ok (m_iinc (q := 97) (lo' := [some (am_r (some 50)), some (am_i (wz a1)), some (am_i (wz a2)), some (am_i (wz a3)), some (am_r (nr A 15 i4)), some (am_i (wz (wr (a5 + 1)))), some (am_r (some (A 15 a5)))]) rfl rfl rfl rfl rfl rfl rfl) ?_
        refine ok (m_goto (q := 6) rfl rfl rfl) ?_
        refine ok (mk rfl (lo' := [some (am_r (some 50)), some (am_i (wz a1)), some (am_i (wz a2)), some (am_i (wz a3)), some (am_r (nr A 15 i4)), some (am_i (wz (wr (a5 + 1)))), none]) rfl) ?_
        exact hp d hd _ r13
      · replace hp := iq c14 hp
        refine ok (m_aload (q := 55) rfl rfl rfl rfl) ?_
        refine ok (m_gft (t := 15) (q := 58) rfl rfl rfl r13 rfl f_9 rfl rfl rfl) ?_
        refine ok (m_iload_n (q := 59) rfl rfl rfl rfl) ?_
        refine okc (m_cmpgt (qt := 94) (qf := 62) rfl rfl (show rg (D 2503 a5) from Rp_rg r13 2503 a5) h2 rfl rfl) (fun c15 => ?_) (fun c15 => ?_)
        · replace hp := ip c15 hp
          refine ok (m_iinc (q := 97) (lo' := [some (am_r (some 50)), some (am_i (wz a1)), some (am_i (wz a2)), some (am_i (wz a3)), some (am_r (nr A 15 i4)), some (am_i (wz (wr (a5 + 1)))), some (am_r (some (A 15 a5)))]) rfl rfl rfl rfl rfl rfl rfl) ?_
          refine ok (m_goto (q := 6) rfl rfl rfl) ?_
          refine ok (mk rfl (lo' := [some (am_r (some 50)), some (am_i (wz a1)), some (am_i (wz a2)), some (am_i (wz a3)), some (am_r (nr A 15 i4)), some (am_i (wz (wr (a5 + 1)))), none]) rfl) ?_
          exact hp d hd _ r13
        · replace hp := iq c15 hp
          refine ok (m_iload_n (q := 63) rfl rfl rfl rfl) ?_
          refine ok (m_aload (q := 65) rfl rfl rfl rfl) ?_
          refine ok (m_iload_n (q := 66) rfl rfl rfl rfl) ?_
          refine oke (e_ci (x_cv (q := 69) rfl rfl rfl rfl rfl rfl rfl rfl rfl rfl (is_ty r13 rfl f_9)) (ev_X5_endAsKnown (D := D) a5 a3 f_9 h3) (Nat.le_trans (by decide) hd) r13) (fun s16 r17 => ?_)
          refine okc (m_cmpge (qt := 94) (qf := 72) rfl rfl h2 (Ev_rg (ev_X5_endAsKnown (D := D) a5 a3 f_9 h3) r13) rfl rfl) (fun c18 => ?_) (fun c18 => ?_)
          · replace hp := ip c18 hp
            refine ok (m_iinc (q := 97) (lo' := [some (am_r (some 50)), some (am_i (wz a1)), some (am_i (wz a2)), some (am_i (wz a3)), some (am_r (nr A 15 i4)), some (am_i (wz (wr (a5 + 1)))), some (am_r (some (A 15 a5)))]) rfl rfl rfl rfl rfl rfl rfl) ?_
            refine ok (m_goto (q := 6) rfl rfl rfl) ?_
            refine ok (mk rfl (lo' := [some (am_r (some 50)), some (am_i (wz a1)), some (am_i (wz a2)), some (am_i (wz a3)), some (am_r (nr A 15 i4)), some (am_i (wz (wr (a5 + 1)))), none]) rfl) ?_
            exact hp d hd _ r17
          · replace hp := iq c18 hp
            refine ok (m_aload (q := 74) rfl rfl rfl rfl) ?_
            refine okc ((m_ifnull (qt := 90) (qf := 77) rfl rfl rfl rfl).trans (ifn_n r17 rfl f4)) (fun c19 => ?_) (fun c19 => ?_)
            · replace hp := ip c19 hp
              refine ok (m_aload (q := 92) rfl rfl rfl rfl) ?_
              refine ok (m_astore (q := 94) (lo' := [some (am_r (some 50)), some (am_i (wz a1)), some (am_i (wz a2)), some (am_i (wz a3)), some (am_r (some (A 15 a5))), some (am_i (wz a5)), some (am_r (some (A 15 a5)))]) rfl rfl rfl rfl rfl) ?_
              refine ok (m_iinc (q := 97) (lo' := [some (am_r (some 50)), some (am_i (wz a1)), some (am_i (wz a2)), some (am_i (wz a3)), some (am_r (some (A 15 a5))), some (am_i (wz (wr (a5 + 1)))), some (am_r (some (A 15 a5)))]) rfl rfl rfl rfl rfl rfl rfl) ?_
              refine ok (m_goto (q := 6) rfl rfl rfl) ?_
              refine ok (mk rfl (lo' := [some (am_r (some 50)), some (am_i (wz a1)), some (am_i (wz a2)), some (am_i (wz a3)), some (am_r (some (A 15 a5))), some (am_i (wz (wr (a5 + 1)))), none]) rfl) ?_
              refine ok (o' := mr d P_X3_whereIn 6 [some (am_r (some 50)), some (am_i (wz a1)), some (am_i (wz a2)), some (am_i (wz a3)), some (am_r (nr A 15 a5)), some (am_i (wz (wr (a5 + 1)))), none] [] s16) (by rw [nr_s g8.1]; try rfl) ?_
              exact hp d hd _ r17
            · replace hp := iq c19 hp
              refine ok (o' := mr d P_X3_whereIn 77 [some (am_r (some 50)), some (am_i (wz a1)), some (am_i (wz a2)), some (am_i (wz a3)), some (am_r (some (A 15 i4))), some (am_i (wz a5)), some (am_r (some (A 15 a5)))] [] s16) (by rw [nr_s (Int.not_lt.mp c19)]; try rfl) ?_
              refine ok (m_aload (q := 79) rfl rfl rfl rfl) ?_
              refine ok (m_gft (t := 15) (q := 82) rfl rfl rfl r17 rfl f_9 rfl rfl rfl) ?_
              refine ok (m_aload (q := 84) rfl rfl rfl rfl) ?_
              refine ok (m_gft (t := 15) (q := 87) rfl rfl rfl r17 rfl (f4 (Int.not_lt.mp c19)) rfl rfl rfl) ?_
              refine okc (m_cmplt (qt := 94) (qf := 90) rfl rfl (show rg (D 2503 a5) from Rp_rg r17 2503 a5) (show rg (D 2503 i4) from Rp_rg r17 2503 i4) rfl rfl) (fun c20 => ?_) (fun c20 => ?_)
              · replace hp := ip c20 hp
                refine ok (m_iinc (q := 97) (lo' := [some (am_r (some 50)), some (am_i (wz a1)), some (am_i (wz a2)), some (am_i (wz a3)), some (am_r (some (A 15 i4))), some (am_i (wz (wr (a5 + 1)))), some (am_r (some (A 15 a5)))]) rfl rfl rfl rfl rfl rfl rfl) ?_
                refine ok (m_goto (q := 6) rfl rfl rfl) ?_
                refine ok (mk rfl (lo' := [some (am_r (some 50)), some (am_i (wz a1)), some (am_i (wz a2)), some (am_i (wz a3)), some (am_r (some (A 15 i4))), some (am_i (wz (wr (a5 + 1)))), none]) rfl) ?_
                refine ok (o' := mr d P_X3_whereIn 6 [some (am_r (some 50)), some (am_i (wz a1)), some (am_i (wz a2)), some (am_i (wz a3)), some (am_r (nr A 15 i4)), some (am_i (wz (wr (a5 + 1)))), none] [] s16) (by rw [nr_s (Int.not_lt.mp c19)]; try rfl) ?_
                exact hp d hd _ r17
              · replace hp := iq c20 hp
                refine ok (m_aload (q := 92) rfl rfl rfl rfl) ?_
                refine ok (m_astore (q := 94) (lo' := [some (am_r (some 50)), some (am_i (wz a1)), some (am_i (wz a2)), some (am_i (wz a3)), some (am_r (some (A 15 a5))), some (am_i (wz a5)), some (am_r (some (A 15 a5)))]) rfl rfl rfl rfl rfl) ?_
                refine ok (m_iinc (q := 97) (lo' := [some (am_r (some 50)), some (am_i (wz a1)), some (am_i (wz a2)), some (am_i (wz a3)), some (am_r (some (A 15 a5))), some (am_i (wz (wr (a5 + 1)))), some (am_r (some (A 15 a5)))]) rfl rfl rfl rfl rfl rfl rfl) ?_
                refine ok (m_goto (q := 6) rfl rfl rfl) ?_
                refine ok (mk rfl (lo' := [some (am_r (some 50)), some (am_i (wz a1)), some (am_i (wz a2)), some (am_i (wz a3)), some (am_r (some (A 15 a5))), some (am_i (wz (wr (a5 + 1)))), none]) rfl) ?_
                refine ok (o' := mr d P_X3_whereIn 6 [some (am_r (some 50)), some (am_i (wz a1)), some (am_i (wz a2)), some (am_i (wz a3)), some (am_r (nr A 15 a5)), some (am_i (wz (wr (a5 + 1)))), none] [] s16) (by rw [nr_s g8.1]; try rfl) ?_
                exact hp d hd _ r17
    · replace hp := iq c11 hp
      refine ok (m_iinc (q := 97) (lo' := [some (am_r (some 50)), some (am_i (wz a1)), some (am_i (wz a2)), some (am_i (wz a3)), some (am_r (nr A 15 i4)), some (am_i (wz (wr (a5 + 1)))), some (am_r (some (A 15 a5)))]) rfl rfl rfl rfl rfl rfl rfl) ?_
      refine ok (m_goto (q := 6) rfl rfl rfl) ?_
      refine ok (mk rfl (lo' := [some (am_r (some 50)), some (am_i (wz a1)), some (am_i (wz a2)), some (am_i (wz a3)), some (am_r (nr A 15 i4)), some (am_i (wz (wr (a5 + 1)))), none]) rfl) ?_
      exact hp d hd _ r7
theorem K_inOf {n : Nat} {A : aA} {D : aD} {s d k : Int} (h1 : rg s) (h2 : rg d) (h3 : rg k) (hI : Iv D) : K_X12_inOf_6 n A D s d k (-1) 0 (w_inOf D s d k) D := by
  have hc := hI.ct
  unfold I_ct at hc
  refine dn_ind (K := fun j => K_X12_inOf_6 n A D s d k (foi (inStep D s d k) (-1) j) j (w_inOf D s d k) D) (lo := 0) (N := D 70 4) ?_ ?_ 0 (by omega) (by omega)
  · have hb := inOf_b (D := D) (s := s) (d := d) (k := k) (by omega)
    refine rl_X12_inOf_6 _ _ _ _ _ h1 h2 h3 (rgb (by unfold w_inOf at hb; omega) (by unfold w_inOf at hb; omega)) (rgb (by omega) (by omega)) ?_
    rw [if_pos (Int.le_refl _)]
    exact ⟨rfl, rfl⟩
  · intro j j0 j1 ih
    have hb := inUp (D := D) (s := s) (d := d) (k := k) (N := j) j j0 (Int.le_refl _)
    rw [foi_s j0] at ih
    generalize foi (inStep D s d k) (-1) j = b at ih hb ⊢
    refine rl_X12_inOf_6 _ _ _ _ _ h1 h2 h3 (rgb (by omega) (by omega)) (rgb (by omega) (by omega)) ?_
    rw [if_neg (by omega), wr1 j0 j1 (by omega)]
    refine ⟨⟨by omega, by omega⟩, ?_⟩
    have hp1 : p_X12_isKnown D j k := ⟨by omega, by omega⟩
    have hp2 : p_X12_endOf D j k := ⟨by omega, by omega⟩
    repeat' (first | apply And.intro | split)
    all_goals first
      | exact hp1
      | exact hp2
      | omega
      | (rw [show inStep D s d k b j = b by unfold inStep; exact if_neg (by omega)] at ih; exact ih)
      | (rw [show inStep D s d k b j = j by unfold inStep; exact if_pos (by omega)] at ih; exact ih)
theorem ev_X12_inOf {n : Nat} {A : aA} {D : aD} (s d k : Int) (h1 : rg s) (h2 : rg d) (h3 : rg k) (hp : p_inOf D s d k) : Ev n 2 141 [am_r (some 70), am_i (wz s), am_i (wz d), am_i (wz k)] A D (ri (w_inOf D s d k)) A D := rl_X12_inOf s d k h1 h2 h3 (K_inOf h1 h2 h3 hp.1)
theorem K_whereIn {n : Nat} {A : aA} {D : aD} {s d k : Int} (h1 : rg s) (h2 : rg d) (h3 : rg k) (hp : p_inOf D s d k) (hfl : ∀ i, 0 ≤ i → i < D 1002 5 → D 915 i = 1) : K_X3_whereIn_6 n A D s d k (-1) 0 (nr A 15 (w_inOf D s d k)) D := by
  obtain ⟨hI, hd, hk⟩ := hp
  have hc := hI.ct
  unfold I_ct at hc
  refine dn_ind (K := fun j => K_X3_whereIn_6 n A D s d k (foi (inStep D s d k) (-1) j) j (nr A 15 (w_inOf D s d k)) D) (lo := 0) (N := D 70 4) ?_ ?_ 0 (by omega) (by omega)
  · have hb := inOf_b (D := D) (s := s) (d := d) (k := k) (by omega)
    refine rl_X3_whereIn_6 _ _ _ _ _ h1 h2 h3 (fun q => hfl _ q (by unfold w_inOf at hb; omega)) (rgb (by omega) (by omega)) ?_
    rw [if_pos (by omega)]
    exact ⟨rfl, rfl⟩
  · intro j j0 j1 ih
    have hb := inUp (D := D) (s := s) (d := d) (k := k) (N := j) j j0 (Int.le_refl _)
    rw [foi_s j0] at ih
    generalize foi (inStep D s d k) (-1) j = b at ih hb ⊢
    refine rl_X3_whereIn_6 _ _ _ _ _ h1 h2 h3 (fun q => hfl _ q (by omega)) (rgb (by omega) (by omega)) ?_
    rw [if_neg (by omega), wr1 j0 j1 (by omega), srv_eq hI j0 j1, kn_eq hI.pg j0 j1 hk.2, en_eq hI.pg (by omega) j0 j1 hk.2, (hI.pg j j0 j1).2.2.2.1]
    refine ⟨⟨by omega, by omega⟩, ?_⟩
    have hbe : ¬ b < 0 → D 2503 b = D 85 b := fun q => (hI.pg b (by omega) (by omega)).2.2.2.1
    have her := en_rg hI.pg (by omega) (k := k) j0 j1
    repeat' (first | apply And.intro | split)
    all_goals first
      | omega
      | (rw [show inStep D s d k b j = b by unfold inStep; exact if_neg (by omega)] at ih; exact ih)
      | (rw [show inStep D s d k b j = j by unfold inStep; exact if_pos (by omega)] at ih; exact ih)
theorem ev_X3_whereIn {n : Nat} {A : aA} {D : aD} (s d k : Int) (h1 : rg s) (h2 : rg d) (h3 : rg k) (hp : p_inOf D s d k) : Ev n 5 23 [am_r (some 50), am_i (wz s), am_i (wz d), am_i (wz k)] A D (rr (nr A 15 (w_inOf D s d k))) A D := by
  intro d' hd' s' hr
  exact rl_X3_whereIn s d k h1 h2 h3 (K_whereIn h1 h2 h3 hp (fun i q1 q2 => Rp_el5 hr ⟨q1, q2⟩)) d' hd' s' hr
theorem fg_whereIn {n : Nat} {A : aA} {D : aD} {s' : am_S} (s d k : Int) (_ : rg s) (_ : rg d) (_ : rg k) (hp : p_inOf D s d k) (hr : Rp n A D s') : 0 ≤ w_inOf D s d k → D 915 (w_inOf D s d k) = 1 := fun q => by
  have hc := hp.1.ct
  unfold I_ct at hc
  have := inOf_b (D := D) (s := s) (d := d) (k := k) (by omega)
  exact Rp_el5 hr ⟨q, by omega⟩
