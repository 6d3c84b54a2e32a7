/-! The dealing: the reference. -/
section Dm
variable {n : Nat} {A A' : aA} {D D' E F : aD} {d : Nat} {s : am_S}
abbrev P_X12_whoTakesPart : Nat → Option am_E := am_fy tb_X12_whoTakesPart
def K_X12_whoTakesPart_2 (n : Nat) (A : aA) (D : aD) (a1 : Int) (D' : aD) : Prop := Lp n 3 P_X12_whoTakesPart 2 [some (am_r (some 70)), some (am_i (wz a1))] [] A D rv A D'
def K_X12_whoTakesPart_46 (n : Nat) (A : aA) (D : aD) (a1 : Int) (D' : aD) : Prop := Lp n 3 P_X12_whoTakesPart 46 [some (am_r (some 70)), some (am_i (wz a1))] [] A D rv A D'
set_option maxRecDepth 100000 in
theorem rl_X12_whoTakesPart {n : Nat} {A : aA} {D D' : aD} (hp : K_X12_whoTakesPart_2 (n + 1) A D 0 D') : Ev (n + 1) (4) 188 [am_r (some 70)] A D rv A D' := by
  refine Ev_of (c := 3) (P := P_X12_whoTakesPart) (lo := [some (am_r (some 70)), none]) rfl rfl rfl (fun d hd s hr => ?_)
  refine ok (m_iconst (q := 1) rfl rfl rfl) ?_
  refine ok (m_istore_n (q := 2) (lo' := [some (am_r (some 70)), some (am_i (wz 0))]) rfl rfl rfl rfl rfl) ?_
  exact hp d hd _ hr
set_option maxRecDepth 100000 in
theorem rl_X12_whoTakesPart_2 {n : Nat} {A : aA} {D D' : aD} (a1 : Int) (h1 : rg a1) (hp : (if D 70 3 ≤ a1 then K_X12_whoTakesPart_46 (n + 1) A D 0 D' else (p_holderOf D a1 (D 70 0) (D 70 0)) ∧ (if w_holderOf D a1 (D 70 0) (D 70 0) = (-1) then (0 ≤ a1 ∧ a1 < 30) ∧ K_X12_whoTakesPart_2 (n + 1) A (up D 120 a1 1) (wr (a1 + 1)) D' else (0 ≤ a1 ∧ a1 < 30) ∧ K_X12_whoTakesPart_2 (n + 1) A (up D 120 a1 0) (wr (a1 + 1)) D'))) : K_X12_whoTakesPart_2 (n + 1) A D a1 D' := by
  unfold K_X12_whoTakesPart_2
  refine fun d hd s hr => ?_
  refine ok (m_iload_n (q := 3) rfl rfl rfl rfl) ?_
  refine ok (m_aload_n (q := 4) rfl rfl rfl rfl) ?_
  refine ok (m_gfs (z := 3) (q := 7) rfl rfl rfl hr rfl rfl rfl rfl rfl) ?_
  refine okc (m_cmpge (qt := 44) (qf := 10) rfl rfl h1 (Rp_rg hr 70 3) rfl rfl) (fun c1 => ?_) (fun c1 => ?_)
  · replace hp := ip c1 hp
    refine ok (m_iconst (q := 45) rfl rfl rfl) ?_
    refine ok (m_istore_n (q := 46) (lo' := [some (am_r (some 70)), some (am_i (wz 0))]) rfl rfl rfl rfl rfl) ?_
    exact hp d hd _ hr
  · replace hp := iq c1 hp
    refine ok (m_aload_n (q := 11) rfl rfl rfl rfl) ?_
    refine ok (m_gfc (q := 14) rfl rfl rfl hr rfl rfl rfl) ?_
    refine ok (m_iload_n (q := 15) rfl rfl rfl rfl) ?_
    refine ok (m_aload_n (q := 16) rfl rfl rfl rfl) ?_
    refine ok (m_iload_n (q := 17) rfl rfl rfl rfl) ?_
    refine ok (m_aload_n (q := 18) rfl rfl rfl rfl) ?_
    refine ok (m_gfs (z := 0) (q := 21) rfl rfl rfl hr rfl rfl rfl rfl rfl) ?_
    refine ok (m_aload_n (q := 22) rfl rfl rfl rfl) ?_
    refine ok (m_gfs (z := 0) (q := 25) rfl rfl rfl hr rfl rfl rfl rfl rfl) ?_
    obtain ⟨g4, hp⟩ := hp
    refine oke (e_ci (x_cv (q := 28) rfl rfl rfl rfl rfl rfl rfl rfl rfl rfl (is_st hr rfl rfl)) (ev_X12_holderOf (D := D) a1 (D 70 0) (D 70 0) h1 (Rp_rg hr 70 0) (Rp_rg hr 70 0) g4) (Nat.le_trans (by decide) hd) hr) (fun s2 r3 => ?_)
    refine ok (m_iconst (q := 29) rfl rfl rfl) ?_
    refine okc (m_cmpne (qt := 36) (qf := 32) rfl rfl (Ev_rg (ev_X12_holderOf (D := D) a1 (D 70 0) (D 70 0) h1 (Rp_rg hr 70 0) (Rp_rg hr 70 0) g4) hr) ⟨by decide, by decide⟩ rfl rfl) (fun c5 => ?_) (fun c5 => ?_)
    · replace hp := ip c5 hp
      refine ok (m_iconst (q := 33) rfl rfl rfl) ?_
      refine ok (m_goto (q := 37) rfl rfl rfl) ?_
      obtain ⟨g8, hp⟩ := hp
      refine oke (e_bas (q := 38) rfl rfl rfl r3 rfl rfl g8 ⟨by decide, by decide⟩ (wz_b01 ⟨by decide, by decide⟩)) (fun s7 r6 => ?_)
      refine ok (m_iinc (q := 41) (lo' := [some (am_r (some 70)), some (am_i (wz (wr (a1 + 1))))]) rfl rfl rfl rfl rfl rfl rfl) ?_
      refine ok (m_goto (q := 2) rfl rfl rfl) ?_
      exact hp d hd _ r6
    · replace hp := iq c5 hp
      refine ok (m_iconst (q := 37) rfl rfl rfl) ?_
      obtain ⟨g11, hp⟩ := hp
      refine oke (e_bas (q := 38) rfl rfl rfl r3 rfl rfl g11 ⟨by decide, by decide⟩ (wz_b01 ⟨by decide, by decide⟩)) (fun s10 r9 => ?_)
      refine ok (m_iinc (q := 41) (lo' := [some (am_r (some 70)), some (am_i (wz (wr (a1 + 1))))]) rfl rfl rfl rfl rfl rfl rfl) ?_
      refine ok (m_goto (q := 2) rfl rfl rfl) ?_
      exact hp d hd _ r9
set_option maxRecDepth 100000 in
theorem rl_X12_whoTakesPart_46 {n : Nat} {A : aA} {D D' : aD} (a1 : Int) (h1 : rg a1) (hp : (if D 70 1 ≤ a1 then (D' = D) else (p_inOf D a1 (D 70 0) (D 70 0)) ∧ (if w_inOf D a1 (D 70 0) (D 70 0) = (-1) then (0 ≤ a1 ∧ a1 < 24) ∧ K_X12_whoTakesPart_46 (n + 1) A (up D 121 a1 1) (wr (a1 + 1)) D' else (0 ≤ a1 ∧ a1 < 24) ∧ K_X12_whoTakesPart_46 (n + 1) A (up D 121 a1 0) (wr (a1 + 1)) D'))) : K_X12_whoTakesPart_46 (n + 1) A D a1 D' := by
  unfold K_X12_whoTakesPart_46
  refine fun d hd s hr => ?_
  refine ok (m_iload_n (q := 47) rfl rfl rfl rfl) ?_
  refine ok (m_aload_n (q := 48) rfl rfl rfl rfl) ?_
  refine ok (m_gfs (z := 1) (q := 51) rfl rfl rfl hr rfl rfl rfl rfl rfl) ?_
  refine okc (m_cmpge (qt := 88) (qf := 54) rfl rfl h1 (Rp_rg hr 70 1) rfl rfl) (fun c12 => ?_) (fun c12 => ?_)
  · replace hp := ip c12 hp
    exact ok (m_retv rfl rfl) (ok_vq hr hp)
  · replace hp := iq c12 hp
    refine ok (m_aload_n (q := 55) rfl rfl rfl rfl) ?_
    refine ok (m_gfc (q := 58) rfl rfl rfl hr rfl rfl rfl) ?_
    refine ok (m_iload_n (q := 59) rfl rfl rfl rfl) ?_
    refine ok (m_aload_n (q := 60) rfl rfl rfl rfl) ?_
    refine ok (m_iload_n (q := 61) rfl rfl rfl rfl) ?_
    refine ok (m_aload_n (q := 62) rfl rfl rfl rfl) ?_
    refine ok (m_gfs (z := 0) (q := 65) rfl rfl rfl hr rfl rfl rfl rfl rfl) ?_
    refine ok (m_aload_n (q := 66) rfl rfl rfl rfl) ?_
    refine ok (m_gfs (z := 0) (q := 69) rfl rfl rfl hr rfl rfl rfl rfl rfl) ?_
    obtain ⟨g15, hp⟩ := hp
    refine oke (e_ci (x_cv (q := 72) rfl rfl rfl rfl rfl rfl rfl rfl rfl rfl (is_st hr rfl rfl)) (ev_X12_inOf (D := D) a1 (D 70 0) (D 70 0) h1 (Rp_rg hr 70 0) (Rp_rg hr 70 0) g15) (Nat.le_trans (by decide) hd) hr) (fun s13 r14 => ?_)
    refine ok (m_iconst (q := 73) rfl rfl rfl) ?_
    refine okc (m_cmpne (qt := 80) (qf := 76) rfl rfl (Ev_rg (ev_X12_inOf (D := D) a1 (D 70 0) (D 70 0) h1 (Rp_rg hr 70 0) (Rp_rg hr 70 0) g15) hr) ⟨by decide, by decide⟩ rfl rfl) (fun c16 => ?_) (fun c16 => ?_)
    · replace hp := ip c16 hp
      refine ok (m_iconst (q := 77) rfl rfl rfl) ?_
      refine ok (m_goto (q := 81) rfl rfl rfl) ?_
      obtain ⟨g19, hp⟩ := hp
      refine oke (e_bas (q := 82) rfl rfl rfl r14 rfl rfl g19 ⟨by decide, by decide⟩ (wz_b01 ⟨by decide, by decide⟩)) (fun s18 r17 => ?_)
      refine ok (m_iinc (q := 85) (lo' := [some (am_r (some 70)), some (am_i (wz (wr (a1 + 1))))]) rfl rfl rfl rfl rfl rfl rfl) ?_
      refine ok (m_goto (q := 46) rfl rfl rfl) ?_
      exact hp d hd _ r17
    · replace hp := iq c16 hp
      refine ok (m_iconst (q := 81) rfl rfl rfl) ?_
      obtain ⟨g22, hp⟩ := hp
      refine oke (e_bas (q := 82) rfl rfl rfl r14 rfl rfl g22 ⟨by decide, by decide⟩ (wz_b01 ⟨by decide, by decide⟩)) (fun s21 r20 => ?_)
      refine ok (m_iinc (q := 85) (lo' := [some (am_r (some 70)), some (am_i (wz (wr (a1 + 1))))]) rfl rfl rfl rfl rfl rfl rfl) ?_
      refine ok (m_goto (q := 46) rfl rfl rfl) ?_
      exact hp d hd _ r20
def Tk (D F : aD) : Prop := Sm F D ∧ (∀ p, 0 ≤ p → p < D 70 3 → (F 120 p = 0 ↔ w_holderOf D p (D 70 0) (D 70 0) ≠ -1)) ∧ ∀ s, 0 ≤ s → s < D 70 1 → (F 121 s = 0 ↔ w_inOf D s (D 70 0) (D 70 0) ≠ -1)
def p_wtp (D : aD) : Prop := Inv D
theorem hold_cg (hm : Sm F D) (p d k : Int) : w_holderOf F p d k = w_holderOf D p d k := by
  unfold w_holderOf hdP
  simp only [hm 70 rfl, hm 84 rfl, in_cg hm]
theorem wtp_ex (D : aD) : ∃ E, (∀ c, c ≠ 120 → c ≠ 121 → E c = D c) ∧ (p_wtp D → Tk D E ∧ ∀ n A, Ev (n + 1) 4 188 [am_r (some 70)] A D rv A E) := by
  by_cases hI : p_wtp D
  · have hI' : Inv D := hI
    have hc := hI'.iv.ct; unfold I_ct at hc
    have smE : ∀ E : aD, (∀ c, c ≠ 120 → c ≠ 121 → E c = D c) → Sm E D := fun E h c q => h c (by rintro rfl; cases q) (by rintro rfl; cases q)
    have C46 : ∀ (r : Nat) (s : Int) (E : aD), s + r = D 70 1 → 0 ≤ s → (∀ c, c ≠ 120 → c ≠ 121 → E c = D c) → (∀ p, 0 ≤ p → p < D 70 3 → (E 120 p = 0 ↔ w_holderOf D p (D 70 0) (D 70 0) ≠ -1)) → (∀ s', 0 ≤ s' → s' < s → (E 121 s' = 0 ↔ w_inOf D s' (D 70 0) (D 70 0) ≠ -1)) → ∃ E', (∀ c, c ≠ 120 → c ≠ 121 → E' c = D c) ∧ Tk D E' ∧ ∀ n A, K_X12_whoTakesPart_46 (n + 1) A E s E' := by
      intro r
      induction r with
      | zero =>
        intro s E hr s0 h1 h2 h3
        refine ⟨E, h1, ⟨smE E h1, h2, fun s' a b => h3 s' a (by omega)⟩, fun n A => rl_X12_whoTakesPart_46 _ (rgb (by omega) (by omega)) ?_⟩
        rw [if_pos (by rw [h1 70 (by decide) (by decide)]; omega)]
      | succ r ih =>
        intro s E hr s0 h1 h2 h3
        have hm := smE E h1
        have e70 : E 70 = D 70 := hm 70 rfl
        have ein : w_inOf E s (D 70 0) (D 70 0) = w_inOf D s (D 70 0) (D 70 0) := in_cg hm _ _ _
        have pin : p_inOf E s (D 70 0) (D 70 0) := ⟨(Inv_cg hm hI').iv, by omega, by omega⟩
        have st : ∀ v, (v = 0 ∨ v = 1) → (v = 0 ↔ w_inOf D s (D 70 0) (D 70 0) ≠ -1) → ∃ E', (∀ c, c ≠ 120 → c ≠ 121 → E' c = D c) ∧ Tk D E' ∧ ∀ n A, K_X12_whoTakesPart_46 (n + 1) A (up E 121 s v) (s + 1) E' := fun v _ hv => ih (s + 1) (up E 121 s v) (by omega) (by omega) (fun c a b => by rw [up_cf b]; exact h1 c a b) (fun p a b => by rw [up_c (by decide)]; exact h2 p a b) (fun s' a b => by
          by_cases e : s' = s
          · rw [e, up_eq]; exact hv
          · rw [up_i e]; exact h3 s' a (by omega))
        by_cases c : w_inOf D s (D 70 0) (D 70 0) = -1
        · obtain ⟨E', a, b, K⟩ := st 1 (Or.inr rfl) ⟨fun z => by omega, fun z => absurd c z⟩
          refine ⟨E', a, b, fun n A => rl_X12_whoTakesPart_46 _ (rgb (by omega) (by omega)) ?_⟩
          rw [e70, if_neg (by omega), ein, if_pos c, wr_id (by omega) (by omega)]
          exact ⟨pin, by omega, K n A⟩
        · obtain ⟨E', a, b, K⟩ := st 0 (Or.inl rfl) ⟨fun _ => c, fun _ => rfl⟩
          refine ⟨E', a, b, fun n A => rl_X12_whoTakesPart_46 _ (rgb (by omega) (by omega)) ?_⟩
          rw [e70, if_neg (by omega), ein, if_neg c, wr_id (by omega) (by omega)]
          exact ⟨pin, by omega, K n A⟩
    have C2 : ∀ (r : Nat) (p : Int) (E : aD), p + r = D 70 3 → 0 ≤ p → (∀ c, c ≠ 120 → c ≠ 121 → E c = D c) → (∀ p', 0 ≤ p' → p' < p → (E 120 p' = 0 ↔ w_holderOf D p' (D 70 0) (D 70 0) ≠ -1)) → ∃ E', (∀ c, c ≠ 120 → c ≠ 121 → E' c = D c) ∧ Tk D E' ∧ ∀ n A, K_X12_whoTakesPart_2 (n + 1) A E p E' := by
      intro r
      induction r with
      | zero =>
        intro p E hr p0 h1 h2
        obtain ⟨E', a, b, K⟩ := C46 (D 70 1).toNat 0 E (by omega) (by omega) h1 (fun p' a b => h2 p' a (by omega)) (fun s' a b => by omega)
        refine ⟨E', a, b, fun n A => rl_X12_whoTakesPart_2 _ (rgb (by omega) (by omega)) ?_⟩
        rw [if_pos (by rw [h1 70 (by decide) (by decide)]; omega)]; exact K n A
      | succ r ih =>
        intro p E hr p0 h1 h2
        have hm := smE E h1
        have e70 : E 70 = D 70 := hm 70 rfl
        have eh : w_holderOf E p (D 70 0) (D 70 0) = w_holderOf D p (D 70 0) (D 70 0) := hold_cg hm _ _ _
        have pin : p_holderOf E p (D 70 0) (D 70 0) := ⟨(Inv_cg hm hI').iv, by omega, by omega⟩
        have st : ∀ v, (v = 0 ↔ w_holderOf D p (D 70 0) (D 70 0) ≠ -1) → ∃ E', (∀ c, c ≠ 120 → c ≠ 121 → E' c = D c) ∧ Tk D E' ∧ ∀ n A, K_X12_whoTakesPart_2 (n + 1) A (up E 120 p v) (p + 1) E' := fun v hv => ih (p + 1) (up E 120 p v) (by omega) (by omega) (fun c a b => by rw [up_cf a]; exact h1 c a b) (fun p' a b => by
          by_cases e : p' = p
          · rw [e, up_eq]; exact hv
          · rw [up_i e]; exact h2 p' a (by omega))
        by_cases c : w_holderOf D p (D 70 0) (D 70 0) = -1
        · obtain ⟨E', a, b, K⟩ := st 1 ⟨fun z => by omega, fun z => absurd c z⟩
          refine ⟨E', a, b, fun n A => rl_X12_whoTakesPart_2 _ (rgb (by omega) (by omega)) ?_⟩
          rw [e70, if_neg (by omega), eh, if_pos c, wr_id (by omega) (by omega)]
          exact ⟨pin, by omega, K n A⟩
        · obtain ⟨E', a, b, K⟩ := st 0 ⟨fun _ => c, fun _ => rfl⟩
          refine ⟨E', a, b, fun n A => rl_X12_whoTakesPart_2 _ (rgb (by omega) (by omega)) ?_⟩
          rw [e70, if_neg (by omega), eh, if_neg c, wr_id (by omega) (by omega)]
          exact ⟨pin, by omega, K n A⟩
    obtain ⟨E', a, b, K⟩ := C2 (D 70 3).toNat 0 D (by omega) (by omega) (fun _ _ _ => rfl) (fun p' a b => by omega)
    exact ⟨E', a, fun _ => ⟨b, fun n A => rl_X12_whoTakesPart (K n A)⟩⟩
  · exact ⟨D, fun _ _ _ => rfl, fun q => absurd q hI⟩
noncomputable def u_wtp (D : aD) : aD := Classical.choose (wtp_ex D)
theorem u_wtp_c (D : aD) : ∀ c, c ≠ 120 → c ≠ 121 → u_wtp D c = D c := (Classical.choose_spec (wtp_ex D)).1
theorem Tk_wtp (hp : p_wtp D) : Tk D (u_wtp D) := ((Classical.choose_spec (wtp_ex D)).2 hp).1
theorem ev_X12_whoTakesPart (hp : p_wtp D) : Ev (n + 1) 4 188 [am_r (some 70)] A D rv A (u_wtp D) := ((Classical.choose_spec (wtp_ex D)).2 hp).2 n A
theorem fl_wtp (D : aD) (w : Nat) (i : Int) (hw : Nat.ble w 49 = true) : u_wtp D (900 + w) i = D (900 + w) i := by rw [show u_wtp D (900 + w) = D (900 + w) from u_wtp_c D _ (by omega) (by omega)]
abbrev P_X12_mayBe : Nat → Option am_E := am_fy tb_X12_mayBe
noncomputable def v_X12_mayBe (D : aD) (a1 : Int) (a2 : Int) : Int := if D 121 a1 = 0 then 0 else if D 120 a2 = 0 then 0 else if D 114 (wr ((wr (30 * a1)) + a2)) ≤ 0 then 0 else if D 115 (wr ((wr (24 * a2)) + a1)) ≤ 0 then 0 else if v_X12_fitOf D a1 a2 (D 70 0) = 0 then 1 else 0
def p_X12_mayBe (D : aD) (a1 : Int) (a2 : Int) : Prop := (0 ≤ a1 ∧ a1 < 24) ∧ (if D 121 a1 = 0 then True else (0 ≤ a2 ∧ a2 < 30) ∧ (if D 120 a2 = 0 then True else (0 ≤ wr ((wr (30 * a1)) + a2) ∧ wr ((wr (30 * a1)) + a2) < 720) ∧ (if D 114 (wr ((wr (30 * a1)) + a2)) ≤ 0 then True else (0 ≤ wr ((wr (24 * a2)) + a1) ∧ wr ((wr (24 * a2)) + a1) < 720) ∧ (if D 115 (wr ((wr (24 * a2)) + a1)) ≤ 0 then True else (p_X12_fitOf D a1 a2 (D 70 0))))))
theorem b_X12_mayBe (D : aD) (a1 : Int) (a2 : Int) : 0 ≤ v_X12_mayBe D a1 a2 ∧ v_X12_mayBe D a1 a2 ≤ 1 := b01 (fun c2 => ⟨by decide, by decide⟩) (fun c2 => b01 (fun c4 => ⟨by decide, by decide⟩) (fun c4 => b01 (fun c6 => ⟨by decide, by decide⟩) (fun c6 => b01 (fun c8 => ⟨by decide, by decide⟩) (fun c8 => b01 (fun c12 => ⟨by decide, by decide⟩) (fun c12 => ⟨by decide, by decide⟩)))))
set_option maxRecDepth 100000 in
theorem ev_X12_mayBe {A : aA} {D : aD} (a1 : Int) (a2 : Int) (h1 : rg a1) (h2 : rg a2) (hp : p_X12_mayBe D a1 a2) : Ev (1) 43 189 [am_r (some 70), am_i (wz a1), am_i (wz a2)] A D (ri (v_X12_mayBe D a1 a2)) A D := by
  unfold p_X12_mayBe at hp
  unfold v_X12_mayBe
  refine Ev_of (c := 42) (P := P_X12_mayBe) (lo := [some (am_r (some 70)), some (am_i (wz a1)), some (am_i (wz a2))]) rfl rfl rfl (fun d hd s hr => ?_)
  refine ok (m_aload_n (q := 1) rfl rfl rfl rfl) ?_
  refine ok (m_gfc (q := 4) rfl rfl rfl hr rfl rfl rfl) ?_
  refine ok (m_iload_n (q := 5) rfl rfl rfl rfl) ?_
  obtain ⟨g1, hp⟩ := hp
  refine ok (m_bals (q := 6) rfl rfl rfl hr rfl rfl g1 rfl) ?_
  refine okp (m_ifeq (qt := 63) (qf := 9) rfl rfl (Rp_rg hr 121 a1) rfl rfl) (fun c2 => ?_) (fun c2 => ?_)
  · refine ok (m_iconst (q := 64) rfl rfl rfl) ?_
    exact ok (m_retb rfl rfl ⟨by decide, by decide⟩) (ok_i hr ⟨by decide, by decide⟩)
  · replace hp := iq c2 hp
    refine ok (m_aload_n (q := 10) rfl rfl rfl rfl) ?_
    refine ok (m_gfc (q := 13) rfl rfl rfl hr rfl rfl rfl) ?_
    refine ok (m_iload_n (q := 14) rfl rfl rfl rfl) ?_
    obtain ⟨g3, hp⟩ := hp
    refine ok (m_bals (q := 15) rfl rfl rfl hr rfl rfl g3 rfl) ?_
    refine okp (m_ifeq (qt := 63) (qf := 18) rfl rfl (Rp_rg hr 120 a2) rfl rfl) (fun c4 => ?_) (fun c4 => ?_)
    · refine ok (m_iconst (q := 64) rfl rfl rfl) ?_
      exact ok (m_retb rfl rfl ⟨by decide, by decide⟩) (ok_i hr ⟨by decide, by decide⟩)
    · replace hp := iq c4 hp
      refine ok (m_aload_n (q := 19) rfl rfl rfl rfl) ?_
      refine ok (m_gfc (q := 22) rfl rfl rfl hr rfl rfl rfl) ?_
      refine ok (m_bipush (q := 24) rfl rfl rfl) ?_
      refine ok (m_iload_n (q := 25) rfl rfl rfl rfl) ?_
      refine ok (m_imul (q := 26) rfl rfl rfl) ?_
      refine ok (m_iload_n (q := 27) rfl rfl rfl rfl) ?_
      refine ok (m_iadd (q := 28) rfl rfl rfl) ?_
      obtain ⟨g5, hp⟩ := hp
      refine ok (m_ials (q := 29) rfl rfl rfl hr rfl rfl g5 rfl) ?_
      refine okp (m_ifle (qt := 63) (qf := 32) rfl rfl (Rp_rg hr 114 (wr ((wr (30 * a1)) + a2))) rfl rfl) (fun c6 => ?_) (fun c6 => ?_)
      · refine ok (m_iconst (q := 64) rfl rfl rfl) ?_
        exact ok (m_retb rfl rfl ⟨by decide, by decide⟩) (ok_i hr ⟨by decide, by decide⟩)
      · replace hp := iq c6 hp
        refine ok (m_aload_n (q := 33) rfl rfl rfl rfl) ?_
        refine ok (m_gfc (q := 36) rfl rfl rfl hr rfl rfl rfl) ?_
        refine ok (m_bipush (q := 38) rfl rfl rfl) ?_
        refine ok (m_iload_n (q := 39) rfl rfl rfl rfl) ?_
        refine ok (m_imul (q := 40) rfl rfl rfl) ?_
        refine ok (m_iload_n (q := 41) rfl rfl rfl rfl) ?_
        refine ok (m_iadd (q := 42) rfl rfl rfl) ?_
        obtain ⟨g7, hp⟩ := hp
        refine ok (m_ials (q := 43) rfl rfl rfl hr rfl rfl g7 rfl) ?_
        refine okp (m_ifle (qt := 63) (qf := 46) rfl rfl (Rp_rg hr 115 (wr ((wr (24 * a2)) + a1))) rfl rfl) (fun c8 => ?_) (fun c8 => ?_)
        · refine ok (m_iconst (q := 64) rfl rfl rfl) ?_
          exact ok (m_retb rfl rfl ⟨by decide, by decide⟩) (ok_i hr ⟨by decide, by decide⟩)
        · replace hp := iq c8 hp
          refine ok (m_aload_n (q := 47) rfl rfl rfl rfl) ?_
          refine ok (m_iload_n (q := 48) rfl rfl rfl rfl) ?_
          refine ok (m_iload_n (q := 49) rfl rfl rfl rfl) ?_
          refine ok (m_aload_n (q := 50) rfl rfl rfl rfl) ?_
          refine ok (m_gfs (z := 0) (q := 53) rfl rfl rfl hr rfl rfl rfl rfl rfl) ?_
          have g11 := hp
          refine oke (e_ci (x_cv (q := 56) rfl rfl rfl rfl rfl rfl rfl rfl rfl rfl (is_st hr rfl rfl)) (ev_X12_fitOf (D := D) a1 a2 (D 70 0) h1 h2 (Rp_rg hr 70 0) g11) (Nat.le_trans (by decide) hd) hr) (fun s9 r10 => ?_)
          refine okp (m_ifne (qt := 63) (qf := 59) rfl rfl (Ev_rg (ev_X12_fitOf (D := D) a1 a2 (D 70 0) h1 h2 (Rp_rg hr 70 0) g11) hr) rfl rfl) (fun c12 => ?_) (fun c12 => ?_)
          · refine ok (m_iconst (q := 60) rfl rfl rfl) ?_
            refine ok (m_goto (q := 64) rfl rfl rfl) ?_
            exact ok (m_retb rfl rfl ⟨by decide, by decide⟩) (ok_i r10 ⟨by decide, by decide⟩)
          · refine ok (m_iconst (q := 64) rfl rfl rfl) ?_
            exact ok (m_retb rfl rfl ⟨by decide, by decide⟩) (ok_i r10 ⟨by decide, by decide⟩)
theorem may_e (hI : Inv D) (hT : Tk D F) {s p : Int} (hs : 0 ≤ s ∧ s < D 70 1) (hp : 0 ≤ p ∧ p < D 70 3) : p_X12_mayBe F s p ∧ (v_X12_mayBe F s p = 0 ↔ ¬ alw D s p) ∧ (0 ≤ v_X12_mayBe F s p ∧ v_X12_mayBe F s p ≤ 1) := by
  obtain ⟨hm, t1, t2⟩ := hT
  have hc := hI.iv.ct; unfold I_ct at hc
  have hIF := Inv_cg hm hI
  have e1 : wr (wr (30 * s) + p) = 30 * s + p := by rw [wr_id (z := 30 * s) (by omega) (by omega), wr_id (by omega) (by omega)]
  have e2 : wr (wr (24 * p) + s) = 24 * p + s := by rw [wr_id (z := 24 * p) (by omega) (by omega), wr_id (by omega) (by omega)]
  have e70 : F 70 = D 70 := hm 70 rfl
  have pf : p_X12_fitOf F s p (D 70 0) := pfitM hIF (by rw [e70]; exact hs) (by rw [e70]; exact hp) (by omega)
  have u1 := t1 p hp.1 hp.2
  have u2 := t2 s hs.1 hs.2
  unfold p_X12_mayBe v_X12_mayBe alw
  rw [e1, e2, e70, hm 114 rfl, hm 115 rfl, fit_cg hm]
  by_cases c1 : F 121 s = 0
  · simp only [if_pos c1]
    exact ⟨⟨by omega, trivial⟩, ⟨fun _ q => u2.mp c1 q.2.2.1, fun _ => trivial⟩, by omega⟩
  have d1 : w_inOf D s (D 70 0) (D 70 0) = -1 := Decidable.not_not.mp (fun z => c1 (u2.mpr z))
  simp only [if_neg c1]
  by_cases c2 : F 120 p = 0
  · simp only [if_pos c2]
    exact ⟨⟨by omega, by omega, trivial⟩, ⟨fun _ q => u1.mp c2 q.2.2.2.1, fun _ => trivial⟩, by omega⟩
  have d2 : w_holderOf D p (D 70 0) (D 70 0) = -1 := Decidable.not_not.mp (fun z => c2 (u1.mpr z))
  simp only [if_neg c2]
  by_cases c3 : D 114 (30 * s + p) ≤ 0
  · simp only [if_pos c3]
    exact ⟨⟨by omega, by omega, by omega, trivial⟩, ⟨fun _ q => by have := q.2.2.2.2.1; omega, fun _ => trivial⟩, by omega⟩
  simp only [if_neg c3]
  by_cases c4 : D 115 (24 * p + s) ≤ 0
  · simp only [if_pos c4]
    exact ⟨⟨by omega, by omega, by omega, by omega, trivial⟩, ⟨fun _ q => by have := q.2.2.2.2.2.1; omega, fun _ => trivial⟩, by omega⟩
  simp only [if_neg c4]
  by_cases c5 : v_X12_fitOf D s p (D 70 0) = 0
  · simp only [if_pos c5]
    exact ⟨⟨by omega, by omega, by omega, by omega, pf⟩, ⟨fun q => by omega, fun q => absurd ⟨hs, hp, d1, d2, by omega, by omega, c5⟩ q⟩, by omega⟩
  · simp only [if_neg c5]
    exact ⟨⟨by omega, by omega, by omega, by omega, pf⟩, ⟨fun _ q => absurd q.2.2.2.2.2.2 c5, fun _ => trivial⟩, by omega⟩
abbrev P_X12_nth : Nat → Option am_E := am_fy tb_X12_nth
def K_X12_nth_2 (n : Nat) (A : aA) (D : aD) (a1 : Int) (a2 : Int) (a3 : Int) (x : Int) (D' : aD) : Prop := Lp n 0 P_X12_nth 2 [some (am_r (some 70)), some (am_i (wz a1)), some (am_i (wz a2)), some (am_i (wz a3))] [] A D (ri x) A D'
set_option maxRecDepth 100000 in
theorem rl_X12_nth {n : Nat} {A : aA} {D D' : aD} (a1 : Int) (a2 : Int) (h1 : rg a1) (h2 : rg a2) {x : Int} (hp : K_X12_nth_2 (n) A D a1 a2 0 x D') : Ev (n) (1) 190 [am_r (some 70), am_i (wz a1), am_i (wz a2)] A D (ri x) A D' := by
  refine Ev_of (c := 0) (P := P_X12_nth) (lo := [some (am_r (some 70)), some (am_i (wz a1)), some (am_i (wz a2)), none]) rfl rfl rfl (fun d hd s hr => ?_)
  refine ok (m_iconst (q := 1) rfl rfl rfl) ?_
  refine ok (m_istore_n (q := 2) (lo' := [some (am_r (some 70)), some (am_i (wz a1)), some (am_i (wz a2)), some (am_i (wz 0))]) rfl rfl rfl rfl rfl) ?_
  exact hp d hd _ hr
set_option maxRecDepth 100000 in
theorem rl_X12_nth_2 {n : Nat} {A : aA} {D D' : aD} (a1 : Int) (a2 : Int) (a3 : Int) (h1 : rg a1) (h2 : rg a2) (h3 : rg a3) {x : Int} (hp : (if D 70 3 ≤ a3 then (x = (-1) ∧ D' = D) else (0 ≤ wr ((wr (30 * a1)) + a3) ∧ wr ((wr (30 * a1)) + a3) < 720) ∧ (if D 114 (wr ((wr (30 * a1)) + a3)) = a2 then (x = a3 ∧ D' = D) else K_X12_nth_2 (n) A D a1 a2 (wr (a3 + 1)) x D'))) : K_X12_nth_2 (n) A D a1 a2 a3 x D' := by
  unfold K_X12_nth_2
  refine fun d hd s hr => ?_
  refine ok (m_iload_n (q := 3) rfl rfl rfl rfl) ?_
  refine ok (m_aload_n (q := 4) rfl rfl rfl rfl) ?_
  refine ok (m_gfs (z := 3) (q := 7) rfl rfl rfl hr rfl rfl rfl rfl rfl) ?_
  refine okc (m_cmpge (qt := 33) (qf := 10) rfl rfl h3 (Rp_rg hr 70 3) rfl rfl) (fun c1 => ?_) (fun c1 => ?_)
  · replace hp := ip c1 hp
    refine ok (m_iconst (q := 34) rfl rfl rfl) ?_
    exact ok (m_reti rfl rfl) (ok_iq hr ⟨by decide, by decide⟩ hp)
  · replace hp := iq c1 hp
    refine ok (m_aload_n (q := 11) rfl rfl rfl rfl) ?_
    refine ok (m_gfc (q := 14) rfl rfl rfl hr rfl rfl rfl) ?_
    refine ok (m_bipush (q := 16) rfl rfl rfl) ?_
    refine ok (m_iload_n (q := 17) rfl rfl rfl rfl) ?_
    refine ok (m_imul (q := 18) rfl rfl rfl) ?_
    refine ok (m_iload_n (q := 19) rfl rfl rfl rfl) ?_
    refine ok (m_iadd (q := 20) rfl rfl rfl) ?_
    obtain ⟨g2, hp⟩ := hp
    refine ok (m_ials (q := 21) rfl rfl rfl hr rfl rfl g2 rfl) ?_
    refine ok (m_iload_n (q := 22) rfl rfl rfl rfl) ?_
    refine okc (m_cmpne (qt := 27) (qf := 25) rfl rfl (Rp_rg hr 114 (wr ((wr (30 * a1)) + a3))) h2 rfl rfl) (fun c3 => ?_) (fun c3 => ?_)
    · replace hp := ip c3 hp
      refine ok (m_iload_n (q := 26) rfl rfl rfl rfl) ?_
      exact ok (m_reti rfl rfl) (ok_iq hr h3 hp)
    · replace hp := iq c3 hp
      refine ok (m_iinc (q := 30) (lo' := [some (am_r (some 70)), some (am_i (wz a1)), some (am_i (wz a2)), some (am_i (wz (wr (a3 + 1))))]) rfl rfl rfl rfl rfl rfl rfl) ?_
      refine ok (m_goto (q := 2) rfl rfl rfl) ?_
      exact hp d hd _ hr
def w_nth (F : aD) (s k : Int) : Int := fsi (fun p => decide (F 114 (30 * s + p) = k)) 0 (F 70 3)
def p_nth (F : aD) (s _ : Int) : Prop := (0 ≤ s ∧ s < 24) ∧ 0 ≤ F 70 3 ∧ F 70 3 ≤ 30
theorem ev_X12_nth (s k : Int) (h1 : rg s) (h2 : rg k) (hp : p_nth D s k) : Ev n 1 190 [am_r (some 70), am_i (wz s), am_i (wz k)] A D (ri (w_nth D s k)) A D := by
  have hb := hp
  unfold p_nth at hb
  refine rl_X12_nth s k h1 h2 ?_
  refine dn_ind (K := fun j => K_X12_nth_2 n A D s k j (fsi (fun p => decide (D 114 (30 * s + p) = k)) j (D 70 3)) D) (lo := 0) (N := D 70 3) ?_ ?_ 0 (by omega) (by omega)
  · refine rl_X12_nth_2 _ _ _ h1 h2 (rgb (by omega) (by omega)) ?_
    rw [if_pos (Int.le_refl _), fsi_end (Int.le_refl _)]; exact ⟨rfl, rfl⟩
  · intro j j0 j1 ih
    refine rl_X12_nth_2 _ _ _ h1 h2 (rgb (by omega) (by omega)) ?_
    rw [if_neg (by omega), wr_id (z := 30 * s) (by omega) (by omega), wr_id (z := 30 * s + j) (by omega) (by omega), wr_id (z := j + 1) (by omega) (by omega)]
    refine ⟨by omega, ?_⟩
    by_cases c : D 114 (30 * s + j) = k
    · rw [if_pos c, fsi_t j1 (decide_eq_true c)]; exact ⟨rfl, rfl⟩
    · rw [if_neg c, fsi_f j1 (decide_eq_false c)]; exact ih
abbrev P_X12_asks : Nat → Option am_E := am_fy tb_X12_asks
noncomputable def u_X12_asks (D : aD) (a1 : Int) (a2 : Int) : aD := if v_X12_mayBe D a1 a2 = 0 then D else if D 118 a2 = (-1) then if D 118 a2 = (-1) then (up (up D 118 a2 a1) 117 a1 a2) else (up (up (up D 117 (D 118 a2) (-1)) 118 a2 a1) 117 a1 a2) else if D 115 (wr ((wr (24 * a2)) + a1)) ≤ D 115 (wr ((wr (24 * a2)) + (D 118 a2))) then if D 118 a2 = (-1) then (up (up D 118 a2 a1) 117 a1 a2) else (up (up (up D 117 (D 118 a2) (-1)) 118 a2 a1) 117 a1 a2) else D
def p_X12_asks (D : aD) (a1 : Int) (a2 : Int) : Prop := (p_X12_mayBe D a1 a2) ∧ (if v_X12_mayBe D a1 a2 = 0 then True else (0 ≤ a2 ∧ a2 < 30) ∧ (if D 118 a2 = (-1) then (if D 118 a2 = (-1) then (0 ≤ a1 ∧ a1 < 24) else (0 ≤ D 118 a2 ∧ D 118 a2 < 24) ∧ (0 ≤ a1 ∧ a1 < 24)) else (0 ≤ wr ((wr (24 * a2)) + (D 118 a2)) ∧ wr ((wr (24 * a2)) + (D 118 a2)) < 720) ∧ (0 ≤ wr ((wr (24 * a2)) + a1) ∧ wr ((wr (24 * a2)) + a1) < 720) ∧ (if D 115 (wr ((wr (24 * a2)) + a1)) ≤ D 115 (wr ((wr (24 * a2)) + (D 118 a2))) then (if D 118 a2 = (-1) then (0 ≤ a1 ∧ a1 < 24) else (0 ≤ D 118 a2 ∧ D 118 a2 < 24) ∧ (0 ≤ a1 ∧ a1 < 24)) else True)))
set_option maxRecDepth 100000 in
theorem ev_X12_asks {A : aA} {D : aD} (a1 : Int) (a2 : Int) (h1 : rg a1) (h2 : rg a2) (hp : p_X12_asks D a1 a2) : Ev (1) 44 192 [am_r (some 70), am_i (wz a1), am_i (wz a2)] A D rv A (u_X12_asks D a1 a2) := by
  unfold p_X12_asks at hp
  unfold u_X12_asks
  refine Ev_of (c := 43) (P := P_X12_asks) (lo := [some (am_r (some 70)), some (am_i (wz a1)), some (am_i (wz a2)), none]) rfl rfl rfl (fun d hd s hr => ?_)
  refine ok (m_aload_n (q := 1) rfl rfl rfl rfl) ?_
  refine ok (m_iload_n (q := 2) rfl rfl rfl rfl) ?_
  refine ok (m_iload_n (q := 3) rfl rfl rfl rfl) ?_
  obtain ⟨g3, hp⟩ := hp
  refine oke (e_ci (x_cv (q := 6) rfl rfl rfl rfl rfl rfl rfl rfl rfl rfl (is_st hr rfl rfl)) (ev_X12_mayBe (D := D) a1 a2 h1 h2 g3) (Nat.le_trans (by decide) hd) hr) (fun s1 r2 => ?_)
  refine okvf (m_ifne (qt := 10) (qf := 9) rfl rfl (Ev_rg (ev_X12_mayBe (D := D) a1 a2 h1 h2 g3) hr) rfl rfl) (fun c4 => ?_) (fun c4 => ?_)
  · exact ok (m_retv rfl rfl) (ok_v r2)
  · replace hp := iq c4 hp
    refine ok (m_aload_n (q := 11) rfl rfl rfl rfl) ?_
    refine ok (m_gfc (q := 14) rfl rfl rfl r2 rfl rfl rfl) ?_
    refine ok (m_iload_n (q := 15) rfl rfl rfl rfl) ?_
    obtain ⟨g5, hp⟩ := hp
    refine ok (m_ials (q := 16) rfl rfl rfl r2 rfl rfl g5 rfl) ?_
    refine ok (m_istore_n (q := 17) (lo' := [some (am_r (some 70)), some (am_i (wz a1)), some (am_i (wz a2)), some (am_i (wz (D 118 a2)))]) rfl rfl rfl rfl rfl) ?_
    refine ok (m_iload_n (q := 18) rfl rfl rfl rfl) ?_
    refine ok (m_iconst (q := 19) rfl rfl rfl) ?_
    refine okvf (m_cmpeq (qt := 48) (qf := 22) rfl rfl (Rp_rg r2 118 a2) ⟨by decide, by decide⟩ rfl rfl) (fun c6 => ?_) (fun c6 => ?_)
    · replace hp := ip c6 hp
      refine ok (m_iload_n (q := 49) rfl rfl rfl rfl) ?_
      refine ok (m_iconst (q := 50) rfl rfl rfl) ?_
      refine okvf (m_cmpeq (qt := 60) (qf := 53) rfl rfl (Rp_rg r2 118 a2) ⟨by decide, by decide⟩ rfl rfl) (fun c7 => ?_) (fun c7 => ?_)
      · replace hp := ip c7 hp
        refine ok (m_aload_n (q := 61) rfl rfl rfl rfl) ?_
        refine ok (m_gfc (q := 64) rfl rfl rfl r2 rfl rfl rfl) ?_
        refine ok (m_iload_n (q := 65) rfl rfl rfl rfl) ?_
        refine ok (m_iload_n (q := 66) rfl rfl rfl rfl) ?_
        refine oke (e_ias (q := 67) rfl rfl rfl r2 rfl rfl g5 h1) (fun s9 r8 => ?_)
        refine ok (m_aload_n (q := 68) rfl rfl rfl rfl) ?_
        refine ok (m_gfc (q := 71) rfl rfl rfl r8 rfl rfl rfl) ?_
        refine ok (m_iload_n (q := 72) rfl rfl rfl rfl) ?_
        refine ok (m_iload_n (q := 73) rfl rfl rfl rfl) ?_
        have g12 := hp
        refine oke (e_ias (q := 74) rfl rfl rfl r8 rfl rfl g12 h2) (fun s11 r10 => ?_)
        exact ok (m_retv rfl rfl) (ok_v r10)
      · replace hp := iq c7 hp
        refine ok (m_aload_n (q := 54) rfl rfl rfl rfl) ?_
        refine ok (m_gfc (q := 57) rfl rfl rfl r2 rfl rfl rfl) ?_
        refine ok (m_iload_n (q := 58) rfl rfl rfl rfl) ?_
        refine ok (m_iconst (q := 59) rfl rfl rfl) ?_
        obtain ⟨g15, hp⟩ := hp
        refine oke (e_ias (q := 60) rfl rfl rfl r2 rfl rfl g15 ⟨by decide, by decide⟩) (fun s14 r13 => ?_)
        refine ok (m_aload_n (q := 61) rfl rfl rfl rfl) ?_
        refine ok (m_gfc (q := 64) rfl rfl rfl r13 rfl rfl rfl) ?_
        refine ok (m_iload_n (q := 65) rfl rfl rfl rfl) ?_
        refine ok (m_iload_n (q := 66) rfl rfl rfl rfl) ?_
        refine oke (e_ias (q := 67) rfl rfl rfl r13 rfl rfl g5 h1) (fun s17 r16 => ?_)
        refine ok (m_aload_n (q := 68) rfl rfl rfl rfl) ?_
        refine ok (m_gfc (q := 71) rfl rfl rfl r16 rfl rfl rfl) ?_
        refine ok (m_iload_n (q := 72) rfl rfl rfl rfl) ?_
        refine ok (m_iload_n (q := 73) rfl rfl rfl rfl) ?_
        have g20 := hp
        refine oke (e_ias (q := 74) rfl rfl rfl r16 rfl rfl g20 h2) (fun s19 r18 => ?_)
        exact ok (m_retv rfl rfl) (ok_v r18)
    · replace hp := iq c6 hp
      refine ok (m_aload_n (q := 23) rfl rfl rfl rfl) ?_
      refine ok (m_gfc (q := 26) rfl rfl rfl r2 rfl rfl rfl) ?_
      refine ok (m_bipush (q := 28) rfl rfl rfl) ?_
      refine ok (m_iload_n (q := 29) rfl rfl rfl rfl) ?_
      refine ok (m_imul (q := 30) rfl rfl rfl) ?_
      refine ok (m_iload_n (q := 31) rfl rfl rfl rfl) ?_
      refine ok (m_iadd (q := 32) rfl rfl rfl) ?_
      obtain ⟨g21, hp⟩ := hp
      refine ok (m_ials (q := 33) rfl rfl rfl r2 rfl rfl g21 rfl) ?_
      refine ok (m_aload_n (q := 34) rfl rfl rfl rfl) ?_
      refine ok (m_gfc (q := 37) rfl rfl rfl r2 rfl rfl rfl) ?_
      refine ok (m_bipush (q := 39) rfl rfl rfl) ?_
      refine ok (m_iload_n (q := 40) rfl rfl rfl rfl) ?_
      refine ok (m_imul (q := 41) rfl rfl rfl) ?_
      refine ok (m_iload_n (q := 42) rfl rfl rfl rfl) ?_
      refine ok (m_iadd (q := 43) rfl rfl rfl) ?_
      obtain ⟨g22, hp⟩ := hp
      refine ok (m_ials (q := 44) rfl rfl rfl r2 rfl rfl g22 rfl) ?_
      refine okvf (m_cmpge (qt := 48) (qf := 47) rfl rfl (Rp_rg r2 115 (wr ((wr (24 * a2)) + (D 118 a2)))) (Rp_rg r2 115 (wr ((wr (24 * a2)) + a1))) rfl rfl) (fun c23 => ?_) (fun c23 => ?_)
      · replace hp := ip c23 hp
        refine ok (m_iload_n (q := 49) rfl rfl rfl rfl) ?_
        refine ok (m_iconst (q := 50) rfl rfl rfl) ?_
        refine okvf (m_cmpeq (qt := 60) (qf := 53) rfl rfl (Rp_rg r2 118 a2) ⟨by decide, by decide⟩ rfl rfl) (fun c24 => ?_) (fun c24 => ?_)
        · replace hp := ip c24 hp
          refine ok (m_aload_n (q := 61) rfl rfl rfl rfl) ?_
          refine ok (m_gfc (q := 64) rfl rfl rfl r2 rfl rfl rfl) ?_
          refine ok (m_iload_n (q := 65) rfl rfl rfl rfl) ?_
          refine ok (m_iload_n (q := 66) rfl rfl rfl rfl) ?_
          refine oke (e_ias (q := 67) rfl rfl rfl r2 rfl rfl g5 h1) (fun s26 r25 => ?_)
          refine ok (m_aload_n (q := 68) rfl rfl rfl rfl) ?_
          refine ok (m_gfc (q := 71) rfl rfl rfl r25 rfl rfl rfl) ?_
          refine ok (m_iload_n (q := 72) rfl rfl rfl rfl) ?_
          refine ok (m_iload_n (q := 73) rfl rfl rfl rfl) ?_
          have g29 := hp
          refine oke (e_ias (q := 74) rfl rfl rfl r25 rfl rfl g29 h2) (fun s28 r27 => ?_)
          exact ok (m_retv rfl rfl) (ok_v r27)
        · replace hp := iq c24 hp
          refine ok (m_aload_n (q := 54) rfl rfl rfl rfl) ?_
          refine ok (m_gfc (q := 57) rfl rfl rfl r2 rfl rfl rfl) ?_
          refine ok (m_iload_n (q := 58) rfl rfl rfl rfl) ?_
          refine ok (m_iconst (q := 59) rfl rfl rfl) ?_
          obtain ⟨g32, hp⟩ := hp
          refine oke (e_ias (q := 60) rfl rfl rfl r2 rfl rfl g32 ⟨by decide, by decide⟩) (fun s31 r30 => ?_)
          refine ok (m_aload_n (q := 61) rfl rfl rfl rfl) ?_
          refine ok (m_gfc (q := 64) rfl rfl rfl r30 rfl rfl rfl) ?_
          refine ok (m_iload_n (q := 65) rfl rfl rfl rfl) ?_
          refine ok (m_iload_n (q := 66) rfl rfl rfl rfl) ?_
          refine oke (e_ias (q := 67) rfl rfl rfl r30 rfl rfl g5 h1) (fun s34 r33 => ?_)
          refine ok (m_aload_n (q := 68) rfl rfl rfl rfl) ?_
          refine ok (m_gfc (q := 71) rfl rfl rfl r33 rfl rfl rfl) ?_
          refine ok (m_iload_n (q := 72) rfl rfl rfl rfl) ?_
          refine ok (m_iload_n (q := 73) rfl rfl rfl rfl) ?_
          have g37 := hp
          refine oke (e_ias (q := 74) rfl rfl rfl r33 rfl rfl g37 h2) (fun s36 r35 => ?_)
          exact ok (m_retv rfl rfl) (ok_v r35)
      · exact ok (m_retv rfl rfl) (ok_v r2)
theorem fl_X12_asks (D : aD) (a1 : Int) (a2 : Int) (t : Nat) (i : Int) (ht : Nat.ble t 49 = true) : u_X12_asks D a1 a2 (900 + t) i = D (900 + t) i := fl_if (rfl) (fl_if (fl_if ((up_c (fl_ne rfl ht)).trans ((up_c (fl_ne rfl ht)).trans (rfl))) ((up_c (fl_ne rfl ht)).trans ((up_c (fl_ne rfl ht)).trans ((up_c (fl_ne rfl ht)).trans (rfl))))) (fl_if (fl_if ((up_c (fl_ne rfl ht)).trans ((up_c (fl_ne rfl ht)).trans (rfl))) ((up_c (fl_ne rfl ht)).trans ((up_c (fl_ne rfl ht)).trans ((up_c (fl_ne rfl ht)).trans (rfl))))) (rfl)))
abbrev P_X12_deals : Nat → Option am_E := am_fy tb_X12_deals
def K_X12_deals_6 (n : Nat) (A : aA) (D : aD) (a1 : Int) (D' : aD) : Prop := Lp n 44 P_X12_deals 6 [some (am_r (some 70)), some (am_i (wz a1)), none] [] A D rv A D'
def K_X12_deals_29 (n : Nat) (A : aA) (D : aD) (a1 : Int) (D' : aD) : Prop := Lp n 44 P_X12_deals 29 [some (am_r (some 70)), some (am_i (wz a1)), none] [] A D rv A D'
def K_X12_deals_59 (n : Nat) (A : aA) (D : aD) (a1 : Int) (D' : aD) : Prop := Lp n 44 P_X12_deals 59 [some (am_r (some 70)), some (am_i (wz a1)), none] [] A D rv A D'
def K_X12_deals_67 (n : Nat) (A : aA) (D : aD) (a1 : Int) (a2 : Int) (D' : aD) : Prop := Lp n 44 P_X12_deals 67 [some (am_r (some 70)), some (am_i (wz a1)), some (am_i (wz a2))] [] A D rv A D'
set_option maxRecDepth 100000 in
theorem rl_X12_deals {A : aA} {D D' : aD} (hp : (p_wtp D) ∧ K_X12_deals_6 (1) A (u_wtp D) 0 D') : Ev (1) (45) 191 [am_r (some 70)] A D rv A D' := by
  refine Ev_of (c := 44) (P := P_X12_deals) (lo := [some (am_r (some 70)), none, none]) rfl rfl rfl (fun d hd s hr => ?_)
  refine ok (m_aload_n (q := 1) rfl rfl rfl rfl) ?_
  obtain ⟨g3, hp⟩ := hp
  refine oke (e_cvd (x_cv (q := 4) rfl rfl rfl rfl rfl rfl rfl rfl rfl rfl (is_st hr rfl rfl)) (ev_X12_whoTakesPart (D := D) g3) (Nat.le_trans (by decide) hd) hr) (fun s1 r2 => ?_)
  refine ok (m_iconst (q := 5) rfl rfl rfl) ?_
  refine ok (m_istore_n (q := 6) (lo' := [some (am_r (some 70)), some (am_i (wz 0)), none]) rfl rfl rfl rfl rfl) ?_
  exact hp d hd _ r2
set_option maxRecDepth 100000 in
theorem rl_X12_deals_6 {A : aA} {D D' : aD} (a1 : Int) (h1 : rg a1) (hp : (if D 70 3 ≤ a1 then K_X12_deals_29 (1) A D 0 D' else (0 ≤ a1 ∧ a1 < 30) ∧ K_X12_deals_6 (1) A (up D 118 a1 (-1)) (wr (a1 + 1)) D')) : K_X12_deals_6 (1) A D a1 D' := by
  unfold K_X12_deals_6
  refine fun d hd s hr => ?_
  refine ok (m_iload_n (q := 7) rfl rfl rfl rfl) ?_
  refine ok (m_aload_n (q := 8) rfl rfl rfl rfl) ?_
  refine ok (m_gfs (z := 3) (q := 11) rfl rfl rfl hr rfl rfl rfl rfl rfl) ?_
  refine okc (m_cmpge (qt := 27) (qf := 14) rfl rfl h1 (Rp_rg hr 70 3) rfl rfl) (fun c4 => ?_) (fun c4 => ?_)
  · replace hp := ip c4 hp
    refine ok (m_iconst (q := 28) rfl rfl rfl) ?_
    refine ok (m_istore_n (q := 29) (lo' := [some (am_r (some 70)), some (am_i (wz 0)), none]) rfl rfl rfl rfl rfl) ?_
    exact hp d hd _ hr
  · replace hp := iq c4 hp
    refine ok (m_aload_n (q := 15) rfl rfl rfl rfl) ?_
    refine ok (m_gfc (q := 18) rfl rfl rfl hr rfl rfl rfl) ?_
    refine ok (m_iload_n (q := 19) rfl rfl rfl rfl) ?_
    refine ok (m_iconst (q := 20) rfl rfl rfl) ?_
    obtain ⟨g7, hp⟩ := hp
    refine oke (e_ias (q := 21) rfl rfl rfl hr rfl rfl g7 ⟨by decide, by decide⟩) (fun s6 r5 => ?_)
    refine ok (m_iinc (q := 24) (lo' := [some (am_r (some 70)), some (am_i (wz (wr (a1 + 1)))), none]) rfl rfl rfl rfl rfl rfl rfl) ?_
    refine ok (m_goto (q := 6) rfl rfl rfl) ?_
    exact hp d hd _ r5
set_option maxRecDepth 100000 in
theorem rl_X12_deals_29 {A : aA} {D D' : aD} (a1 : Int) (h1 : rg a1) (hp : (if D 70 1 ≤ a1 then K_X12_deals_59 (1) A D 1 D' else (0 ≤ a1 ∧ a1 < 24) ∧ K_X12_deals_29 (1) A (up (up D 117 a1 (-1)) 119 a1 1) (wr (a1 + 1)) D')) : K_X12_deals_29 (1) A D a1 D' := by
  unfold K_X12_deals_29
  refine fun d hd s hr => ?_
  refine ok (m_iload_n (q := 30) rfl rfl rfl rfl) ?_
  refine ok (m_aload_n (q := 31) rfl rfl rfl rfl) ?_
  refine ok (m_gfs (z := 1) (q := 34) rfl rfl rfl hr rfl rfl rfl rfl rfl) ?_
  refine okc (m_cmpge (qt := 57) (qf := 37) rfl rfl h1 (Rp_rg hr 70 1) rfl rfl) (fun c8 => ?_) (fun c8 => ?_)
  · replace hp := ip c8 hp
    refine ok (m_iconst (q := 58) rfl rfl rfl) ?_
    refine ok (m_istore_n (q := 59) (lo' := [some (am_r (some 70)), some (am_i (wz 1)), none]) rfl rfl rfl rfl rfl) ?_
    exact hp d hd _ hr
  · replace hp := iq c8 hp
    refine ok (m_aload_n (q := 38) rfl rfl rfl rfl) ?_
    refine ok (m_gfc (q := 41) rfl rfl rfl hr rfl rfl rfl) ?_
    refine ok (m_iload_n (q := 42) rfl rfl rfl rfl) ?_
    refine ok (m_iconst (q := 43) rfl rfl rfl) ?_
    obtain ⟨g11, hp⟩ := hp
    refine oke (e_ias (q := 44) rfl rfl rfl hr rfl rfl g11 ⟨by decide, by decide⟩) (fun s10 r9 => ?_)
    refine ok (m_aload_n (q := 45) rfl rfl rfl rfl) ?_
    refine ok (m_gfc (q := 48) rfl rfl rfl r9 rfl rfl rfl) ?_
    refine ok (m_iload_n (q := 49) rfl rfl rfl rfl) ?_
    refine ok (m_iconst (q := 50) rfl rfl rfl) ?_
    refine oke (e_ias (q := 51) rfl rfl rfl r9 rfl rfl g11 ⟨by decide, by decide⟩) (fun s13 r12 => ?_)
    refine ok (m_iinc (q := 54) (lo' := [some (am_r (some 70)), some (am_i (wz (wr (a1 + 1)))), none]) rfl rfl rfl rfl rfl rfl rfl) ?_
    refine ok (m_goto (q := 29) rfl rfl rfl) ?_
    exact hp d hd _ r12
set_option maxRecDepth 100000 in
theorem rl_X12_deals_59 {A : aA} {D D' : aD} (a1 : Int) (h1 : rg a1) (b1 : 0 ≤ a1 ∧ a1 ≤ 1) (hp : (if a1 = 0 then (D' = D) else K_X12_deals_67 (1) A D 0 0 D')) : K_X12_deals_59 (1) A D a1 D' := by
  unfold K_X12_deals_59
  refine fun d hd s hr => ?_
  refine ok (m_iload_n (q := 60) rfl rfl rfl rfl) ?_
  refine okc (m_ifeq (qt := 140) (qf := 63) rfl rfl h1 rfl rfl) (fun c14 => ?_) (fun c14 => ?_)
  · replace hp := ip c14 hp
    exact ok (m_retv rfl rfl) (ok_vq hr hp)
  · replace hp := iq c14 hp
    refine ok (m_iconst (q := 64) rfl rfl rfl) ?_
    refine ok (m_istore_n (q := 65) (lo' := [some (am_r (some 70)), some (am_i (wz 0)), none]) rfl rfl rfl rfl rfl) ?_
    refine ok (m_iconst (q := 66) rfl rfl rfl) ?_
    refine ok (m_istore_n (q := 67) (lo' := [some (am_r (some 70)), some (am_i (wz 0)), some (am_i (wz 0))]) rfl rfl rfl rfl rfl) ?_
    exact hp d hd _ hr
set_option maxRecDepth 100000 in
theorem rl_X12_deals_67 {A : aA} {D D' : aD} (a1 : Int) (a2 : Int) (h1 : rg a1) (b1 : 0 ≤ a1 ∧ a1 ≤ 1) (h2 : rg a2) (hp : (if D 70 1 ≤ a2 then K_X12_deals_59 (1) A D a1 D' else (0 ≤ a2 ∧ a2 < 24) ∧ (if D 117 a2 = (-1) then (p_nth D a2 (D 119 a2)) ∧ (if w_nth D a2 (D 119 a2) = (-1) then K_X12_deals_67 (1) A D a1 (wr (a2 + 1)) D' else (p_X12_asks D a2 (w_nth D a2 (D 119 a2))) ∧ K_X12_deals_67 (1) A (up (u_X12_asks D a2 (w_nth D a2 (D 119 a2))) 119 a2 (wr (((u_X12_asks D a2 (w_nth D a2 (D 119 a2))) 119 a2) + 1))) 1 (wr (a2 + 1)) D') else K_X12_deals_67 (1) A D a1 (wr (a2 + 1)) D'))) : K_X12_deals_67 (1) A D a1 a2 D' := by
  unfold K_X12_deals_67
  refine fun d hd s hr => ?_
  refine ok (m_iload_n (q := 68) rfl rfl rfl rfl) ?_
  refine ok (m_aload_n (q := 69) rfl rfl rfl rfl) ?_
  refine ok (m_gfs (z := 1) (q := 72) rfl rfl rfl hr rfl rfl rfl rfl rfl) ?_
  refine okc (m_cmpge (qt := 137) (qf := 75) rfl rfl h2 (Rp_rg hr 70 1) rfl rfl) (fun c15 => ?_) (fun c15 => ?_)
  · replace hp := ip c15 hp
    refine ok (m_goto (q := 59) rfl rfl rfl) ?_
    refine ok (mk rfl (lo' := [some (am_r (some 70)), some (am_i (wz a1)), none]) rfl) ?_
    exact hp d hd _ hr
  · replace hp := iq c15 hp
    refine ok (m_aload_n (q := 76) rfl rfl rfl rfl) ?_
    refine ok (m_gfc (q := 79) rfl rfl rfl hr rfl rfl rfl) ?_
    refine ok (m_iload_n (q := 80) rfl rfl rfl rfl) ?_
    obtain ⟨g16, hp⟩ := hp
    refine ok (m_ials (q := 81) rfl rfl rfl hr rfl rfl g16 rfl) ?_
    refine ok (m_iconst (q := 82) rfl rfl rfl) ?_
    refine okc (m_cmpne (qt := 131) (qf := 85) rfl rfl (Rp_rg hr 117 a2) ⟨by decide, by decide⟩ rfl rfl) (fun c17 => ?_) (fun c17 => ?_)
    · replace hp := ip c17 hp
      refine ok (m_aload_n (q := 86) rfl rfl rfl rfl) ?_
      refine ok (m_iload_n (q := 87) rfl rfl rfl rfl) ?_
      refine ok (m_aload_n (q := 88) rfl rfl rfl rfl) ?_
      refine ok (m_gfc (q := 91) rfl rfl rfl hr rfl rfl rfl) ?_
      refine ok (m_iload_n (q := 92) rfl rfl rfl rfl) ?_
      refine ok (m_ials (q := 93) rfl rfl rfl hr rfl rfl g16 rfl) ?_
      obtain ⟨g20, hp⟩ := hp
      refine oke (e_ci (x_cv (q := 96) rfl rfl rfl rfl rfl rfl rfl rfl rfl rfl (is_st hr rfl rfl)) (ev_X12_nth (D := D) a2 (D 119 a2) h2 (Rp_rg hr 119 a2) g20) (Nat.le_trans (by decide) hd) hr) (fun s18 r19 => ?_)
      refine ok (m_iconst (q := 97) rfl rfl rfl) ?_
      refine okc (m_cmpne (qt := 103) (qf := 100) rfl rfl (Ev_rg (ev_X12_nth (D := D) a2 (D 119 a2) h2 (Rp_rg hr 119 a2) g20) hr) ⟨by decide, by decide⟩ rfl rfl) (fun c21 => ?_) (fun c21 => ?_)
      · replace hp := ip c21 hp
        refine ok (m_goto (q := 131) rfl rfl rfl) ?_
        refine ok (m_iinc (q := 134) (lo' := [some (am_r (some 70)), some (am_i (wz a1)), some (am_i (wz (wr (a2 + 1))))]) rfl rfl rfl rfl rfl rfl rfl) ?_
        refine ok (m_goto (q := 67) rfl rfl rfl) ?_
        exact hp d hd _ r19
      · replace hp := iq c21 hp
        refine ok (m_iconst (q := 104) rfl rfl rfl) ?_
        refine ok (m_istore_n (q := 105) (lo' := [some (am_r (some 70)), some (am_i (wz 1)), some (am_i (wz a2))]) rfl rfl rfl rfl rfl) ?_
        refine ok (m_aload_n (q := 106) rfl rfl rfl rfl) ?_
        refine ok (m_iload_n (q := 107) rfl rfl rfl rfl) ?_
        refine ok (m_aload_n (q := 108) rfl rfl rfl rfl) ?_
        refine ok (m_iload_n (q := 109) rfl rfl rfl rfl) ?_
        refine ok (m_aload_n (q := 110) rfl rfl rfl rfl) ?_
        refine ok (m_gfc (q := 113) rfl rfl rfl r19 rfl rfl rfl) ?_
        refine ok (m_iload_n (q := 114) rfl rfl rfl rfl) ?_
        refine ok (m_ials (q := 115) rfl rfl rfl r19 rfl rfl g16 rfl) ?_
        refine oke (e_ci (x_cv (q := 118) rfl rfl rfl rfl rfl rfl rfl rfl rfl rfl (is_st r19 rfl rfl)) (ev_X12_nth (D := D) a2 (D 119 a2) h2 (Rp_rg r19 119 a2) g20) (Nat.le_trans (by decide) hd) r19) (fun s22 r23 => ?_)
        obtain ⟨g26, hp⟩ := hp
        refine oke (e_cvd (x_cv (q := 121) rfl rfl rfl rfl rfl rfl rfl rfl rfl rfl (is_st r23 rfl rfl)) (ev_X12_asks (D := D) a2 (w_nth D a2 (D 119 a2)) h2 (Ev_rg (ev_X12_nth (D := D) a2 (D 119 a2) h2 (Rp_rg r19 119 a2) g20) r19) g26) (Nat.le_trans (by decide) hd) r23) (fun s24 r25 => ?_)
        refine ok (m_aload_n (q := 122) rfl rfl rfl rfl) ?_
        refine ok (m_gfc (q := 125) rfl rfl rfl r25 rfl rfl rfl) ?_
        refine ok (m_iload_n (q := 126) rfl rfl rfl rfl) ?_
        refine ok (m_dup2 (q := 127) rfl rfl rfl rfl rfl) ?_
        refine ok (m_ials (q := 128) rfl rfl rfl r25 rfl rfl g16 rfl) ?_
        refine ok (m_iconst (q := 129) rfl rfl rfl) ?_
        refine ok (m_iadd (q := 130) rfl rfl rfl) ?_
        refine oke (e_ias (q := 131) rfl rfl rfl r25 rfl rfl g16 (rg_wr _)) (fun s28 r27 => ?_)
        refine ok (m_iinc (q := 134) (lo' := [some (am_r (some 70)), some (am_i (wz 1)), some (am_i (wz (wr (a2 + 1))))]) rfl rfl rfl rfl rfl rfl rfl) ?_
        refine ok (m_goto (q := 67) rfl rfl rfl) ?_
        exact hp d hd _ r27
    · replace hp := iq c17 hp
      refine ok (m_iinc (q := 134) (lo' := [some (am_r (some 70)), some (am_i (wz a1)), some (am_i (wz (wr (a2 + 1))))]) rfl rfl rfl rfl rfl rfl rfl) ?_
      refine ok (m_goto (q := 67) rfl rfl rfl) ?_
      exact hp d hd _ hr
end Dm
