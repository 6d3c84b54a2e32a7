/-! The heap of a run only grows. -/
def am_up (s s' : am_S) : Prop := s.1.length ≤ s'.1.length ∧ s.2 ≤ s'.2
theorem am_up.rf {s : am_S} : am_up s s := ⟨Nat.le_refl _, Nat.le_refl _⟩
theorem am_up.tr {a b c : am_S} (h : am_up a b) (k : am_up b c) : am_up a c := ⟨Nat.le_trans h.1 k.1, Nat.le_trans h.2 k.2⟩
theorem am_up.set {s : am_S} {a : Nat} {c : am_Ce} : am_up s (s.1.set a c, s.2) := ⟨by simp, Nat.le_refl _⟩
theorem am_up.new {s : am_S} {e : am_Ce} {n : Nat} : am_up s (am_new s e n) := ⟨by simp [am_new], by simp [am_new]⟩
theorem am_up.put {s s' : am_S} {r : Option Nat} {c k : Nat} {v : am_V} (e : am_put s r c k v = some s') : am_up s s' := by
  obtain ⟨a, fs, -, -, -, -, rfl⟩ := am_put_s e; exact am_up.set
theorem am_up.ias {s s' : am_S} {r : Option Nat} {t : Nat} {i x : Int32} (e : am_ias s r t i x = some s') : am_up s s' := by
  obtain ⟨a, n, f, -, -, -, -, rfl⟩ := am_ias_s e; exact am_up.set
theorem am_up.ras {s s' : am_S} {r v : Option Nat} {i : Int32} (e : am_ras s r i v = some s') : am_up s s' := by
  obtain ⟨a, t, n, f, -, -, -, -, -, rfl⟩ := am_ras_s e; exact am_up.set
theorem am_up.cln {s s' : am_S} {r : Option Nat} (e : am_cln s r = some s') : am_up s s' := by
  obtain ⟨a, n, f, -, -, -, -, rfl⟩ := am_cln_s e
  exact ⟨by simp, by simp⟩
theorem am_up.cpy {s s' : am_S} {r w : Option Nat} {i j n : Int32} (e : am_cpy s r i w j n = some s') : am_up s s' := by
  obtain ⟨a, b, -, -, -, -, -, -, -, -, ⟨n0, f, n1, g, -, -, -, -, rfl⟩ | ⟨n0, f, n1, g, -, -, -, -, -, rfl⟩⟩ := am_cpy_s e <;> exact am_up.set
section Mono
variable {ρ : Type} {z : ρ} {D : Nat → List am_V} {C : am_Cl}
theorem am_bd {α : Type} {o : Option α} {k : α → Option ρ} (h : o.bind k = some z) : ∃ a, o = some a ∧ k a = some z := Option.bind_eq_some_iff.mp h
theorem am_ifnl_s {r : Option Nat} {t f : Option ρ} (h : am_ifn r t f = some z) : (r = none ∧ t = some z) ∨ ∃ a, r = some a ∧ am_K ≤ a ∧ f = some z := by
  unfold am_ifn at h; split at h
  · exact Or.inl ⟨rfl, h⟩
  · obtain ⟨h1, h2⟩ := am_if_s h
    exact Or.inr ⟨_, rfl, Nat.le_of_ble_eq_true h1, h2⟩
theorem am_ans_s {k : Nat} {o : Option am_R} {go : List am_V → am_S → Option ρ} {rest : List am_V} (h : am_ans k o go rest = some z) : ∃ r, o = some r ∧ go (am_psh r.1 rest) r.2 = some z := by
  unfold am_ans at h; split at h
  · unfold am_q0 at h; split at h
    · exact ⟨_, rfl, h⟩
    · cases h
  · unfold am_qi at h; split at h
    · exact ⟨_, rfl, h⟩
    · cases h
  · unfold am_ql at h; split at h
    · exact ⟨_, rfl, h⟩
    · cases h
  · unfold am_qr at h; split at h
    · exact ⟨_, rfl, h⟩
    · cases h
theorem am_cal_J (hC : ∀ m as s r, C m as s = some r → am_up s r.2) {go : am_L → List am_V → am_S → Option ρ} {lo : am_L} {st : List am_V} {s : am_S} {x : am_X}
    (h : am_cal C go lo st s x = some z) : ∃ lo' st' s', am_up s s' ∧ go lo' st' s' = some z := by
  unfold am_cal at h
  split at h
  · obtain ⟨as, rest, _, _, _, h⟩ := am_pop_s h
    obtain ⟨r, hr, h⟩ := am_ans_s h
    exact ⟨_, _, _, hC _ _ _ _ hr, h⟩
  · obtain ⟨as, rest, _, _, _, h⟩ := am_pop_s h
    obtain ⟨_, _, _, _, h⟩ := am_rcv_s h
    obtain ⟨r, hr, h⟩ := am_ans_s h
    exact ⟨_, _, _, hC _ _ _ _ hr, h⟩
  · obtain ⟨as, rest, _, _, _, h⟩ := am_pop_s h
    obtain ⟨_, _, _, _, h⟩ := am_rcv_s h
    obtain ⟨r, hr, h⟩ := am_ans_s h
    exact ⟨_, _, _, hC _ _ _ _ hr, h⟩
  · obtain ⟨_, _, _, h⟩ := am_1r_s h
    exact ⟨_, _, _, am_up.rf, (am_if_s (am_if_s h).2).2⟩
  · obtain ⟨_, _, _, h⟩ := am_1r_s h
    exact ⟨_, _, _, am_up.rf, (am_if_s (am_if_s h).2).2⟩
  · obtain ⟨_, _, _, _, _, _, _, h⟩ := am_cpyS_s h
    obtain ⟨_, h⟩ := am_if_s h
    obtain ⟨s', hs, h⟩ := am_bd h
    exact ⟨_, _, _, am_up.cpy hs, h⟩
  · obtain ⟨_, _, _, h⟩ := am_1r_s h
    obtain ⟨_, h⟩ := am_if_s h
    obtain ⟨s', hs, h⟩ := am_bd h
    exact ⟨_, _, _, am_up.cln hs, h⟩
  · obtain ⟨_, _, _, _, h⟩ := am_2i_s h
    exact ⟨_, _, _, am_up.rf, (am_if_s h).2⟩
  · obtain ⟨_, _, _, _, h⟩ := am_2i_s h
    exact ⟨_, _, _, am_up.rf, (am_if_s h).2⟩
  · obtain ⟨_, _, _, h⟩ := am_1i_s h
    exact ⟨_, _, _, am_up.rf, (am_if_s h).2⟩
  · cases h
theorem am_sw_s {x : Int32} {os : List Int} {g : Int → Option ρ} {d : Option ρ} : ∀ {k : Nat}, am_sw x k os g d = some z → (∃ o, g o = some z) ∨ d = some z := by
  induction os with
  | nil => intro k h; exact Or.inr h
  | cons o os ih =>
    intro k h
    unfold am_sw at h
    split at h
    · exact Or.inl ⟨o, h⟩
    · exact ih h
theorem am_cc_s {c : Jvm.ClassFile.Cond} {x y : Int32} {t e : Option ρ} (h : am_cc c x y t e = some z) : t = some z ∨ e = some z := by
  cases c <;> (unfold am_cc at h; simp only at h; split at h <;> first | exact Or.inl h | exact Or.inr h)
set_option maxHeartbeats 4000000 in
theorem am_st_J (hC : ∀ m as s r, C m as s = some r → am_up s r.2) {ret : am_R → Option ρ} {go : Nat → am_L → List am_V → am_S → Option ρ} {pc : Nat} {lo : am_L} {st : List am_V} {s : am_S} {i : Instr} {x : am_X}
    (h : am_st D C ret go pc lo st s i x = some z) : (∃ r : am_R, am_up s r.2 ∧ ret r = some z) ∨ ∃ pc' lo' st' s', am_up s s' ∧ go pc' lo' st' s' = some z := by
  cases i <;> simp only [am_st] at h <;> first
    | (cases h; done)
    | exact Or.inr ⟨_, _, _, _, am_up.rf, h⟩
    | exact Or.inr ⟨_, _, _, _, am_up.new, h⟩
    | (obtain ⟨_, _, h⟩ := am_ldi_s h; exact Or.inr ⟨_, _, _, _, am_up.rf, h⟩)
    | (obtain ⟨_, _, h⟩ := am_ldl_s h; exact Or.inr ⟨_, _, _, _, am_up.rf, h⟩)
    | (obtain ⟨_, _, h⟩ := am_ldr_s h; exact Or.inr ⟨_, _, _, _, am_up.rf, h⟩)
    | (obtain ⟨_, _, h⟩ := am_ldi_s h; exact Or.inr ⟨_, _, _, _, am_up.rf, (am_if_s h).2⟩)
    | (obtain ⟨_, _, _, h⟩ := am_1i_s h; exact Or.inr ⟨_, _, _, _, am_up.rf, h⟩)
    | (obtain ⟨_, _, _, h⟩ := am_1i_s h; exact Or.inr ⟨_, _, _, _, am_up.rf, (am_if_s h).2⟩)
    | (obtain ⟨_, _, _, h⟩ := am_1i_s h; exact Or.inr ⟨_, _, _, _, am_up.new, (am_if_s h).2⟩)
    | (obtain ⟨_, _, _, h⟩ := am_1l_s h; exact Or.inr ⟨_, _, _, _, am_up.rf, h⟩)
    | (obtain ⟨_, _, _, h⟩ := am_1l_s h; exact Or.inr ⟨_, _, _, _, am_up.rf, (am_if_s h).2⟩)
    | (obtain ⟨_, _, _, h⟩ := am_1r_s h; exact Or.inr ⟨_, _, _, _, am_up.rf, (am_if_s h).2⟩)
    | (obtain ⟨_, _, _, h⟩ := am_1_s h; exact Or.inr ⟨_, _, _, _, am_up.rf, (am_if_s h).2⟩)
    | (obtain ⟨_, _, _, _, _, _, h⟩ := am_dx_s h; exact Or.inr ⟨_, _, _, _, am_up.rf, h⟩)
    | (obtain ⟨_, _, _, _, h⟩ := am_2i_s h; exact Or.inr ⟨_, _, _, _, am_up.rf, h⟩)
    | (obtain ⟨_, _, _, _, h⟩ := am_2i_s h; exact Or.inr ⟨_, _, _, _, am_up.rf, (am_ifn_s h).2⟩)
    | (obtain ⟨_, _, _, _, h⟩ := am_2l_s h; exact Or.inr ⟨_, _, _, _, am_up.rf, h⟩)
    | (obtain ⟨_, _, _, _, h⟩ := am_li_s h; exact Or.inr ⟨_, _, _, _, am_up.rf, h⟩)
    | (obtain ⟨_, _, _, h⟩ := am_1i_s h; rcases am_cz_s h with h | h <;> exact Or.inr ⟨_, _, _, _, am_up.rf, h⟩)
    | (obtain ⟨_, _, _, _, h⟩ := am_2i_s h; rcases am_cc_s h with h | h <;> exact Or.inr ⟨_, _, _, _, am_up.rf, h⟩)
    | (obtain ⟨_, _, _, h⟩ := am_1i_s h; rcases am_sw_s h with ⟨_, h⟩ | h <;> exact Or.inr ⟨_, _, _, _, am_up.rf, h⟩)
    | (obtain ⟨_, _, _, h⟩ := am_1r_s h; split at h <;> exact Or.inr ⟨_, _, _, _, am_up.rf, h⟩)
    | (obtain ⟨_, _, _, h⟩ := am_1r_s h; split at h <;> first | exact Or.inr ⟨_, _, _, _, am_up.rf, h⟩ | exact Or.inr ⟨_, _, _, _, am_up.rf, (am_if_s h).2⟩)
    | (split at h <;> exact Or.inr ⟨_, _, _, _, am_up.rf, h⟩)
    | (obtain ⟨_, _, _, h⟩ := am_1r_s h; rcases am_ifnl_s h with ⟨_, h⟩ | ⟨_, _, _, h⟩ <;> exact Or.inr ⟨_, _, _, _, am_up.rf, h⟩)
    | (obtain ⟨_, _, _, h⟩ := am_1r_s h; split at h <;> (obtain ⟨_, _, h⟩ := am_bd h; exact Or.inr ⟨_, _, _, _, am_up.rf, h⟩))
    | (obtain ⟨_, _, _, h⟩ := am_1r_s h; obtain ⟨_, _, h⟩ := am_bd h; exact Or.inr ⟨_, _, _, _, am_up.rf, h⟩)
    | (obtain ⟨_, _, _, _, h⟩ := am_ri_s h; obtain ⟨_, _, h⟩ := am_bd h; exact Or.inr ⟨_, _, _, _, am_up.rf, h⟩)
    | (obtain ⟨_, _, _, _, _, h⟩ := am_rii_s h; obtain ⟨s', e, h⟩ := am_bd h; exact Or.inr ⟨_, _, _, _, am_up.ias e, h⟩)
    | (obtain ⟨_, _, _, _, _, h⟩ := am_rir_s h; obtain ⟨s', e, h⟩ := am_bd h; exact Or.inr ⟨_, _, _, _, am_up.ras e, h⟩)
    | (obtain ⟨lo', st', s', hu, h⟩ := am_cal_J hC h; exact Or.inr ⟨_, _, _, _, hu, h⟩)
    | (obtain ⟨_, _, _, h⟩ := am_1i_s h; obtain ⟨_, h⟩ := am_nil_s h; split at h <;> first | exact Or.inl ⟨_, am_up.rf, h⟩ | exact Or.inl ⟨_, am_up.rf, (am_if_s h).2⟩)
    | (obtain ⟨_, _, _, h⟩ := am_1l_s h; obtain ⟨_, h⟩ := am_nil_s h; exact Or.inl ⟨_, am_up.rf, h⟩)
    | (obtain ⟨_, _, _, h⟩ := am_1r_s h; obtain ⟨_, h⟩ := am_nil_s h; exact Or.inl ⟨_, am_up.rf, h⟩)
    | (obtain ⟨_, h⟩ := am_nil_s h; exact Or.inl ⟨_, am_up.rf, h⟩)
    | (split at h
       · obtain ⟨_, _, _, _, h⟩ := am_ri_s h; obtain ⟨s', e, h⟩ := am_bd h; exact Or.inr ⟨_, _, _, _, am_up.put e, h⟩
       · split at h
         · obtain ⟨_, _, _, _, h⟩ := am_2r_s h; obtain ⟨s', e, h⟩ := am_bd h; exact Or.inr ⟨_, _, _, _, am_up.put e, h⟩
         · obtain ⟨_, _, _, _, h⟩ := am_ri_s h; obtain ⟨_, h⟩ := am_if_s h; obtain ⟨s', e, h⟩ := am_bd h; exact Or.inr ⟨_, _, _, _, am_up.put e, h⟩)
    | (obtain ⟨_, _, _, _, h⟩ := am_2r_s h
       split at h
       · exact Or.inr ⟨_, _, _, _, am_up.rf, h⟩
       · exact Or.inr ⟨_, _, _, _, am_up.rf, (am_if_s h).2⟩)
theorem am_ex_J (P : Nat → Option am_E) (hC : ∀ m as s r, C m as s = some r → am_up s r.2) {n : Nat} : ∀ {f : am_F} {r : am_R}, am_ex D C P n f = some r → am_up f.2.2.2 r.2 := by
  induction n with
  | zero => intro f r h; cases h
  | succ n ih =>
    intro f r h
    unfold am_ex am_nx am_sx at h
    split at h
    · cases h
    · obtain ⟨q, hq, h⟩ := am_bd h
      rcases am_st_J hC hq with ⟨r', hu, e⟩ | ⟨pc', lo', st', s', hu, e⟩
      · cases e; cases h; exact hu
      · cases e; exact hu.tr (ih h)
theorem am_rn_J (P : Nat → Option am_E) (hC : ∀ m as s r, C m as s = some r → am_up s r.2) {pc : Nat} {lo : am_L} {st : List am_V} {s : am_S} {r : am_R} (h : am_run D C P pc lo st s = some r) : am_up s r.2 := by
  obtain ⟨n, hn⟩ := am_rn_to D C P h
  exact am_ex_J P hC hn
end Mono
