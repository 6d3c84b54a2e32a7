/-! Cells below 32 never change. -/
def am_uq (s s' : am_S) : Prop := ∀ a c, a < 32 → s.1[a]? = some c → s'.1[a]? = some c
theorem am_uq.rf {s : am_S} : am_uq s s := fun _ _ _ h => h
theorem am_uq.tr {a b c : am_S} (h : am_uq a b) (k : am_uq b c) : am_uq a c := fun i x hi hx => k i x hi (h i x hi hx)
theorem am_uq.set {s : am_S} {a : Nat} {c : am_Ce} (ha : am_K ≤ a) : am_uq s (s.1.set a c, s.2) := fun i x hi hx => by
  have : am_K = 32 := rfl
  rw [List.getElem?_set_ne (by omega)]; exact hx
theorem am_uq.app {s : am_S} {e : am_Ce} {n : Nat} : am_uq s (s.1 ++ [e], n) := fun i x hi hx => ap_lt hx
theorem am_uq.new {s : am_S} {e : am_Ce} {n : Nat} : am_uq s (am_new s e n) := fun i x hi hx => ap_lt hx
theorem am_uq.put {s s' : am_S} {r : Option Nat} {c k : Nat} {v : am_V} (e : am_put s r c k v = some s') : am_uq s s' := by
  obtain ⟨a, fs, -, h, -, -, rfl⟩ := am_put_s e; exact am_uq.set h
theorem am_uq.ias {s s' : am_S} {r : Option Nat} {t : Nat} {i x : Int32} (e : am_ias s r t i x = some s') : am_uq s s' := by
  obtain ⟨a, n, f, -, h, -, -, rfl⟩ := am_ias_s e; exact am_uq.set h
theorem am_uq.ras {s s' : am_S} {r v : Option Nat} {i : Int32} (e : am_ras s r i v = some s') : am_uq s s' := by
  obtain ⟨a, t, n, f, -, h, -, -, -, rfl⟩ := am_ras_s e; exact am_uq.set h
theorem am_uq.cln {s s' : am_S} {r : Option Nat} (e : am_cln s r = some s') : am_uq s s' := by
  obtain ⟨a, n, f, -, -, -, -, rfl⟩ := am_cln_s e
  exact fun i x hi hx => ap_lt hx
theorem am_uq.cpy {s s' : am_S} {r w : Option Nat} {i j n : Int32} (e : am_cpy s r i w j n = some s') : am_uq s s' := by
  obtain ⟨a, b, -, -, -, h, -, -, -, -, ⟨n0, f, n1, g, -, -, -, -, rfl⟩ | ⟨n0, f, n1, g, -, -, -, -, -, rfl⟩⟩ := am_cpy_s e <;> exact am_uq.set h
section Kp2
variable {ρ : Type} {z : ρ} {D : Nat → List am_V} {C : am_Cl}
theorem am_cal_Q (hC : ∀ m as s r, C m as s = some r → am_uq s r.2) {go : am_L → List am_V → am_S → Option ρ} {lo : am_L} {st : List am_V} {s : am_S} {x : am_X}
    (h : am_cal C go lo st s x = some z) : ∃ lo' st' s', am_uq s s' ∧ go lo' st' s' = some z := by
  unfold am_cal at h
  split at h
  · obtain ⟨as, rest, _, _, _, h⟩ := am_pop_s h
    obtain ⟨r, hr, h⟩ := am_ans_s h
    exact ⟨_, _, _, hC _ _ _ _ hr, h⟩
  · obtain ⟨as, rest, _, _, _, h⟩ := am_pop_s h
    obtain ⟨_, _, _, _, h⟩ := am_rcv_s h
    obtain ⟨r, hr, h⟩ := am_ans_s h
    exact ⟨_, _, _, hC _ _ _ _ hr, h⟩
  · obtain ⟨as, rest, _, _, _, h⟩ := am_pop_s h
    obtain ⟨_, _, _, _, h⟩ := am_rcv_s h
    obtain ⟨r, hr, h⟩ := am_ans_s h
    exact ⟨_, _, _, hC _ _ _ _ hr, h⟩
  · obtain ⟨_, _, _, h⟩ := am_1r_s h
    exact ⟨_, _, _, am_uq.rf, (am_if_s (am_if_s h).2).2⟩
  · obtain ⟨_, _, _, h⟩ := am_1r_s h
    exact ⟨_, _, _, am_uq.rf, (am_if_s (am_if_s h).2).2⟩
  · obtain ⟨_, _, _, _, _, _, _, h⟩ := am_cpyS_s h
    obtain ⟨_, h⟩ := am_if_s h
    obtain ⟨s', hs, h⟩ := am_bd h
    exact ⟨_, _, _, am_uq.cpy hs, h⟩
  · obtain ⟨_, _, _, h⟩ := am_1r_s h
    obtain ⟨_, h⟩ := am_if_s h
    obtain ⟨s', hs, h⟩ := am_bd h
    exact ⟨_, _, _, am_uq.cln hs, h⟩
  · obtain ⟨_, _, _, _, h⟩ := am_2i_s h
    exact ⟨_, _, _, am_uq.rf, (am_if_s h).2⟩
  · obtain ⟨_, _, _, _, h⟩ := am_2i_s h
    exact ⟨_, _, _, am_uq.rf, (am_if_s h).2⟩
  · obtain ⟨_, _, _, h⟩ := am_1i_s h
    exact ⟨_, _, _, am_uq.rf, (am_if_s h).2⟩
  · cases h
set_option maxHeartbeats 4000000 in
theorem am_st_Q (hC : ∀ m as s r, C m as s = some r → am_uq s r.2) {ret : am_R → Option ρ} {go : Nat → am_L → List am_V → am_S → Option ρ} {pc : Nat} {lo : am_L} {st : List am_V} {s : am_S} {i : Instr} {x : am_X}
    (h : am_st D C ret go pc lo st s i x = some z) : (∃ r : am_R, am_uq s r.2 ∧ ret r = some z) ∨ ∃ pc' lo' st' s', am_uq s s' ∧ go pc' lo' st' s' = some z := by
  cases i <;> simp only [am_st] at h <;> first
    | (cases h; done)
    | exact Or.inr ⟨_, _, _, _, am_uq.rf, h⟩
    | exact Or.inr ⟨_, _, _, _, am_uq.new, h⟩
    | (obtain ⟨_, _, h⟩ := am_ldi_s h; exact Or.inr ⟨_, _, _, _, am_uq.rf, h⟩)
    | (obtain ⟨_, _, h⟩ := am_ldl_s h; exact Or.inr ⟨_, _, _, _, am_uq.rf, h⟩)
    | (obtain ⟨_, _, h⟩ := am_ldr_s h; exact Or.inr ⟨_, _, _, _, am_uq.rf, h⟩)
    | (obtain ⟨_, _, h⟩ := am_ldi_s h; exact Or.inr ⟨_, _, _, _, am_uq.rf, (am_if_s h).2⟩)
    | (obtain ⟨_, _, _, h⟩ := am_1i_s h; exact Or.inr ⟨_, _, _, _, am_uq.rf, h⟩)
    | (obtain ⟨_, _, _, h⟩ := am_1i_s h; exact Or.inr ⟨_, _, _, _, am_uq.rf, (am_if_s h).2⟩)
    | (obtain ⟨_, _, _, h⟩ := am_1i_s h; exact Or.inr ⟨_, _, _, _, am_uq.new, (am_if_s h).2⟩)
    | (obtain ⟨_, _, _, h⟩ := am_1l_s h; exact Or.inr ⟨_, _, _, _, am_uq.rf, h⟩)
    | (obtain ⟨_, _, _, h⟩ := am_1l_s h; exact Or.inr ⟨_, _, _, _, am_uq.rf, (am_if_s h).2⟩)
    | (obtain ⟨_, _, _, h⟩ := am_1r_s h; exact Or.inr ⟨_, _, _, _, am_uq.rf, (am_if_s h).2⟩)
    | (obtain ⟨_, _, _, h⟩ := am_1_s h; exact Or.inr ⟨_, _, _, _, am_uq.rf, (am_if_s h).2⟩)
    | (obtain ⟨_, _, _, _, _, _, h⟩ := am_dx_s h; exact Or.inr ⟨_, _, _, _, am_uq.rf, h⟩)
    | (obtain ⟨_, _, _, _, h⟩ := am_2i_s h; exact Or.inr ⟨_, _, _, _, am_uq.rf, h⟩)
    | (obtain ⟨_, _, _, _, h⟩ := am_2i_s h; exact Or.inr ⟨_, _, _, _, am_uq.rf, (am_ifn_s h).2⟩)
    | (obtain ⟨_, _, _, _, h⟩ := am_2l_s h; exact Or.inr ⟨_, _, _, _, am_uq.rf, h⟩)
    | (obtain ⟨_, _, _, _, h⟩ := am_li_s h; exact Or.inr ⟨_, _, _, _, am_uq.rf, h⟩)
    | (obtain ⟨_, _, _, h⟩ := am_1i_s h; rcases am_cz_s h with h | h <;> exact Or.inr ⟨_, _, _, _, am_uq.rf, h⟩)
    | (obtain ⟨_, _, _, _, h⟩ := am_2i_s h; rcases am_cc_s h with h | h <;> exact Or.inr ⟨_, _, _, _, am_uq.rf, h⟩)
    | (obtain ⟨_, _, _, h⟩ := am_1i_s h; rcases am_sw_s h with ⟨_, h⟩ | h <;> exact Or.inr ⟨_, _, _, _, am_uq.rf, h⟩)
    | (obtain ⟨_, _, _, h⟩ := am_1r_s h; split at h <;> exact Or.inr ⟨_, _, _, _, am_uq.rf, h⟩)
    | (obtain ⟨_, _, _, h⟩ := am_1r_s h; split at h <;> first | exact Or.inr ⟨_, _, _, _, am_uq.rf, h⟩ | exact Or.inr ⟨_, _, _, _, am_uq.rf, (am_if_s h).2⟩)
    | (split at h <;> exact Or.inr ⟨_, _, _, _, am_uq.rf, h⟩)
    | (obtain ⟨_, _, _, h⟩ := am_1r_s h; rcases am_ifnl_s h with ⟨_, h⟩ | ⟨_, _, _, h⟩ <;> exact Or.inr ⟨_, _, _, _, am_uq.rf, h⟩)
    | (obtain ⟨_, _, _, h⟩ := am_1r_s h; split at h <;> (obtain ⟨_, _, h⟩ := am_bd h; exact Or.inr ⟨_, _, _, _, am_uq.rf, h⟩))
    | (obtain ⟨_, _, _, h⟩ := am_1r_s h; obtain ⟨_, _, h⟩ := am_bd h; exact Or.inr ⟨_, _, _, _, am_uq.rf, h⟩)
    | (obtain ⟨_, _, _, _, h⟩ := am_ri_s h; obtain ⟨_, _, h⟩ := am_bd h; exact Or.inr ⟨_, _, _, _, am_uq.rf, h⟩)
    | (obtain ⟨_, _, _, _, _, h⟩ := am_rii_s h; obtain ⟨s', e, h⟩ := am_bd h; exact Or.inr ⟨_, _, _, _, am_uq.ias e, h⟩)
    | (obtain ⟨_, _, _, _, _, h⟩ := am_rir_s h; obtain ⟨s', e, h⟩ := am_bd h; exact Or.inr ⟨_, _, _, _, am_uq.ras e, h⟩)
    | (obtain ⟨lo', st', s', hu, h⟩ := am_cal_Q hC h; exact Or.inr ⟨_, _, _, _, hu, h⟩)
    | (obtain ⟨_, _, _, h⟩ := am_1i_s h; obtain ⟨_, h⟩ := am_nil_s h; split at h <;> first | exact Or.inl ⟨_, am_uq.rf, h⟩ | exact Or.inl ⟨_, am_uq.rf, (am_if_s h).2⟩)
    | (obtain ⟨_, _, _, h⟩ := am_1l_s h; obtain ⟨_, h⟩ := am_nil_s h; exact Or.inl ⟨_, am_uq.rf, h⟩)
    | (obtain ⟨_, _, _, h⟩ := am_1r_s h; obtain ⟨_, h⟩ := am_nil_s h; exact Or.inl ⟨_, am_uq.rf, h⟩)
    | (obtain ⟨_, h⟩ := am_nil_s h; exact Or.inl ⟨_, am_uq.rf, h⟩)
    | (split at h
       · obtain ⟨_, _, _, _, h⟩ := am_ri_s h; obtain ⟨s', e, h⟩ := am_bd h; exact Or.inr ⟨_, _, _, _, am_uq.put e, h⟩
       · split at h
         · obtain ⟨_, _, _, _, h⟩ := am_2r_s h; obtain ⟨s', e, h⟩ := am_bd h; exact Or.inr ⟨_, _, _, _, am_uq.put e, h⟩
         · obtain ⟨_, _, _, _, h⟩ := am_ri_s h; obtain ⟨_, h⟩ := am_if_s h; obtain ⟨s', e, h⟩ := am_bd h; exact Or.inr ⟨_, _, _, _, am_uq.put e, h⟩)
    | (obtain ⟨_, _, _, _, h⟩ := am_2r_s h
       split at h
       · exact Or.inr ⟨_, _, _, _, am_uq.rf, h⟩
       · exact Or.inr ⟨_, _, _, _, am_uq.rf, (am_if_s h).2⟩)
theorem am_ex_Q (P : Nat → Option am_E) (hC : ∀ m as s r, C m as s = some r → am_uq s r.2) {n : Nat} : ∀ {f : am_F} {r : am_R}, am_ex D C P n f = some r → am_uq f.2.2.2 r.2 := by
  induction n with
  | zero => intro f r h; cases h
  | succ n ih =>
    intro f r h
    unfold am_ex am_nx am_sx at h
    split at h
    · cases h
    · obtain ⟨q, hq, h⟩ := am_bd h
      rcases am_st_Q hC hq with ⟨r', hu, e⟩ | ⟨pc', lo', st', s', hu, e⟩
      · cases e; cases h; exact hu
      · cases e; exact hu.tr (ih h)
theorem am_rn_Q (P : Nat → Option am_E) (hC : ∀ m as s r, C m as s = some r → am_uq s r.2) {pc : Nat} {lo : am_L} {st : List am_V} {s : am_S} {r : am_R} (h : am_run D C P pc lo st s = some r) : am_uq s r.2 := by
  obtain ⟨n, hn⟩ := am_rn_to D C P h
  exact am_ex_Q P hC hn
end Kp2
theorem am_den_uq {D : Nat → List am_V} {pg : Nat → Option ((Nat → Option am_E) × Nat)} {d : Nat} : ∀ m as s r, am_den D pg d m as s = some r → am_uq s r.2 := by
  induction d with
  | zero => intro m as s r h; cases h
  | succ d ih =>
    intro m as s r h
    unfold am_den at h
    split at h
    · cases h
    · obtain ⟨-, h⟩ := am_if_s h
      exact am_rn_Q _ ih h
theorem dn_uq {d m : Nat} {as : List am_V} {s : am_S} {r : am_R} (h : dn d m as s = some r) : am_uq s r.2 := am_den_uq m as s r h
