/-! What an answer of the small machine says of the stack, the locals, the heap. -/
section Inv
variable {ρ : Type} {z : ρ}
theorem am_1i_s {st : List am_V} {k : Int32 → List am_V → Option ρ} (h : am_1i st k = some z) : ∃ a st', st = am_i a :: st' ∧ k a st' = some z := by
  unfold am_1i at h; split at h
  · exact ⟨_, _, rfl, h⟩
  · cases h
theorem am_2i_s {st : List am_V} {k : Int32 → Int32 → List am_V → Option ρ} (h : am_2i st k = some z) : ∃ a b st', st = am_i b :: am_i a :: st' ∧ k a b st' = some z := by
  unfold am_2i at h; split at h
  · exact ⟨_, _, _, rfl, h⟩
  · cases h
theorem am_1l_s {st : List am_V} {k : Int64 → List am_V → Option ρ} (h : am_1l st k = some z) : ∃ a st', st = am_l a :: st' ∧ k a st' = some z := by
  unfold am_1l at h; split at h
  · exact ⟨_, _, rfl, h⟩
  · cases h
theorem am_2l_s {st : List am_V} {k : Int64 → Int64 → List am_V → Option ρ} (h : am_2l st k = some z) : ∃ a b st', st = am_l b :: am_l a :: st' ∧ k a b st' = some z := by
  unfold am_2l at h; split at h
  · exact ⟨_, _, _, rfl, h⟩
  · cases h
theorem am_li_s {st : List am_V} {k : Int64 → Int32 → List am_V → Option ρ} (h : am_li st k = some z) : ∃ a b st', st = am_i b :: am_l a :: st' ∧ k a b st' = some z := by
  unfold am_li at h; split at h
  · exact ⟨_, _, _, rfl, h⟩
  · cases h
theorem am_1r_s {st : List am_V} {k : Option Nat → List am_V → Option ρ} (h : am_1r st k = some z) : ∃ a st', st = am_r a :: st' ∧ k a st' = some z := by
  unfold am_1r at h; split at h
  · exact ⟨_, _, rfl, h⟩
  · cases h
theorem am_2r_s {st : List am_V} {k : Option Nat → Option Nat → List am_V → Option ρ} (h : am_2r st k = some z) : ∃ a b st', st = am_r b :: am_r a :: st' ∧ k a b st' = some z := by
  unfold am_2r at h; split at h
  · exact ⟨_, _, _, rfl, h⟩
  · cases h
theorem am_ri_s {st : List am_V} {k : Option Nat → Int32 → List am_V → Option ρ} (h : am_ri st k = some z) : ∃ a b st', st = am_i b :: am_r a :: st' ∧ k a b st' = some z := by
  unfold am_ri at h; split at h
  · exact ⟨_, _, _, rfl, h⟩
  · cases h
theorem am_rii_s {st : List am_V} {k : Option Nat → Int32 → Int32 → List am_V → Option ρ} (h : am_rii st k = some z) : ∃ a b d st', st = am_i d :: am_i b :: am_r a :: st' ∧ k a b d st' = some z := by
  unfold am_rii at h; split at h
  · exact ⟨_, _, _, _, rfl, h⟩
  · cases h
theorem am_rir_s {st : List am_V} {k : Option Nat → Int32 → Option Nat → List am_V → Option ρ} (h : am_rir st k = some z) : ∃ a b d st', st = am_r d :: am_i b :: am_r a :: st' ∧ k a b d st' = some z := by
  unfold am_rir at h; split at h
  · exact ⟨_, _, _, _, rfl, h⟩
  · cases h
theorem am_cpyS_s {st : List am_V} {k : Option Nat → Int32 → Option Nat → Int32 → Int32 → List am_V → Option ρ} (h : am_cpyS st k = some z) : ∃ r i w j n st', st = am_i n :: am_i j :: am_r w :: am_i i :: am_r r :: st' ∧ k r i w j n st' = some z := by
  unfold am_cpyS at h; split at h
  · exact ⟨_, _, _, _, _, _, rfl, h⟩
  · cases h
theorem am_nil_s {st : List am_V} {k : Option ρ} (h : am_nil st k = some z) : st = [] ∧ k = some z := by
  unfold am_nil at h; split at h
  · exact ⟨rfl, h⟩
  · cases h
theorem am_1_s {st : List am_V} {k : am_V → List am_V → Option ρ} (h : am_1 st k = some z) : ∃ a st', st = a :: st' ∧ k a st' = some z := by
  unfold am_1 at h; split at h
  · exact ⟨_, _, rfl, h⟩
  · cases h
theorem am_if_s {c : Prop} [Decidable c] {a : Option ρ} (h : (if c then a else none) = some z) : c ∧ a = some z := by
  split at h
  · exact ⟨by assumption, h⟩
  · cases h
theorem am_ifn_s {c : Prop} [Decidable c] {a : Option ρ} (h : (if c then none else a) = some z) : ¬ c ∧ a = some z := by
  split at h
  · cases h
  · exact ⟨by assumption, h⟩
theorem am_dx_s {st : List am_V} {k : am_V → am_V → List am_V → Option ρ} (h : am_dx st k = some z) : ∃ a b st', st = a :: b :: st' ∧ am_cat a = 1 ∧ am_cat b = 1 ∧ k a b st' = some z := by
  unfold am_dx at h; split at h
  · obtain ⟨h1, h2⟩ := am_if_s h
    exact ⟨_, _, _, rfl, h1.1, h1.2, h2⟩
  · cases h
theorem am_ldi_s {lo : am_L} {i : Nat} {k : Int32 → Option ρ} (h : am_ldi lo i k = some z) : ∃ x, lo[i]? = some (some (am_i x)) ∧ k x = some z := by
  unfold am_ldi at h; split at h
  · exact ⟨_, by assumption, h⟩
  · cases h
theorem am_ldl_s {lo : am_L} {i : Nat} {k : Int64 → Option ρ} (h : am_ldl lo i k = some z) : ∃ x, lo[i]? = some (some (am_l x)) ∧ k x = some z := by
  unfold am_ldl at h; split at h
  · exact ⟨_, by assumption, h⟩
  · cases h
theorem am_ldr_s {lo : am_L} {i : Nat} {k : Option Nat → Option ρ} (h : am_ldr lo i k = some z) : ∃ x, lo[i]? = some (some (am_r x)) ∧ k x = some z := by
  unfold am_ldr at h; split at h
  · exact ⟨_, by assumption, h⟩
  · cases h
theorem am_pop_s {n : Nat} {st : List am_V} {k : List am_V → List am_V → Option ρ} (h : am_pop n st k = some z) : ∃ as rest, st = as.reverse ++ rest ∧ as.length = n ∧ (rest.map am_cat).sum ≤ 8 ∧ k as rest = some z := by
  unfold am_pop at h
  obtain ⟨⟨h1, h2⟩, h3⟩ := am_if_s h
  exact ⟨_, _, by rw [List.reverse_reverse, List.take_append_drop], by rw [List.length_reverse, List.length_take]; omega, h2, h3⟩
theorem am_rcv_s {h : List am_Ce} {c : Nat} {as : List am_V} {k : Option ρ} (e : am_rcv h c as k = some z) : ∃ a as', as = am_r (some a) :: as' ∧ am_is h (some a) c = true ∧ k = some z := by
  unfold am_rcv at e; split at e
  · obtain ⟨h1, h2⟩ := am_if_s e
    rename_i r as'
    cases r with
    | none => cases h1
    | some a => exact ⟨a, as', rfl, h1, h2⟩
  · cases e
theorem am_is_s {h : List am_Ce} {a c : Nat} (e : am_is h (some a) c = true) : ∃ fs, h[a]? = some (.inl (c, fs)) := by
  unfold am_is at e; simp only at e; split at e
  · rename_i o ho
    obtain ⟨c', fs⟩ := o
    have : c' = c := by simpa using e
    subst this
    exact ⟨fs, ho⟩
  · cases e
theorem am_obj_s {h : List am_Ce} {r : Option Nat} {c k : Nat} {v : am_V} (e : am_obj h r c k = some v) : ∃ a fs, r = some a ∧ h[a]? = some (.inl (c, fs)) ∧ fs[k]? = some v := by
  unfold am_obj at e; split at e
  · cases e
  · split at e
    · obtain ⟨h1, h2⟩ := am_if_s e
      rename_i a _ o ho
      obtain ⟨c', fs⟩ := o
      simp only at h1 h2
      subst h1
      exact ⟨a, fs, rfl, ho, h2⟩
    · cases e
theorem am_gi_s {h : List am_Ce} {r : Option Nat} {c k : Nat} {x : Int32} (e : am_gi h r c k = some x) : ∃ a fs, r = some a ∧ h[a]? = some (.inl (c, fs)) ∧ fs[k]? = some (am_i x) := by
  unfold am_gi at e; split at e
  · cases e; exact am_obj_s (by assumption)
  · cases e
theorem am_gr_s {h : List am_Ce} {r : Option Nat} {c k : Nat} {x : Option Nat} (e : am_gr h r c k = some x) : ∃ a fs, r = some a ∧ h[a]? = some (.inl (c, fs)) ∧ fs[k]? = some (am_r x) := by
  unfold am_gr at e; split at e
  · cases e; exact am_obj_s (by assumption)
  · cases e
theorem am_put_s {s s' : am_S} {r : Option Nat} {c k : Nat} {v : am_V} (e : am_put s r c k v = some s') : ∃ a fs, r = some a ∧ am_K ≤ a ∧ s.1[a]? = some (.inl (c, fs)) ∧ k < fs.length ∧ s' = (s.1.set a (.inl (c, fs.set k v)), s.2) := by
  unfold am_put at e; split at e
  · cases e
  · obtain ⟨h0, e⟩ := am_if_s e
    split at e
    · obtain ⟨h1, h2⟩ := am_if_s e
      rename_i o ho
      obtain ⟨c', fs⟩ := o
      obtain ⟨h1, h3⟩ := h1
      simp only at h1 h2 h3
      subst h1
      exact ⟨_, fs, rfl, h0, ho, h3, (Option.some.inj h2).symm⟩
    · cases e
theorem am_ial_s {h : List am_Ce} {r : Option Nat} {t : Nat} {i x : Int32} (e : am_ial h r t i = some x) : ∃ a n f, r = some a ∧ h[a]? = some (.inr (.inl (t, n, f))) ∧ vp_in i n ∧ x = f i.toNatClampNeg := by
  unfold am_ial at e; split at e
  · cases e
  · split at e
    · obtain ⟨h1, h2⟩ := am_if_s e
      rename_i a _ q hq
      obtain ⟨t', n, f⟩ := q
      obtain ⟨h1, h3⟩ := h1
      simp only at h1 h2 h3
      subst h1
      exact ⟨a, n, f, rfl, hq, h3, (Option.some.inj h2).symm⟩
    · cases e
theorem am_ias_s {s s' : am_S} {r : Option Nat} {t : Nat} {i x : Int32} (e : am_ias s r t i x = some s') : ∃ a n f, r = some a ∧ am_K ≤ a ∧ s.1[a]? = some (.inr (.inl (t, n, f))) ∧ vp_in i n ∧ s' = (s.1.set a (.inr (.inl (t, n, upd f i.toNatClampNeg (am_nar t x)))), s.2) := by
  unfold am_ias at e; split at e
  · cases e
  · obtain ⟨h0, e⟩ := am_if_s e
    split at e
    · obtain ⟨h1, h2⟩ := am_if_s e
      rename_i q hq
      obtain ⟨t', n, f⟩ := q
      obtain ⟨h1, h3⟩ := h1
      simp only at h1 h2 h3
      subst h1
      exact ⟨_, n, f, rfl, h0, hq, h3, (Option.some.inj h2).symm⟩
    · cases e
theorem am_ral_s {h : List am_Ce} {r : Option Nat} {i : Int32} {x : Option Nat} (e : am_ral h r i = some x) : ∃ a t n f, r = some a ∧ h[a]? = some (.inr (.inr (t, n, f))) ∧ vp_in i n ∧ x = f i.toNatClampNeg := by
  unfold am_ral at e; split at e
  · cases e
  · split at e
    · obtain ⟨h1, h2⟩ := am_if_s e
      rename_i a _ q hq
      obtain ⟨t', n, f⟩ := q
      exact ⟨a, t', n, f, rfl, hq, h1, (Option.some.inj h2).symm⟩
    · cases e
theorem am_ras_s {s s' : am_S} {r v : Option Nat} {i : Int32} (e : am_ras s r i v = some s') : ∃ a t n f, r = some a ∧ am_K ≤ a ∧ s.1[a]? = some (.inr (.inr (t, n, f))) ∧ vp_in i n ∧ am_asg s.1 t v = true ∧ s' = (s.1.set a (.inr (.inr (t, n, va_up f i.toNatClampNeg v))), s.2) := by
  unfold am_ras at e; split at e
  · cases e
  · obtain ⟨h0, e⟩ := am_if_s e
    split at e
    · obtain ⟨h1, h2⟩ := am_if_s e
      rename_i q hq
      obtain ⟨t', n, f⟩ := q
      exact ⟨_, t', n, f, rfl, h0, hq, h1.1, h1.2, (Option.some.inj h2).symm⟩
    · cases e
theorem am_asg_s {h : List am_Ce} {t b : Nat} (e : am_asg h t (some b) = true) : am_K ≤ b ∧ ∃ c fs, h[b]? = some (.inl (c, fs)) ∧ (t = 0 ∨ t = c) ∧ c < 14 := by
  unfold am_asg at e
  simp only [Bool.and_eq_true] at e
  obtain ⟨h1, h2⟩ := e
  split at h2
  · rename_i o ho
    obtain ⟨c, fs⟩ := o
    simp only [Bool.and_eq_true, Bool.or_eq_true, beq_iff_eq] at h2
    exact ⟨Nat.le_of_ble_eq_true h1, c, fs, ho, h2.1, by have h9 := h2.2; simp [Nat.blt] at h9; omega⟩
  · cases h2
theorem am_len_s {h : List am_Ce} {r : Option Nat} {n : Nat} (e : am_len h r = some n) : ∃ a, r = some a ∧ ((∃ t f, h[a]? = some (.inr (.inl (t, n, f)))) ∨ ∃ t f, h[a]? = some (.inr (.inr (t, n, f)))) := by
  unfold am_len at e; split at e
  · cases e
  · split at e
    · rename_i a _ q hq
      obtain ⟨t, n', f⟩ := q
      cases e
      exact ⟨a, rfl, Or.inl ⟨t, f, hq⟩⟩
    · rename_i a _ q hq
      obtain ⟨t, n', f⟩ := q
      cases e
      exact ⟨a, rfl, Or.inr ⟨t, f, hq⟩⟩
    · cases e
theorem am_isO_s {h : List am_Ce} {r : Option Nat} (e : am_isO h r = true) : ∃ a n f, r = some a ∧ am_K ≤ a ∧ h[a]? = some (.inr (.inr (0, n, f))) := by
  unfold am_isO at e; split at e
  · cases e
  · split at e
    · rename_i a _ q hq
      obtain ⟨t, n, f⟩ := q
      simp only [Bool.and_eq_true, beq_iff_eq] at e
      obtain ⟨e1, e2⟩ := e
      subst e2
      exact ⟨a, n, f, rfl, Nat.le_of_ble_eq_true e1, hq⟩
    · cases e
theorem am_isC_s {h : List am_Ce} {a c : Nat} (e : am_isC h (some a) c = true) : (c = 60 ∧ am_K ≤ a ∧ ∃ n f, h[a]? = some (.inr (.inl (0, n, f)))) ∨ (c ≠ 60 ∧ am_is h (some a) c = true) := by
  unfold am_isC at e; split at e
  · simp only at e
    split at e
    · rename_i q hq
      obtain ⟨t, n, f⟩ := q
      simp only [Bool.and_eq_true, beq_iff_eq] at e
      obtain ⟨e1, e2⟩ := e
      subst e2
      exact Or.inl ⟨rfl, Nat.le_of_ble_eq_true e1, n, f, hq⟩
    · cases e
  · rename_i hc
    exact Or.inr ⟨hc, e⟩
theorem am_cln_s {s s' : am_S} {r : Option Nat} (e : am_cln s r = some s') : ∃ a n f, r = some a ∧ am_K ≤ a ∧ s.1[a]? = some (.inr (.inl (0, n, f))) ∧ n ≤ 65536 ∧ s' = (s.1 ++ [.inr (.inl (0, n, fun k => if k < n then f k else 0))], s.2 + n) := by
  unfold am_cln at e; split at e
  · cases e
  · split at e
    · obtain ⟨h1, h2⟩ := am_if_s e
      rename_i a _ q hq
      obtain ⟨t, n, f⟩ := q
      obtain ⟨h0, h1, h3⟩ := h1
      simp only at h0 h1 h2 h3
      subst h1
      exact ⟨a, n, f, rfl, h0, hq, h3, (Option.some.inj h2).symm⟩
    · cases e
theorem am_cpy_s {s s' : am_S} {r w : Option Nat} {i j n : Int32} (e : am_cpy s r i w j n = some s') : ∃ a b, r = some a ∧ w = some b ∧ am_K ≤ a ∧ am_K ≤ b ∧ a ≠ b ∧ ¬ i < 0 ∧ ¬ j < 0 ∧ ¬ n < 0 ∧
    ((∃ n0 f n1 g, s.1[a]? = some (.inr (.inl (0, n0, f))) ∧ s.1[b]? = some (.inr (.inl (0, n1, g))) ∧ i.toNatClampNeg + n.toNatClampNeg ≤ n0 ∧ j.toNatClampNeg + n.toNatClampNeg ≤ n1 ∧ s' = (s.1.set b (.inr (.inl (0, n1, va_cpy f g i.toNatClampNeg j.toNatClampNeg n.toNatClampNeg))), s.2)) ∨
     (∃ n0 f n1 g, s.1[a]? = some (.inr (.inr (0, n0, f))) ∧ s.1[b]? = some (.inr (.inr (0, n1, g))) ∧ i.toNatClampNeg + n.toNatClampNeg ≤ n0 ∧ j.toNatClampNeg + n.toNatClampNeg ≤ n1 ∧ (∀ k, k < n.toNatClampNeg → am_asg s.1 0 (f (i.toNatClampNeg + k)) = true) ∧ s' = (s.1.set b (.inr (.inr (0, n1, va_cpy f g i.toNatClampNeg j.toNatClampNeg n.toNatClampNeg))), s.2))) := by
  unfold am_cpy at e; split at e
  · rename_i a b
    obtain ⟨⟨h00, h0, h1, h2, h3, h4⟩, e⟩ := am_if_s e
    refine ⟨a, b, rfl, rfl, h00, h0, h1, h2, h3, h4, ?_⟩
    split at e
    · rename_i q q' hq hq'
      obtain ⟨t, n0, f⟩ := q
      obtain ⟨t', n1, g⟩ := q'
      obtain ⟨⟨k1, k2, k3, k4⟩, e⟩ := am_if_s e
      simp only at k1 k2 k3 k4
      subst k1; subst k2
      exact Or.inl ⟨n0, f, n1, g, hq, hq', k3, k4, (Option.some.inj e).symm⟩
    · rename_i q q' hq hq'
      obtain ⟨t, n0, f⟩ := q
      obtain ⟨t', n1, g⟩ := q'
      obtain ⟨⟨k1, k2, k3, k4, k5⟩, e⟩ := am_if_s e
      simp only at k1 k2 k3 k4 k5
      subst k1; subst k2
      exact Or.inr ⟨n0, f, n1, g, hq, hq', k3, k4, fun k hk => List.all_eq_true.mp k5 k (List.mem_range.mpr hk), (Option.some.inj e).symm⟩
    · cases e
  · cases e
theorem am_cz_s {c : Jvm.ClassFile.Cond} {x : Int32} {t e : Option ρ} (h : am_cz c x t e = some z) : t = some z ∨ e = some z := by
  cases c <;> (unfold am_cz at h; simp only at h; split at h <;> first | exact Or.inl h | exact Or.inr h)
end Inv
