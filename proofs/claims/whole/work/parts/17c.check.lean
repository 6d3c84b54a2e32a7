/-! An entry's check. -/
theorem am_tyf_ok {ci : Nat} {C : String} {T : u_T} {N : Nat} (h : vwCl[ci]? = some (C, T, N)) : ∀ k, k < N → parseFieldDescriptor (T k).2.2.1 = some (am_tyf ci k) := match ci, h with
  | 0, h => by cases h; exact tyJx4a65c_ok
  | 1, h => by cases h; exact tyX0_ok
  | 2, h => by cases h; exact tyX1_ok
  | 3, h => by cases h; exact tyX2_ok
  | 4, h => by cases h; exact tyX3_ok
  | 5, h => by cases h; exact tyX4_ok
  | 6, h => by cases h; exact tyX5_ok
  | 7, h => by cases h; exact tyX6_ok
  | 8, h => by cases h; exact tyX7_ok
  | 9, h => by cases h; exact tyX8_ok
  | 10, h => by cases h; exact tyX9_ok
  | 11, h => by cases h; exact tyX10_ok
  | 12, h => by cases h; exact tyX11_ok
  | 13, h => by cases h; exact tyX12_ok
  | k + 14, h => by simp [vwCl] at h
def am_isT (i : Instr) : Bool := match i with
  | .tableswitch _ _ _ _ => true
  | _ => false
theorem am_isT_s {i : Instr} (h : am_isT i = true) : ∃ d lw hi offs, i = .tableswitch d lw hi offs := by
  cases i <;> first | cases h; done | exact ⟨_, _, _, _, rfl⟩
def am_cb (on : Nat) (nit : Bool) (ret : Option FieldType) (pc : Nat) (i : Instr) (x : am_X) : Bool := match i with
  | .iconst n => decide (Int32.ofInt n = am_k x.2.2)
  | .bipush n => decide ((Int8.ofInt n).toInt32 = am_k x.2.2)
  | .sipush n => decide ((Int16.ofInt n).toInt32 = am_k x.2.2)
  | .ldc idx => (Nat.beq x.1 0 && am_isK on idx x.2.2) || ((Nat.beq x.1 1 && am_isS on idx x.2.1) || (Nat.beq x.1 2 && Nat.beq x.2.1 2 && Nat.beq on 20 && Nat.beq idx 110))
  | .ldc_w idx => am_isK on idx x.2.2
  | .ldc2_w idx => am_isL on idx x.2.2
  | .lconst n => decide (Int64.ofNat (n : Nat) = am_kl x.2.2)
  | .iinc _ z => decide (am_k z = Int32.ofInt z)
  | .ifCond _ off => decide (0 ≤ (pc : Int) + off)
  | .if_icmp _ off => decide (0 ≤ (pc : Int) + off)
  | .if_acmp _ off => decide (0 ≤ (pc : Int) + off)
  | .ifnull off => decide (0 ≤ (pc : Int) + off)
  | .ifnonnull off => decide (0 ≤ (pc : Int) + off)
  | .goto off => decide (0 ≤ (pc : Int) + off)
  | .tableswitch d lw hi offs => decide (lw = (lw.toNat : Int)) && Nat.ble (lw.toNat + offs.toList.length) 1000 && decide (hi + 1 = (lw.toNat : Int) + offs.toList.length) && decide (0 ≤ (pc : Int) + d) && offs.toList.all (fun o => decide (0 ≤ (pc : Int) + o))
  | .getfield idx => (Nat.beq x.1 50 && Nat.beq on 15 && ((Nat.beq x.2.1 0 && Nat.beq idx 9) || (Nat.beq x.2.1 1 && Nat.beq idx 15))) || am_isF on idx x.1 x.2.1
  | .putfield idx => am_isF on idx x.1 x.2.1 && (match vwCl[x.1]? with
      | some r => !(r.2.1 x.2.1).2.2.2 || (nit && decide ((r.2.1 x.2.1).1 = am_ow on))
      | none => false) && (match am_tyf x.1 x.2.1 with
      | .int => decide (x.2.2 = 0)
      | .boolean => decide (x.2.2 = 2)
      | .object _ => decide (x.2.2 = 1)
      | .array _ => decide (x.2.2 = 1)
      | _ => false)
  | .getstatic idx => (Nat.beq on 19 && Nat.beq idx 39 && Nat.beq x.1 1 && Nat.beq x.2.1 1) || ((Nat.beq on 15 && Nat.beq idx 38 && Nat.beq x.1 0 && decide (x.2.2 = 1)) || (Nat.beq on 15 && Nat.beq idx 1053 && Nat.beq x.1 1 && Nat.beq x.2.1 3))
  | .baload => Nat.beq x.1 1 || Nat.beq x.1 2
  | .bastore => Nat.beq x.1 1 || Nat.beq x.1 2
  | .new idx => am_isCl on idx x.1 && Nat.blt x.1 100
  | .newarray atype => Nat.blt x.1 3 && decide (newarray.typeOf atype = am_ty x.1)
  | .anewarray idx => (Nat.beq x.1 0 || (Nat.beq x.1 5 || Nat.beq x.1 9)) && am_isCl on idx (100 + x.1)
  | .checkcast idx => (Nat.beq x.1 60 && Nat.beq on 20 && Nat.beq idx 317) || (am_isCl on idx x.1 && Nat.blt x.1 100)
  | .invokestatic idx => (Nat.beq (x.2.2.toNat % 16) 0 && am_isM on idx x.1 true && Nat.beq (am_kd x.1) 1 && Nat.beq (am_np x.1) x.2.1) || ((Nat.beq (x.2.2.toNat % 16) 8 && Nat.beq on 20 && Nat.beq idx 150) || ((Nat.beq (x.2.2.toNat % 16) 10 && am_isX on idx 10) || ((Nat.beq (x.2.2.toNat % 16) 11 && am_isX on idx 11) || (Nat.beq (x.2.2.toNat % 16) 12 && am_isX on idx 12))))
  | .invokevirtual idx => (Nat.beq (x.2.2.toNat % 16) 1 && am_isM on idx x.1 false && Nat.beq (am_kd x.1) 0 && Nat.beq (am_np x.1 + 1) x.2.1 && (match am_cw[am_mon x.1]? with
      | some c => Nat.beq c (x.2.2.toNat / 16 % 256) && !Nat.beq c 99
      | none => false)) || ((Nat.beq (x.2.2.toNat % 16) 7 && Nat.beq on 20 && Nat.beq idx 86) || (Nat.beq (x.2.2.toNat % 16) 9 && Nat.beq on 20 && Nat.beq idx 316))
  | .invokespecial idx => (Nat.beq (x.2.2.toNat % 16) 2 && am_isM on idx x.1 true && Nat.beq (am_kd x.1) 2 && Nat.beq (am_np x.1 + 1) x.2.1 && Nat.blt (x.2.2.toNat / 16 % 256) 14) || (Nat.beq (x.2.2.toNat % 16) 6 && am_isI on idx && Nat.blt (x.2.2.toNat / 16 % 256) 14)
  | .ireturn => (match ret with
      | some .int => true
      | some .boolean => Nat.beq x.1 2
      | some .byte => Nat.beq x.1 1
      | some .char => Nat.beq x.1 3
      | _ => false)
  | .lreturn => (match ret with
      | some .long => true
      | _ => false)
  | .areturn => (match ret with
      | some (.object _) => true
      | some (.array _) => true
      | _ => false)
  | .return_ => (match ret with
      | none => true
      | _ => false)
  | _ => true
theorem am_beq {a b : Nat} (h : Nat.beq a b = true) : a = b := Nat.eq_of_beq_eq_true h
theorem am_blt {a b : Nat} (h : Nat.blt a b = true) : a < b := by simp [Nat.blt] at h; omega
set_option maxHeartbeats 1000000 in
theorem am_cb_ok {on : Nat} {nit : Bool} {ret : Option FieldType} {pc : Nat} {i : Instr} {x : am_X} (h : am_cb on nit ret pc i x = true) : am_cki am_mi (am_ow on) (nit = true) ret pc i x := by
  cases i
  all_goals try trivial
  all_goals simp only [am_cb] at h
  all_goals simp only [am_cki]
  case iconst n => exact of_decide_eq_true h
  case bipush n => exact of_decide_eq_true h
  case sipush n => exact of_decide_eq_true h
  case lconst n => exact of_decide_eq_true h
  case iinc k z => exact of_decide_eq_true h
  case ifCond c o => exact of_decide_eq_true h
  case if_icmp c o => exact of_decide_eq_true h
  case if_acmp c o => exact of_decide_eq_true h
  case ifnull o => exact of_decide_eq_true h
  case ifnonnull o => exact of_decide_eq_true h
  case goto o => exact of_decide_eq_true h
  case ldc idx =>
    simp only [Bool.or_eq_true, Bool.and_eq_true] at h
    rcases h with ⟨h1, h2⟩ | ⟨h1, h2⟩ | ⟨⟨⟨h1, h2⟩, h3⟩, h4⟩
    · exact Or.inl ⟨am_beq h1, am_isK_s h2⟩
    · exact Or.inr (Or.inl ⟨am_beq h1, am_isS_s h2⟩)
    · have h3 := am_beq h3; have h4 := am_beq h4; subst h3; subst h4
      exact Or.inr (Or.inr ⟨am_beq h1, am_beq h2, am_wci.2⟩)
  case ldc_w idx => exact am_isK_s h
  case ldc2_w idx => exact am_isL_s h
  case tableswitch d lw hi offs =>
    simp only [Bool.and_eq_true, decide_eq_true_eq] at h
    obtain ⟨⟨⟨⟨h1, h2⟩, h3⟩, h4⟩, h5⟩ := h
    exact ⟨⟨lw.toNat, h1, Nat.le_of_ble_eq_true h2, h3⟩, h4, fun o ho => of_decide_eq_true (List.all_eq_true.mp h5 o ho)⟩
  case getfield idx =>
    simp only [Bool.or_eq_true, Bool.and_eq_true] at h
    rcases h with ⟨⟨h1, h2⟩, h3⟩ | h
    · have h2 := am_beq h2; subst h2
      rcases h3 with ⟨h3, h4⟩ | ⟨h3, h4⟩
      · have h4 := am_beq h4; subst h4
        exact Or.inl ⟨am_beq h1, Or.inl ⟨am_beq h3, am_wst.1⟩⟩
      · have h4 := am_beq h4; subst h4
        exact Or.inl ⟨am_beq h1, Or.inr ⟨am_beq h3, am_wst.2⟩⟩
    · exact Or.inr (am_isF_s h)
  case putfield idx =>
    simp only [Bool.and_eq_true] at h
    obtain ⟨⟨h1, h2⟩, h3⟩ := h
    obtain ⟨C, T, N, ref, e1, e2, e3, e4⟩ := am_isF_s h1
    rw [e1] at h2
    simp only [Bool.or_eq_true, Bool.not_eq_true', Bool.and_eq_true, decide_eq_true_eq] at h2
    refine ⟨C, T, N, ref, am_tyf x.1 x.2.1, e1, e2, e3, e4, ?_, am_tyf_ok e1 _ e2, ?_⟩
    · rcases h2 with h2 | ⟨h2, h4⟩
      · exact Or.inl h2
      · cases hb : (T x.2.1).2.2.2 with
        | false => exact Or.inl rfl
        | true => exact Or.inr ⟨rfl, h2, h4⟩
    · split at h3
      · rename_i e; exact Or.inl ⟨of_decide_eq_true h3, e⟩
      · rename_i e; exact Or.inr (Or.inr ⟨of_decide_eq_true h3, e⟩)
      · rename_i e; exact Or.inr (Or.inl ⟨of_decide_eq_true h3, Or.inl ⟨_, e⟩⟩)
      · rename_i e; exact Or.inr (Or.inl ⟨of_decide_eq_true h3, Or.inr ⟨_, e⟩⟩)
      · cases h3
  case getstatic idx =>
    simp only [Bool.or_eq_true, Bool.and_eq_true, decide_eq_true_eq] at h
    rcases h with ⟨⟨⟨h1, h2⟩, h3⟩, h4⟩ | ⟨⟨⟨h1, h2⟩, h3⟩, h4⟩ | ⟨⟨⟨h1, h2⟩, h3⟩, h4⟩
    · have h1 := am_beq h1; have h2 := am_beq h2; have h3 := am_beq h3; have h4 := am_beq h4; subst h1; subst h2
      exact ⟨_, _, _, am_wgs.1, Or.inl ⟨rfl, rfl, rfl, by unfold am_gsv; rw [if_neg (by omega), h4]⟩⟩
    · have h1 := am_beq h1; have h2 := am_beq h2; have h3 := am_beq h3; subst h1; subst h2
      exact ⟨_, _, _, am_wgs.2.1, Or.inr (Or.inl ⟨rfl, rfl, rfl, by unfold am_gsv; rw [if_pos h3, h4]; rfl⟩)⟩
    · have h1 := am_beq h1; have h2 := am_beq h2; have h3 := am_beq h3; have h4 := am_beq h4; subst h1; subst h2
      exact ⟨_, _, _, am_wgs.2.2, Or.inr (Or.inr ⟨rfl, rfl, rfl, by unfold am_gsv; rw [if_neg (by omega), h4]⟩)⟩
  case baload => exact (Bool.or_eq_true_iff.mp h).imp am_beq am_beq
  case bastore => exact (Bool.or_eq_true_iff.mp h).imp am_beq am_beq
  case new idx =>
    simp only [Bool.and_eq_true] at h
    have h2 := am_blt h.2
    rcases am_isCl_s h.1 with ⟨h1, -⟩ | ⟨-, h1⟩
    · omega
    · exact h1
  case newarray atype =>
    simp only [Bool.and_eq_true, decide_eq_true_eq] at h
    exact ⟨am_blt h.1, h.2, am_wac _ (am_blt h.1)⟩
  case anewarray idx =>
    simp only [Bool.and_eq_true, Bool.or_eq_true] at h
    refine ⟨h.1.imp am_beq (Or.imp am_beq am_beq), ?_⟩
    rcases am_isCl_s h.2 with ⟨-, h1⟩ | ⟨h1, -⟩
    · rw [Nat.add_sub_cancel_left] at h1; exact h1
    · omega
  case checkcast idx =>
    simp only [Bool.or_eq_true, Bool.and_eq_true] at h
    rcases h with ⟨⟨h1, h2⟩, h3⟩ | ⟨h1, h2⟩
    · have h2 := am_beq h2; have h3 := am_beq h3; subst h2; subst h3
      exact Or.inl ⟨am_beq h1, am_wci.1⟩
    · have h2 := am_blt h2
      rcases am_isCl_s h1 with ⟨h1, -⟩ | ⟨-, h1⟩
      · omega
      · exact Or.inr h1
  case invokestatic idx =>
    simp only [Bool.or_eq_true, Bool.and_eq_true] at h
    rcases h with ⟨⟨⟨h1, h2⟩, h3⟩, h4⟩ | ⟨⟨h1, h2⟩, h3⟩ | ⟨h1, h2⟩ | ⟨h1, h2⟩ | ⟨h1, h2⟩
    · obtain ⟨y, bytes, maxL, rt, e1, e2, e3, e4, e5, e6, e7, e8⟩ := am_isM_s h2
      rw [am_beq h4] at e2
      exact Or.inl ⟨am_beq h1, y, bytes, maxL, rt, e1, e2, e4 (am_beq h3), e7⟩
    · have h2 := am_beq h2; have h3 := am_beq h3; subst h2; subst h3
      exact Or.inr (Or.inl ⟨am_beq h1, am_wcp⟩)
    · exact Or.inr (Or.inr (Or.inl ⟨am_beq h1, am_isX_s h2, am_wm10⟩))
    · exact Or.inr (Or.inr (Or.inr (Or.inl ⟨am_beq h1, am_isX_s h2, am_wm11⟩)))
    · exact Or.inr (Or.inr (Or.inr (Or.inr ⟨am_beq h1, am_isX_s h2, am_wm12⟩)))
  case invokevirtual idx =>
    simp only [Bool.or_eq_true, Bool.and_eq_true] at h
    rcases h with ⟨⟨⟨⟨h1, h2⟩, h3⟩, h4⟩, h5⟩ | ⟨⟨h1, h2⟩, h3⟩ | ⟨⟨h1, h2⟩, h3⟩
    · obtain ⟨y, bytes, maxL, rt, e1, e2, e3, e4, e5, e6, e7, e8⟩ := am_isM_s h2
      refine Or.inl ⟨am_beq h1, y, bytes, maxL, rt, am_np x.1, e1, (am_beq h4).symm, e2, (e6 (am_beq h3)).1, (e6 (am_beq h3)).2, e8 rfl, ?_⟩
      split at h5
      · rename_i c hc
        simp only [Bool.and_eq_true, Bool.not_eq_true'] at h5
        rw [e3, ← am_beq h5.1]
        exact am_cw_s hc h5.2
      · cases h5
    · have h2 := am_beq h2; have h3 := am_beq h3; subst h2; subst h3
      exact Or.inr (Or.inl ⟨am_beq h1, am_wgc⟩)
    · have h2 := am_beq h2; have h3 := am_beq h3; subst h2; subst h3
      exact Or.inr (Or.inr ⟨am_beq h1, am_wcl⟩)
  case invokespecial idx =>
    simp only [Bool.or_eq_true, Bool.and_eq_true] at h
    rcases h with ⟨⟨⟨⟨h1, h2⟩, h3⟩, h4⟩, h5⟩ | ⟨⟨h1, h2⟩, h3⟩
    · obtain ⟨y, bytes, maxL, rt, e1, e2, e3, e4, e5, e6, e7, e8⟩ := am_isM_s h2
      obtain ⟨f1, f2, f3⟩ := e5 (am_beq h3)
      subst f3
      exact Or.inl ⟨am_beq h1, y, bytes, maxL, am_np x.1, e1, (am_beq h4).symm, e2, f1, f2, e7, am_blt h5⟩
    · exact Or.inr ⟨am_beq h1, am_blt h3, am_isI_s h2, am_woi⟩
  case ireturn =>
    split at h
    · exact ⟨_, rfl, fun v _ => rfl⟩
    · have h := am_beq h; exact ⟨_, rfl, fun v hv => by rw [h] at hv; exact congrArg Value.int hv⟩
    · have h := am_beq h; exact ⟨_, rfl, fun v hv => by rw [h] at hv; exact congrArg Value.int hv⟩
    · have h := am_beq h; exact ⟨_, rfl, fun v hv => by rw [h] at hv; exact congrArg Value.int hv⟩
    · cases h
  case lreturn =>
    split at h
    · rfl
    · cases h
  case areturn =>
    split at h
    · exact ⟨_, rfl, Or.inl ⟨_, rfl⟩⟩
    · exact ⟨_, rfl, Or.inr ⟨_, rfl⟩⟩
    · cases h
  case return_ =>
    split at h
    · rfl
    · cases h
def am_okT (on : Nat) (nit : Bool) (bytes : ByteArray) (ret : Option FieldType) (tb : List (Nat × List (Nat × am_E))) : Bool := tb.all fun ch => ch.2.all fun q => decide (decode bytes q.1 = .ok (q.2.2.1, q.2.2.2.1)) && (am_isT q.2.2.1 || Nat.beq q.2.2.2.1 (am_ln q.2.2.1)) && am_cb on nit ret q.1 q.2.2.1 q.2.2.2.2
theorem am_fx_s {l : List (Nat × am_E)} {pc : Nat} {e : am_E} (h : am_fx l pc = some e) : (pc, e) ∈ l := by
  induction l with
  | nil => cases h
  | cons q qs ih =>
    unfold am_fx at h
    split at h
    · rename_i hq
      have := am_beq hq
      cases h
      subst this
      exact List.mem_cons_self
    · exact List.mem_cons_of_mem _ (ih h)
theorem am_fy_s {l : List (Nat × List (Nat × am_E))} {pc : Nat} {e : am_E} (h : am_fy l pc = some e) : ∃ ch ∈ l, (pc, e) ∈ ch.2 := by
  induction l with
  | nil => cases h
  | cons q qs ih =>
    unfold am_fy at h
    split at h
    · exact ⟨q, List.mem_cons_self, am_fx_s h⟩
    · obtain ⟨ch, h1, h2⟩ := ih h
      exact ⟨ch, List.mem_cons_of_mem _ h1, h2⟩
theorem am_okT_s {on : Nat} {nit : Bool} {y : MethodName} {bytes : ByteArray} {ret : Option FieldType} {tb : List (Nat × List (Nat × am_E))} (h : am_okT on nit bytes ret tb = true) (hy : y.cls = am_ow on) (hn : nit = true → y.name = "<init>") : am_Ckt am_mi y bytes ret (am_fy tb) := by
  intro pc e he
  obtain ⟨ch, h1, h2⟩ := am_fy_s he
  have hk := List.all_eq_true.mp (List.all_eq_true.mp h ch h1) _ h2
  simp only [Bool.and_eq_true, Bool.or_eq_true, decide_eq_true_eq] at hk
  obtain ⟨⟨k1, k2⟩, k3⟩ := hk
  exact ⟨k1, k2.imp am_isT_s am_beq, by rw [hy]; exact am_cki_nit hn (am_cb_ok k3)⟩
/-- the check, a stretch of the table at a time -/
def am_okJ (on : Nat) (nit : Bool) (bytes : ByteArray) (ret : Option FieldType) (tb : List (Nat × List (Nat × am_E))) (j : Nat) : Bool := match tb[j]? with
  | none => false
  | some ch => ch.2.all fun q => decide (decode bytes q.1 = .ok (q.2.2.1, q.2.2.2.1)) && (am_isT q.2.2.1 || Nat.beq q.2.2.2.1 (am_ln q.2.2.1)) && am_cb on nit ret q.1 q.2.2.1 q.2.2.2.2
theorem am_j0 {f : Nat → Bool} : ∀ j, j < 0 → f j = true := fun j h => absurd h (Nat.not_lt_zero _)
theorem am_j1 {f : Nat → Bool} {n : Nat} (h : ∀ j, j < n → f j = true) (k : f n = true) : ∀ j, j < n + 1 → f j = true := by
  intro j hj
  rcases Nat.lt_or_ge j n with q | q
  · exact h j q
  · have : j = n := by omega
    subst this
    exact k
theorem am_okJ_s {on : Nat} {nit : Bool} {bytes : ByteArray} {ret : Option FieldType} {tb : List (Nat × List (Nat × am_E))} {n : Nat} (hn : tb.length = n) (h : ∀ j, j < n → am_okJ on nit bytes ret tb j = true) : am_okT on nit bytes ret tb = true := by
  refine List.all_eq_true.mpr fun ch hch => ?_
  obtain ⟨j, hj⟩ := List.getElem?_of_mem hch
  have hk := h j (by rw [← hn]; exact (List.getElem?_eq_some_iff.mp hj).1)
  unfold am_okJ at hk
  rw [hj] at hk
  exact hk
