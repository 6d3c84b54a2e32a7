/-! The step: whatever the small machine does at an instruction that was checked, the machine does. -/
section St_
variable {p : Program} {l : Launch} {e : Env} {R : Room} {s : State} {m : MethodId} {args : Array Value} {below : List Frame} {meth : Method} {c : Code} {B : Nat} {ov : Nat → Option Nat} {G : va_G} {cI cR : Nat → ClassId} {O : List am_Ce} {n0 k0 : Nat} {Q : State → Prop} {nL : Nat} {cc : ByteArray} {own : String} {pc : Nat} {lo : am_L} {st : List am_V} {g : am_S}
set_option maxHeartbeats 4000000 in
theorem am_st_ok {mi : am_MI} {rtt : Option FieldType} {D : Nat → List am_V} {C : am_Cl} {d : Nat} (X : am_Cx p s m args c cc nL own B ov G cI cR O) (hCls : am_Cls D) (hup : ∀ m as s r, C m as s = some r → am_up s r.2)
    (hC : ∀ m as s r y bytes maxL rt, C m as s = some r → mi m = some (y, bytes, maxL, rt) → am_Mt l B ov G cI cR O d y bytes maxL rt as s r)
    (hfr : d + 1 ≤ R.frames) (hlo : 100 * (d + 1) ≤ R.locals) {i : Instr} {len : Nat} {x : am_X} (hd : decode cc pc = .ok (i, len)) (hln : (∃ d lw hi offs, i = .tableswitch d lw hi offs) ∨ len = am_ln i) (hk : am_cki mi own (meth.name = "<init>") rtt pc i x)
    {w : am_R ⊕ am_F} (h : am_st D C (fun r => some (.inl r)) (fun pc lo st s => some (.inr (pc, lo, st, s))) pc lo st g i x = some w)
    (hgo : ∀ pc' lo' st' g', w = .inr (pc', lo', st', g') → am_Ok p l e R s m args below meth c B ov G cI cR O n0 k0 Q nL (pc') (lo') (st') (g'))
    (hret : ∀ r : am_R, w = .inl r → ∀ pc i x lo st, am_isr i x st r.1 → decode cc pc = .ok (i, 1) → am_cki mi own (meth.name = "<init>") rtt pc i x → am_Ok p l e R s m args below meth c B ov G cI cR O n0 k0 Q nL (pc) (lo) (st) (r.2))
    (hroom : ∀ pc' lo' st' g', w = .inr (pc', lo', st', g') → g'.1.length - n0 ≤ R.cells ∧ g'.2 - k0 ≤ R.slots) : am_Ok p l e R s m args below meth c B ov G cI cR O n0 k0 Q nL (pc) (lo) (st) (g) := by
  have hx := X.1
  have hb := X.2.1
  have hml := X.2.2.1
  have hown := X.2.2.2.1
  have hts := X.2.2.2.2.1
  have hKK := X.2.2.2.2.2
  have hl1 : 40 ≤ R.locals := by omega
  have hf1 : 1 ≤ R.frames := by omega
  cases i
  all_goals simp only [am_st] at h
  all_goals try (cases h; done)
  all_goals try simp only [am_cki] at hk
  case iconst n =>
    cases h; simp [am_ln] at hln; subst hln
    intro H locs ls hR hS hL h1 h2
    exact lv_iconst hx hb hd hk (hgo _ _ _ _ rfl H locs ls hR hS hL h1 h2)
  case bipush n =>
    cases h; simp [am_ln] at hln; subst hln
    intro H locs ls hR hS hL h1 h2
    exact lv_bipush hx hb hd hk (hgo _ _ _ _ rfl H locs ls hR hS hL h1 h2)
  case sipush n =>
    cases h; simp [am_ln] at hln; subst hln
    intro H locs ls hR hS hL h1 h2
    exact lv_sipush hx hb hd hk (hgo _ _ _ _ rfl H locs ls hR hS hL h1 h2)
  case ldc idx =>
    simp [am_ln] at hln; subst hln
    rcases hk with ⟨e, hk⟩ | ⟨e, e2, tx, hk⟩ | ⟨e, e2, hk⟩
    · rw [if_pos e] at h; cases h
      intro H locs ls hR hS hL h1 h2
      exact lv_ldc hx hb hown (hts _ hk) hd (hgo _ _ _ _ rfl H locs ls hR hS hL h1 h2)
    · rw [if_neg (by omega)] at h; cases h
      exact am_ldcS X hd e2 hk (hgo _ _ _ _ rfl)
    · rw [if_neg (by omega), e2] at h; cases h
      exact am_ldcM X hd hk (hgo _ _ _ _ rfl)
  case ldc_w idx =>
    cases h; simp [am_ln] at hln; subst hln
    intro H locs ls hR hS hL h1 h2
    exact lv_ldcw hx hb hown (hts _ hk) hd (hgo _ _ _ _ rfl H locs ls hR hS hL h1 h2)
  case ldc2_w idx =>
    cases h; simp [am_ln] at hln; subst hln
    intro H locs ls hR hS hL h1 h2
    exact lv_ldc2 hx hb hown (hts _ hk) hd (hgo _ _ _ _ rfl H locs ls hR hS hL h1 h2)
  case lconst n =>
    cases h; simp [am_ln] at hln; subst hln
    intro H locs ls hR hS hL h1 h2
    exact lv_lconst hx hb hd hk (hgo _ _ _ _ rfl H locs ls hR hS hL h1 h2)
  case aconst_null =>
    cases h; simp [am_ln] at hln; subst hln
    intro H locs ls hR hS hL h1 h2
    exact lv_null hx hb hd (hgo _ _ _ _ rfl H locs ls hR hS hL h1 h2)
  case iload k =>
    replace h := am_ldi_s h
    obtain ⟨v, hv, h⟩ := h
    cases h; simp [am_ln] at hln; subst hln
    intro H locs ls hR hS hL h1 h2
    exact lv_iload hx hb hd (hL.2.2.2 _ _ hv) (hgo _ _ _ _ rfl H locs ls hR hS hL h1 h2)
  case iload_n k =>
    replace h := am_ldi_s h
    obtain ⟨v, hv, h⟩ := h
    cases h; simp [am_ln] at hln; subst hln
    intro H locs ls hR hS hL h1 h2
    exact lv_iload_n hx hb hd rfl (hL.2.2.2 _ _ hv) (hgo _ _ _ _ rfl H locs ls hR hS hL h1 h2)
  case lload k =>
    replace h := am_ldl_s h
    obtain ⟨v, hv, h⟩ := h
    cases h; simp [am_ln] at hln; subst hln
    intro H locs ls hR hS hL h1 h2
    exact lv_lload hx hb hd (hL.2.2.2 _ _ hv) (hgo _ _ _ _ rfl H locs ls hR hS hL h1 h2)
  case lload_n k =>
    replace h := am_ldl_s h
    obtain ⟨v, hv, h⟩ := h
    cases h; simp [am_ln] at hln; subst hln
    intro H locs ls hR hS hL h1 h2
    exact lv_lload_n hx hb hd rfl (hL.2.2.2 _ _ hv) (hgo _ _ _ _ rfl H locs ls hR hS hL h1 h2)
  case aload k =>
    replace h := am_ldr_s h
    obtain ⟨v, hv, h⟩ := h
    cases h; simp [am_ln] at hln; subst hln
    exact am_aldr X hd hv (hgo _ _ _ _ rfl)
  case aload_n k =>
    replace h := am_ldr_s h
    obtain ⟨v, hv, h⟩ := h
    cases h; simp [am_ln] at hln; subst hln
    exact am_aldn X hd hv (hgo _ _ _ _ rfl)
  case istore k =>
    replace h := am_1i_s h
    obtain ⟨v, st', rfl, h⟩ := h
    replace h := am_if_s h
    obtain ⟨hk1, h⟩ := h
    cases h; simp [am_ln] at hln; subst hln
    intro H locs ls hR hS hL h1 h2
    exact lv_istore hx hb hd hL.has (Nat.lt_of_lt_of_le hk1 hL.2.1) rfl (fun ls' h' => hgo _ _ _ _ rfl H locs ls' hR hS (am_LR_sto hL.2.1 h') h1 h2)
  case istore_n k =>
    replace h := am_1i_s h
    obtain ⟨v, st', rfl, h⟩ := h
    replace h := am_if_s h
    obtain ⟨hk1, h⟩ := h
    cases h; simp [am_ln] at hln; subst hln
    intro H locs ls hR hS hL h1 h2
    exact lv_istore_n hx hb hd rfl hL.has (Nat.lt_of_lt_of_le hk1 hL.2.1) rfl (fun ls' h' => hgo _ _ _ _ rfl H locs ls' hR hS (am_LR_sto hL.2.1 h') h1 h2)
  case lstore k =>
    replace h := am_1l_s h
    obtain ⟨v, st', rfl, h⟩ := h
    replace h := am_if_s h
    obtain ⟨hk1, h⟩ := h
    cases h; simp [am_ln] at hln; subst hln
    intro H locs ls hR hS hL h1 h2
    exact lv_lstore hx hb hd hL.has (Nat.lt_of_lt_of_le hk1 hL.2.1) rfl (fun ls' h' => hgo _ _ _ _ rfl H locs ls' hR hS (am_LR_sto2 hL.2.1 h') h1 h2)
  case lstore_n k =>
    replace h := am_1l_s h
    obtain ⟨v, st', rfl, h⟩ := h
    replace h := am_if_s h
    obtain ⟨hk1, h⟩ := h
    cases h; simp [am_ln] at hln; subst hln
    intro H locs ls hR hS hL h1 h2
    exact lv_lstore_n hx hb hd rfl hL.has (Nat.lt_of_lt_of_le hk1 hL.2.1) rfl (fun ls' h' => hgo _ _ _ _ rfl H locs ls' hR hS (am_LR_sto2 hL.2.1 h') h1 h2)
  case astore k =>
    replace h := am_1r_s h
    obtain ⟨v, st', rfl, h⟩ := h
    replace h := am_if_s h
    obtain ⟨hk1, h⟩ := h
    cases h; simp [am_ln] at hln; subst hln
    exact am_asto X hd hk1 (hgo _ _ _ _ rfl)
  case astore_n k =>
    replace h := am_1r_s h
    obtain ⟨v, st', rfl, h⟩ := h
    replace h := am_if_s h
    obtain ⟨hk1, h⟩ := h
    cases h; simp [am_ln] at hln; subst hln
    exact am_aston X hd hk1 (hgo _ _ _ _ rfl)
  case iinc k z =>
    replace h := am_ldi_s h
    obtain ⟨v, hv, h⟩ := h
    replace h := am_if_s h
    obtain ⟨hk1, h⟩ := h
    cases h; simp [am_ln] at hln; subst hln
    intro H locs ls hR hS hL h1 h2
    obtain ⟨j, hj⟩ := List.getElem?_of_mem (am_ll_in (B := B) (ov := ov) hv)
    exact lv_iinc hx hb hd hL.has hj (by rw [hk]) (Nat.lt_of_lt_of_le hk1 hL.2.1) rfl (fun ls' h' => hgo _ _ _ _ rfl H locs ls' hR hS (am_LR_sto hL.2.1 h') h1 h2)
  case pop =>
    replace h := am_1_s h
    obtain ⟨v, st', rfl, h⟩ := h
    replace h := am_if_s h
    obtain ⟨hc1, h⟩ := h
    cases h; simp [am_ln] at hln; subst hln
    intro H locs ls hR hS hL h1 h2
    exact lv_pop hx hb hd (by rw [am_cv_cat]; exact hc1) (hgo _ _ _ _ rfl H locs ls hR hS hL h1 h2)
  case dup =>
    replace h := am_1_s h
    obtain ⟨v, st', rfl, h⟩ := h
    replace h := am_if_s h
    obtain ⟨hc1, h⟩ := h
    cases h; simp [am_ln] at hln; subst hln
    intro H locs ls hR hS hL h1 h2
    exact lv_dup hx hb hd (by rw [am_cv_cat]; exact hc1) (hgo _ _ _ _ rfl H locs ls hR hS hL h1 h2)
  case dup_x1 =>
    replace h := am_dx_s h
    obtain ⟨u, v, st', rfl, c1, c2, h⟩ := h
    cases h; simp [am_ln] at hln; subst hln
    intro H locs ls hR hS hL h1 h2
    exact lv_dup_x1 hx hb hd (by rw [am_cv_cat]; exact c1) (by rw [am_cv_cat]; exact c2) (hgo _ _ _ _ rfl H locs ls hR hS hL h1 h2)
  case dup2 =>
    replace h := am_dx_s h
    obtain ⟨u, v, st', rfl, c1, c2, h⟩ := h
    cases h; simp [am_ln] at hln; subst hln
    intro H locs ls hR hS hL h1 h2
    exact lv_dup2_11 hx hb hd (by rw [am_cv_cat]; exact c1) (by rw [am_cv_cat]; exact c2) (hgo _ _ _ _ rfl H locs ls hR hS hL h1 h2)
  case iadd =>
    replace h := am_2i_s h
    obtain ⟨u, v, st', rfl, h⟩ := h
    cases h; simp [am_ln] at hln; subst hln
    intro H locs ls hR hS hL h1 h2
    exact lv_iadd hx hb hd (hgo _ _ _ _ rfl H locs ls hR hS hL h1 h2)
  case isub =>
    replace h := am_2i_s h
    obtain ⟨u, v, st', rfl, h⟩ := h
    cases h; simp [am_ln] at hln; subst hln
    intro H locs ls hR hS hL h1 h2
    exact lv_isub hx hb hd (hgo _ _ _ _ rfl H locs ls hR hS hL h1 h2)
  case imul =>
    replace h := am_2i_s h
    obtain ⟨u, v, st', rfl, h⟩ := h
    cases h; simp [am_ln] at hln; subst hln
    intro H locs ls hR hS hL h1 h2
    exact lv_imul hx hb hd (hgo _ _ _ _ rfl H locs ls hR hS hL h1 h2)
  case iand =>
    replace h := am_2i_s h
    obtain ⟨u, v, st', rfl, h⟩ := h
    cases h; simp [am_ln] at hln; subst hln
    intro H locs ls hR hS hL h1 h2
    exact lv_iand hx hb hd (hgo _ _ _ _ rfl H locs ls hR hS hL h1 h2)
  case ior =>
    replace h := am_2i_s h
    obtain ⟨u, v, st', rfl, h⟩ := h
    cases h; simp [am_ln] at hln; subst hln
    intro H locs ls hR hS hL h1 h2
    exact lv_ior hx hb hd (hgo _ _ _ _ rfl H locs ls hR hS hL h1 h2)
  case ixor =>
    replace h := am_2i_s h
    obtain ⟨u, v, st', rfl, h⟩ := h
    cases h; simp [am_ln] at hln; subst hln
    intro H locs ls hR hS hL h1 h2
    exact lv_ixor hx hb hd (hgo _ _ _ _ rfl H locs ls hR hS hL h1 h2)
  case ishl =>
    replace h := am_2i_s h
    obtain ⟨u, v, st', rfl, h⟩ := h
    cases h; simp [am_ln] at hln; subst hln
    intro H locs ls hR hS hL h1 h2
    exact lv_ishl hx hb hd (hgo _ _ _ _ rfl H locs ls hR hS hL h1 h2)
  case ishr =>
    replace h := am_2i_s h
    obtain ⟨u, v, st', rfl, h⟩ := h
    cases h; simp [am_ln] at hln; subst hln
    intro H locs ls hR hS hL h1 h2
    exact lv_ishr hx hb hd (hgo _ _ _ _ rfl H locs ls hR hS hL h1 h2)
  case land =>
    replace h := am_2l_s h
    obtain ⟨u, v, st', rfl, h⟩ := h
    cases h; simp [am_ln] at hln; subst hln
    intro H locs ls hR hS hL h1 h2
    exact lv_land hx hb hd (hgo _ _ _ _ rfl H locs ls hR hS hL h1 h2)
  case lor =>
    replace h := am_2l_s h
    obtain ⟨u, v, st', rfl, h⟩ := h
    cases h; simp [am_ln] at hln; subst hln
    intro H locs ls hR hS hL h1 h2
    exact lv_lor hx hb hd (hgo _ _ _ _ rfl H locs ls hR hS hL h1 h2)
  case lxor =>
    replace h := am_2l_s h
    obtain ⟨u, v, st', rfl, h⟩ := h
    cases h; simp [am_ln] at hln; subst hln
    intro H locs ls hR hS hL h1 h2
    exact lv_lxor hx hb hd (hgo _ _ _ _ rfl H locs ls hR hS hL h1 h2)
  case idiv =>
    replace h := am_2i_s h
    obtain ⟨u, v, st', rfl, h⟩ := h
    replace h := am_ifn_s h
    obtain ⟨hc1, h⟩ := h
    cases h; simp [am_ln] at hln; subst hln
    intro H locs ls hR hS hL h1 h2
    exact lv_idiv hx hb hd hc1 (hgo _ _ _ _ rfl H locs ls hR hS hL h1 h2)
  case irem =>
    replace h := am_2i_s h
    obtain ⟨u, v, st', rfl, h⟩ := h
    replace h := am_ifn_s h
    obtain ⟨hc1, h⟩ := h
    cases h; simp [am_ln] at hln; subst hln
    intro H locs ls hR hS hL h1 h2
    exact lv_irem hx hb hd hc1 (hgo _ _ _ _ rfl H locs ls hR hS hL h1 h2)
  case ineg =>
    replace h := am_1i_s h
    obtain ⟨v, st', rfl, h⟩ := h
    cases h; simp [am_ln] at hln; subst hln
    intro H locs ls hR hS hL h1 h2
    exact lv_ineg hx hb hd (hgo _ _ _ _ rfl H locs ls hR hS hL h1 h2)
  case iushr =>
    replace h := am_2i_s h
    obtain ⟨u, v, st', rfl, h⟩ := h
    cases h; simp [am_ln] at hln; subst hln
    intro H locs ls hR hS hL h1 h2
    exact lv_iushr hx hb hd rfl (hgo _ _ _ _ rfl H locs ls hR hS hL h1 h2)
  case lshl =>
    replace h := am_li_s h
    obtain ⟨u, v, st', rfl, h⟩ := h
    cases h; simp [am_ln] at hln; subst hln
    intro H locs ls hR hS hL h1 h2
    exact lv_lshl hx hb hd rfl (hgo _ _ _ _ rfl H locs ls hR hS hL h1 h2)
  case lshr =>
    replace h := am_li_s h
    obtain ⟨u, v, st', rfl, h⟩ := h
    cases h; simp [am_ln] at hln; subst hln
    intro H locs ls hR hS hL h1 h2
    exact lv_lshr hx hb hd rfl (hgo _ _ _ _ rfl H locs ls hR hS hL h1 h2)
  case lushr =>
    replace h := am_li_s h
    obtain ⟨u, v, st', rfl, h⟩ := h
    cases h; simp [am_ln] at hln; subst hln
    intro H locs ls hR hS hL h1 h2
    exact lv_lushr hx hb hd rfl (hgo _ _ _ _ rfl H locs ls hR hS hL h1 h2)
  case lcmp =>
    replace h := am_2l_s h
    obtain ⟨u, v, st', rfl, h⟩ := h
    cases h; simp [am_ln] at hln; subst hln
    intro H locs ls hR hS hL h1 h2
    exact W.lcmp hx hb hd (hgo _ _ _ _ rfl H locs ls hR hS hL h1 h2)
  case i2l =>
    replace h := am_1i_s h
    obtain ⟨v, st', rfl, h⟩ := h
    cases h; simp [am_ln] at hln; subst hln
    intro H locs ls hR hS hL h1 h2
    exact lv_i2l hx hb hd rfl (hgo _ _ _ _ rfl H locs ls hR hS hL h1 h2)
  case i2b =>
    replace h := am_1i_s h
    obtain ⟨v, st', rfl, h⟩ := h
    cases h; simp [am_ln] at hln; subst hln
    intro H locs ls hR hS hL h1 h2
    exact lv_i2b hx hb hd rfl (hgo _ _ _ _ rfl H locs ls hR hS hL h1 h2)
  case i2c =>
    replace h := am_1i_s h
    obtain ⟨v, st', rfl, h⟩ := h
    cases h; simp [am_ln] at hln; subst hln
    intro H locs ls hR hS hL h1 h2
    exact lv_i2c hx hb hd rfl (hgo _ _ _ _ rfl H locs ls hR hS hL h1 h2)
  case l2i =>
    replace h := am_1l_s h
    obtain ⟨v, st', rfl, h⟩ := h
    cases h; simp [am_ln] at hln; subst hln
    intro H locs ls hR hS hL h1 h2
    exact lv_l2i hx hb hd rfl (hgo _ _ _ _ rfl H locs ls hR hS hL h1 h2)
  case ifCond cnd off =>
    replace h := am_1i_s h
    obtain ⟨v, st', rfl, h⟩ := h
    simp [am_ln] at hln; subst hln
    intro H locs ls hR hS hL h1 h2
    cases cnd <;> simp only [am_cz] at h
    · refine lv_if_eq hx hb hd (am_tgt hk) (fun q => ?_) (fun q => ?_)
      · rw [if_pos q] at h; cases h; exact hgo _ _ _ _ rfl H locs ls hR hS hL h1 h2
      · rw [if_neg q] at h; cases h; exact hgo _ _ _ _ rfl H locs ls hR hS hL h1 h2
    · refine lv_if_ne hx hb hd (am_tgt hk) (fun q => ?_) (fun q => ?_)
      · rw [if_pos q] at h; cases h; exact hgo _ _ _ _ rfl H locs ls hR hS hL h1 h2
      · rw [if_neg (fun z => z q)] at h; cases h; exact hgo _ _ _ _ rfl H locs ls hR hS hL h1 h2
    · refine lv_if_lt hx hb hd (am_tgt hk) (fun q => ?_) (fun q => ?_)
      · rw [if_pos q] at h; cases h; exact hgo _ _ _ _ rfl H locs ls hR hS hL h1 h2
      · rw [if_neg q] at h; cases h; exact hgo _ _ _ _ rfl H locs ls hR hS hL h1 h2
    · refine lv_if_ge hx hb hd (am_tgt hk) (fun q => ?_) (fun q => ?_)
      · rw [if_pos q] at h; cases h; exact hgo _ _ _ _ rfl H locs ls hR hS hL h1 h2
      · rw [if_neg q] at h; cases h; exact hgo _ _ _ _ rfl H locs ls hR hS hL h1 h2
    · refine lv_if_gt hx hb hd (am_tgt hk) (fun q => ?_) (fun q => ?_)
      · rw [if_pos q] at h; cases h; exact hgo _ _ _ _ rfl H locs ls hR hS hL h1 h2
      · rw [if_neg q] at h; cases h; exact hgo _ _ _ _ rfl H locs ls hR hS hL h1 h2
    · refine lv_if_le hx hb hd (am_tgt hk) (fun q => ?_) (fun q => ?_)
      · rw [if_pos q] at h; cases h; exact hgo _ _ _ _ rfl H locs ls hR hS hL h1 h2
      · rw [if_neg q] at h; cases h; exact hgo _ _ _ _ rfl H locs ls hR hS hL h1 h2
  case if_icmp cnd off =>
    replace h := am_2i_s h
    obtain ⟨u, v, st', rfl, h⟩ := h
    simp [am_ln] at hln; subst hln
    intro H locs ls hR hS hL h1 h2
    cases cnd <;> simp only [am_cc] at h
    · refine lv_icmp_eq hx hb hd (am_tgt hk) (fun q => ?_) (fun q => ?_)
      · rw [if_pos q] at h; cases h; exact hgo _ _ _ _ rfl H locs ls hR hS hL h1 h2
      · rw [if_neg q] at h; cases h; exact hgo _ _ _ _ rfl H locs ls hR hS hL h1 h2
    · refine lv_icmp_ne hx hb hd (am_tgt hk) (fun q => ?_) (fun q => ?_)
      · rw [if_pos q] at h; cases h; exact hgo _ _ _ _ rfl H locs ls hR hS hL h1 h2
      · rw [if_neg (fun z => z q)] at h; cases h; exact hgo _ _ _ _ rfl H locs ls hR hS hL h1 h2
    · refine lv_icmp_lt hx hb hd (am_tgt hk) (fun q => ?_) (fun q => ?_)
      · rw [if_pos q] at h; cases h; exact hgo _ _ _ _ rfl H locs ls hR hS hL h1 h2
      · rw [if_neg q] at h; cases h; exact hgo _ _ _ _ rfl H locs ls hR hS hL h1 h2
    · refine lv_icmp_ge hx hb hd (am_tgt hk) (fun q => ?_) (fun q => ?_)
      · rw [if_pos q] at h; cases h; exact hgo _ _ _ _ rfl H locs ls hR hS hL h1 h2
      · rw [if_neg q] at h; cases h; exact hgo _ _ _ _ rfl H locs ls hR hS hL h1 h2
    · refine lv_icmp_gt hx hb hd (am_tgt hk) (fun q => ?_) (fun q => ?_)
      · rw [if_pos q] at h; cases h; exact hgo _ _ _ _ rfl H locs ls hR hS hL h1 h2
      · rw [if_neg q] at h; cases h; exact hgo _ _ _ _ rfl H locs ls hR hS hL h1 h2
    · refine lv_icmp_le hx hb hd (am_tgt hk) (fun q => ?_) (fun q => ?_)
      · rw [if_pos q] at h; cases h; exact hgo _ _ _ _ rfl H locs ls hR hS hL h1 h2
      · rw [if_neg q] at h; cases h; exact hgo _ _ _ _ rfl H locs ls hR hS hL h1 h2
  case ifnull off =>
    replace h := am_1r_s h
    obtain ⟨r, st', rfl, h⟩ := h
    simp [am_ln] at hln; subst hln
    intro H locs ls hR hS hL h1 h2
    rw [am_astk]
    rcases am_ifnl_s h with ⟨rfl, h⟩ | ⟨a, rfl, ha, h⟩
    · cases h; exact lv_ifnullN hx hb hd (am_tgt hk) (hgo _ _ _ _ rfl H locs ls hR hS hL h1 h2)
    · cases h
      rw [am_rr_new ha]
      exact lv_ifnull hx hb hd (hgo _ _ _ _ rfl H locs ls hR hS hL h1 h2)
  case ifnonnull off =>
    replace h := am_1r_s h
    obtain ⟨r, st', rfl, h⟩ := h
    simp [am_ln] at hln; subst hln
    intro H locs ls hR hS hL h1 h2
    rw [am_astk]
    rcases am_ifnl_s h with ⟨rfl, h⟩ | ⟨a, rfl, ha, h⟩
    · cases h; exact lv_ifnonnullN hx hb hd (hgo _ _ _ _ rfl H locs ls hR hS hL h1 h2)
    · cases h
      rw [am_rr_new ha]
      exact lv_ifnonnull hx hb hd (am_tgt hk) (hgo _ _ _ _ rfl H locs ls hR hS hL h1 h2)
  case if_acmp cnd off =>
    replace h := am_2r_s h
    obtain ⟨a, b, st', rfl, h⟩ := h
    simp [am_ln] at hln; subst hln
    refine am_acmp X hd hk ?_ (fun q => ?_) (fun q => ?_)
    · split at h
      · exact Or.inl (by assumption)
      · exact Or.inr (am_if_s h).1
    · rw [if_pos q] at h; cases h; exact hgo _ _ _ _ rfl
    · rw [if_neg q] at h; obtain ⟨-, h⟩ := am_if_s h; cases h; exact hgo _ _ _ _ rfl
  case goto off =>
    cases h; simp [am_ln] at hln; subst hln
    intro H locs ls hR hS hL h1 h2
    exact lv_goto hx hb hd (am_tgt hk) (hgo _ _ _ _ rfl H locs ls hR hS hL h1 h2)
  case tableswitch df lw hi offs =>
    replace h := am_1i_s h
    obtain ⟨v, st', rfl, h⟩ := h
    obtain ⟨⟨k, rfl, hk2, hk3⟩, hk4, hk5⟩ := hk
    rw [Int.toNat_natCast] at h
    intro H locs ls hR hS hL h1 h2
    rcases am_sw_ok k h with ⟨j, o, e1, e2, e3⟩ | ⟨e1, e2⟩
    · cases e3
      have hj : j < offs.toList.length := (List.getElem?_eq_some_iff.mp e1).1
      have ev : v.toInt = ((k + j : Nat) : Int) := by rw [e2]; exact nI_toInt (by omega)
      refine lv_tableIn hx hb hd (by omega) (by omega) (off := o) ?_ (am_tgt (hk5 o (List.mem_of_getElem? e1))) (hgo _ _ _ _ rfl H locs ls hR hS hL h1 h2)
      have : (v.toInt - (k : Int)).toNat = j := by omega
      rw [this, ← Array.getElem?_toList]; exact e1
    · cases e2
      refine lv_tableOut hx hb hd ?_ (am_tgt hk4) (hgo _ _ _ _ rfl H locs ls hR hS hL h1 h2)
      rcases Int.lt_or_le v.toInt (k : Int) with q | q
      · exact Or.inl q
      · right
        rcases Int.lt_or_le hi v.toInt with q2 | q2
        · exact q2
        · exfalso
          have hj : (v.toInt - (k : Int)).toNat < offs.toList.length := by omega
          refine e1 _ hj (Int32.toInt_inj.mp ?_)
          rw [nI_toInt (by omega)]
          omega
  case getfield idx =>
    replace h := am_1r_s h
    obtain ⟨r, st', rfl, h⟩ := h
    simp [am_ln] at hln; subst hln
    have h' : ∃ a fs v, r = some a ∧ g.1[a]? = some (.inl (x.1, fs)) ∧ fs[x.2.1]? = some v ∧ w = .inr (pc + 3, lo, v :: st', g) := by
      split at h
      · replace h := am_bd h
        obtain ⟨v, hv, h⟩ := h
        obtain ⟨a, fs, q1, q2, q3⟩ := am_gi_s hv
        exact ⟨a, fs, _, q1, q2, q3, (Option.some.inj h).symm⟩
      · replace h := am_bd h
        obtain ⟨v, hv, h⟩ := h
        obtain ⟨a, fs, q1, q2, q3⟩ := am_gr_s hv
        exact ⟨a, fs, _, q1, q2, q3, (Option.some.inj h).symm⟩
    obtain ⟨a, fs, v, rfl, q2, q3, rfl⟩ := h'
    rcases hk with ⟨e, hk⟩ | ⟨Cn, T, N, ref, hc, hN, hl, hs⟩
    · rw [e] at q2
      intro H locs ls hR hS hL h1 h2
      have ha : a < am_K := by
        rcases Nat.lt_or_ge a am_K with z | z
        · exact z
        · obtain ⟨-, r, hr, -⟩ := hR.obj z q2
          exact absurd (am_vw hr) (by decide)
      exact am_getS X hd ha q2 q3 hk (hgo _ _ _ _ rfl) H locs ls hR hS hL h1 h2
    · intro H locs ls hR hS hL h1 h2
      exact am_getf X hd (hR.isNew hKK q2 (am_vw hc)) q2 q3 hc hN (hCls _ _ _ _ hc).1 hl hs (hgo _ _ _ _ rfl) H locs ls hR hS hL h1 h2
  case putfield idx =>
    simp [am_ln] at hln; subst hln
    obtain ⟨Cn, T, N, ref, ty, hc, hN, hl, hs, hfin, hds, hty⟩ := hk
    obtain ⟨hin, -, -, -, hnm, ty0, hty0, -⟩ := hCls _ _ _ _ hc
    have h' : ∃ r v st' s', st = v :: am_r r :: st' ∧ am_put g r x.1 x.2.1 v = some s' ∧ w = .inr (pc + 3, lo, st', s') ∧ (narrow ty (am_cv B ov v) = am_cv B ov v ∧ fits ty (am_cv B ov v) = true) := by
      rcases hty with ⟨e, rfl⟩ | ⟨e, e2⟩ | ⟨e, rfl⟩
      · rw [if_pos e] at h
        replace h := am_ri_s h
        obtain ⟨r, v, st', rfl, h⟩ := h
        replace h := am_bd h
        obtain ⟨s', h1, h2⟩ := h
        exact ⟨r, _, st', s', rfl, h1, (Option.some.inj h2).symm, am_fit (Or.inl ⟨rfl, v, rfl⟩)⟩
      · rw [if_neg (by omega), if_pos e] at h
        replace h := am_2r_s h
        obtain ⟨r, v, st', rfl, h⟩ := h
        replace h := am_bd h
        obtain ⟨s', h1, h2⟩ := h
        exact ⟨r, _, st', s', rfl, h1, (Option.some.inj h2).symm, am_fit (Or.inr (Or.inr ⟨e2, v, rfl⟩))⟩
      · rw [if_neg (by omega), if_neg (by omega)] at h
        replace h := am_ri_s h
        obtain ⟨r, v, st', rfl, h⟩ := h
        replace h := am_if_s h
        obtain ⟨hv, h⟩ := h
        replace h := am_bd h
        obtain ⟨s', h1, h2⟩ := h
        exact ⟨r, _, st', s', rfl, h1, (Option.some.inj h2).symm, am_fit (Or.inr (Or.inl ⟨rfl, v, rfl, hv⟩))⟩
    obtain ⟨r, v, st', s', rfl, hp, rfl, hft⟩ := h'
    obtain ⟨a, fs, rfl, ha, hg, hlt, rfl⟩ := am_put_s hp
    exact am_putf X hd ha hg hlt hc hN hin hty0 hnm hl hs hfin hds hft (hgo _ _ _ _ rfl)
  case getstatic idx =>
    simp [am_ln] at hln; subst hln
    obtain ⟨Cn, n, dd, hl, hv⟩ := hk
    have h' : w = .inr (pc + 3, lo, am_gsv x :: st, g) := by
      unfold am_gsv
      split at h <;> (rename_i e; simp only [e, if_true, if_false]; exact (Option.some.inj h).symm)
    subst h'
    exact am_gets X hd hl hv (hgo _ _ _ _ rfl)
  case iaload =>
    replace h := am_ri_s h
    obtain ⟨r, v, st', rfl, h⟩ := h
    simp [am_ln] at hln; subst hln
    replace h := am_bd h
    obtain ⟨u, hu, h⟩ := h
    obtain ⟨a, n, f, rfl, hg, hin, rfl⟩ := am_ial_s hu
    cases h
    exact am_iald X (Or.inl ⟨rfl, hd⟩) hg hin (hgo _ _ _ _ rfl)
  case baload =>
    replace h := am_ri_s h
    obtain ⟨r, v, st', rfl, h⟩ := h
    simp [am_ln] at hln; subst hln
    replace h := am_bd h
    obtain ⟨u, hu, h⟩ := h
    obtain ⟨a, n, f, rfl, hg, hin, rfl⟩ := am_ial_s hu
    cases h
    exact am_iald X (Or.inr ⟨hk, hd⟩) hg hin (hgo _ _ _ _ rfl)
  case aaload =>
    replace h := am_ri_s h
    obtain ⟨r, v, st', rfl, h⟩ := h
    simp [am_ln] at hln; subst hln
    replace h := am_bd h
    obtain ⟨u, hu, h⟩ := h
    obtain ⟨a, t, n, f, rfl, hg, hin, rfl⟩ := am_ral_s hu
    cases h
    exact am_aald X hd hg hin (hgo _ _ _ _ rfl)
  case iastore =>
    replace h := am_rii_s h
    obtain ⟨r, u, v, st', rfl, h⟩ := h
    simp [am_ln] at hln; subst hln
    replace h := am_bd h
    obtain ⟨s', hu, h⟩ := h
    obtain ⟨a, n, f, rfl, ha, hg, hin, rfl⟩ := am_ias_s hu
    cases h
    exact am_iast X (Or.inl ⟨rfl, hd⟩) ha hg hin (hgo _ _ _ _ rfl)
  case bastore =>
    replace h := am_rii_s h
    obtain ⟨r, u, v, st', rfl, h⟩ := h
    simp [am_ln] at hln; subst hln
    replace h := am_bd h
    obtain ⟨s', hu, h⟩ := h
    obtain ⟨a, n, f, rfl, ha, hg, hin, rfl⟩ := am_ias_s hu
    cases h
    exact am_iast X (Or.inr ⟨hk, hd⟩) ha hg hin (hgo _ _ _ _ rfl)
  case aastore =>
    replace h := am_rir_s h
    obtain ⟨r, u, v, st', rfl, h⟩ := h
    simp [am_ln] at hln; subst hln
    replace h := am_bd h
    obtain ⟨s', hu, h⟩ := h
    obtain ⟨a, t, n, f, rfl, ha, hg, hin, has, rfl⟩ := am_ras_s hu
    cases h
    exact am_aast X hd ha hg hin has (hgo _ _ _ _ rfl)
  case arraylength =>
    replace h := am_1r_s h
    obtain ⟨r, st', rfl, h⟩ := h
    simp [am_ln] at hln; subst hln
    replace h := am_bd h
    obtain ⟨n, hn, h⟩ := h
    obtain ⟨a, rfl, hg⟩ := am_len_s hn
    cases h
    exact am_alen X hd hg (hgo _ _ _ _ rfl)
  case new idx =>
    cases h; simp [am_ln] at hln; subst hln
    obtain ⟨⟨Cn, T, N⟩, hc, hl⟩ := hk
    obtain ⟨hin, hinst, hini, hlen, hnm, ty0, hty0, hdf⟩ := hCls _ _ _ _ hc
    have hrm := hroom _ _ _ _ rfl
    intro H locs ls hR hS hL h1 h2
    simp only [am_new, List.length_append, List.length_cons, List.length_nil] at hrm
    refine am_newo X hd hc hin hty0 hl hinst hini (fs := D x.1) (hdf B ov) hlen (by omega) (by omega) ?_ H locs ls hR hS hL h1 h2
    rw [← hlen]
    exact hgo _ _ _ _ rfl
  case newarray atype =>
    replace h := am_1i_s h
    obtain ⟨n, st', rfl, h⟩ := h
    replace h := am_if_s h
    obtain ⟨⟨hn1, hn2⟩, h⟩ := h
    cases h; simp [am_ln] at hln; subst hln
    obtain ⟨ht, hat, har⟩ := hk
    have hrm := hroom _ _ _ _ rfl
    intro H locs ls hR hS hL h1 h2
    simp only [am_new, List.length_append, List.length_cons, List.length_nil] at hrm
    exact am_newi X hd ht hat har hn1 hn2 (by omega) (by omega) (hgo _ _ _ _ rfl) H locs ls hR hS hL h1 h2
  case anewarray idx =>
    replace h := am_1i_s h
    obtain ⟨n, st', rfl, h⟩ := h
    replace h := am_if_s h
    obtain ⟨⟨hn1, hn2⟩, h⟩ := h
    cases h; simp [am_ln] at hln; subst hln
    obtain ⟨ht, hl⟩ := hk
    have hrm := hroom _ _ _ _ rfl
    intro H locs ls hR hS hL h1 h2
    simp only [am_new, List.length_append, List.length_cons, List.length_nil] at hrm
    exact am_newr X hd ht hl hn1 hn2 (by omega) (by omega) (hgo _ _ _ _ rfl) H locs ls hR hS hL h1 h2
  case checkcast idx =>
    replace h := am_1r_s h
    obtain ⟨r, st', rfl, h⟩ := h
    simp [am_ln] at hln; subst hln
    replace h := am_if_s h
    obtain ⟨hi, h⟩ := h
    cases h
    cases r with
    | none => exact am_castN X hd (hgo _ _ _ _ rfl)
    | some a =>
      have hi : am_isC g.1 (some a) x.1 = true := hi
      rcases am_isC_s hi with ⟨e, ha, n, f, hg⟩ | hi
      · rcases hk with ⟨-, hk⟩ | ⟨r, hc, -⟩
        · exact am_casta X hd ha hg hk (hgo _ _ _ _ rfl)
        · have := am_vw hc; omega
      · obtain ⟨fs, hg⟩ := am_is_s hi.2
        rcases hk with ⟨e, hk⟩ | ⟨r, hc, hk⟩
        · exact absurd e hi.1
        · exact am_casto X hd hg hc hk (hgo _ _ _ _ rfl)
  case invokestatic idx =>
    simp [am_ln] at hln; subst hln
    rcases hk with ⟨e, y, bytes, maxL, rt, hm, hF, hst, hl⟩ | ⟨e, w1, w2, w3, w4⟩ | ⟨e, w1, w2, w3, w4⟩ | ⟨e, w1, w2, w3, w4⟩ | ⟨e, w1, w2, w3, w4⟩
    · simp only [am_cal, e] at h
      replace h := am_pop_s h
      obtain ⟨as, rest, rfl, hn, hsum, h⟩ := h
      replace h := am_ans_s h
      obtain ⟨r, hr, h⟩ := h
      cases h
      have hrm := hroom _ _ _ _ rfl
      exact am_calS X (hC _ _ _ _ _ _ _ _ hr hm) hF (hup _ _ _ _ hr) hst hl hn hsum hfr hlo hrm.1 hrm.2 hd (hgo _ _ _ _ rfl)
    · simp only [am_cal, e] at h
      replace h := am_cpyS_s h
      obtain ⟨r, i, u, j, n, st', rfl, h⟩ := h
      replace h := am_if_s h
      obtain ⟨hsum, h⟩ := h
      replace h := am_bd h
      obtain ⟨s', hs, h⟩ := h
      obtain ⟨a, b, rfl, rfl, ha, hb1, -, q1, q2, q3, ⟨N0, f, N1, f', g1, g2, q4, q5, rfl⟩ | ⟨N0, f, N1, f', g1, g2, q4, q5, q6, rfl⟩⟩ := am_cpy_s hs
      · cases h
        exact am_copyr X hd w1 w2 w3 w4 ha hb1 q1 q2 q3 g1 g2 q4 q5 hsum hf1 (by omega) (hgo _ _ _ _ rfl)
      · cases h
        exact am_copyo X hd w1 w2 w3 w4 ha hb1 q1 q2 q3 g1 g2 q4 q5 q6 hsum hf1 (by omega) (hgo _ _ _ _ rfl)
    · simp only [am_cal, e] at h
      replace h := am_2i_s h
      obtain ⟨u, v, st', rfl, h⟩ := h
      replace h := am_if_s h
      obtain ⟨hsum, h⟩ := h
      cases h
      have hrm := hroom _ _ _ _ rfl
      intro H locs ls hR hS hL h1 h2
      exact va_mmax hx hb (hml.trans hL.1.symm) hown (hts _ w1) (hts _ w2) (hts _ w3) (hts _ w4) hf1 (by rw [am_cv_sum]; omega) hrm.1 hrm.2 hd (hgo _ _ _ _ rfl H locs ls hR hS hL h1 h2)
    · simp only [am_cal, e] at h
      replace h := am_2i_s h
      obtain ⟨u, v, st', rfl, h⟩ := h
      replace h := am_if_s h
      obtain ⟨hsum, h⟩ := h
      cases h
      have hrm := hroom _ _ _ _ rfl
      intro H locs ls hR hS hL h1 h2
      exact va_mmin hx hb (hml.trans hL.1.symm) hown (hts _ w1) (hts _ w2) (hts _ w3) (hts _ w4) hf1 (by rw [am_cv_sum]; omega) hrm.1 hrm.2 hd (hgo _ _ _ _ rfl H locs ls hR hS hL h1 h2)
    · simp only [am_cal, e] at h
      replace h := am_1i_s h
      obtain ⟨u, st', rfl, h⟩ := h
      replace h := am_if_s h
      obtain ⟨hsum, h⟩ := h
      cases h
      have hrm := hroom _ _ _ _ rfl
      intro H locs ls hR hS hL h1 h2
      exact va_mabs hx hb (hml.trans hL.1.symm) hown (hts _ w1) (hts _ w2) (hts _ w3) (hts _ w4) hf1 (by rw [am_cv_sum]; omega) hrm.1 hrm.2 hd (hgo _ _ _ _ rfl H locs ls hR hS hL h1 h2)
  case invokevirtual idx =>
    simp [am_ln] at hln; subst hln
    rcases hk with ⟨e, y, bytes, maxL, rt, n, hm, en, hF, hin, hsel, hl, hCc⟩ | ⟨e, w1, w2, w3, w4⟩ | ⟨e, w1, w2, w3, w4, w5⟩
    · simp only [am_cal, e] at h
      replace h := am_pop_s h
      obtain ⟨as, rest, rfl, hn, hsum, h⟩ := h
      replace h := am_rcv_s h
      obtain ⟨a, as', rfl, hi, h⟩ := h
      replace h := am_ans_s h
      obtain ⟨r, hr, h⟩ := h
      cases h
      have hrm := hroom _ _ _ _ rfl
      obtain ⟨fs, hg⟩ := am_is_s hi
      exact am_calV X (hC _ _ _ _ _ _ _ _ hr hm) hF (hup _ _ _ _ hr) hin hsel hl hg hCc (by simp at hn; omega) hsum hfr hlo hrm.1 hrm.2 hd (hgo _ _ _ _ rfl)
    · simp only [am_cal, e] at h
      replace h := am_1r_s h
      obtain ⟨r, st', rfl, h⟩ := h
      replace h := am_if_s h
      obtain ⟨hsum, h⟩ := h
      replace h := am_if_s h
      obtain ⟨hi, h⟩ := h
      obtain ⟨a, n, f, rfl, ha, hg⟩ := am_isO_s hi
      cases h
      exact am_getc X hd ha hg w1 w2 w3 w4 hsum hf1 hl1 (hgo _ _ _ _ rfl)
    · simp only [am_cal, e] at h
      replace h := am_1r_s h
      obtain ⟨r, st', rfl, h⟩ := h
      replace h := am_if_s h
      obtain ⟨hsum, h⟩ := h
      replace h := am_bd h
      obtain ⟨s', hs, h⟩ := h
      obtain ⟨a, n, f, rfl, ha, hg, hn, rfl⟩ := am_cln_s hs
      cases h
      have hrm := hroom _ _ _ _ rfl
      intro H locs ls hR hS hL h1 h2
      simp only [List.length_append, List.length_cons, List.length_nil] at hrm
      exact am_cloner X hd ha hg w1 w2 w3 w4 w5 hsum hf1 (by omega) (by omega) (by omega) (hgo _ _ _ _ rfl) H locs ls hR hS hL h1 h2
  case invokespecial idx =>
    simp [am_ln] at hln; subst hln
    rcases hk with ⟨e, y, bytes, maxL, n, hm, en, hF, hin, hnm, hl, hCc⟩ | ⟨e, e2, w1, w2, w3⟩
    · simp only [am_cal, e] at h
      replace h := am_pop_s h
      obtain ⟨as, rest, rfl, hn, hsum, h⟩ := h
      replace h := am_rcv_s h
      obtain ⟨a, as', rfl, hi, h⟩ := h
      replace h := am_ans_s h
      obtain ⟨r, hr, h⟩ := h
      cases h
      have hrm := hroom _ _ _ _ rfl
      obtain ⟨fs, hg⟩ := am_is_s hi
      exact am_calI X (hC _ _ _ _ _ _ _ _ hr hm) hF (hup _ _ _ _ hr) hin hnm hl hg hCc (by simp at hn; omega) hsum hfr hlo hrm.1 hrm.2 hd (hgo _ _ _ _ rfl)
    · simp only [am_cal, e] at h
      replace h := am_1r_s h
      obtain ⟨r, st', rfl, h⟩ := h
      replace h := am_if_s h
      obtain ⟨hsum, h⟩ := h
      replace h := am_if_s h
      obtain ⟨hi, h⟩ := h
      cases r with
      | none => cases hi
      | some a =>
        obtain ⟨fs, hg⟩ := am_is_s hi
        cases h
        exact am_obji X hd hg e2 w1 w2 w3 hsum hf1 hl1 (hgo _ _ _ _ rfl)
  case ireturn =>
    replace h := am_1i_s h
    obtain ⟨v, st', rfl, h⟩ := h
    replace h := am_nil_s h
    obtain ⟨rfl, h⟩ := h
    have h' : am_nar x.1 v = v ∧ w = .inl (some (am_i v), g) := by
      split at h
      · rename_i e
        exact ⟨by rw [e]; rfl, (Option.some.inj h).symm⟩
      · obtain ⟨h1, h2⟩ := am_if_s h
        exact ⟨h1, (Option.some.inj h2).symm⟩
    obtain ⟨hv, rfl⟩ := h'
    simp [am_ln] at hln; subst hln
    exact hret _ rfl pc .ireturn x lo _ (Or.inl ⟨rfl, v, rfl, rfl, hv⟩) hd (by simpa only [am_cki] using hk)
  case lreturn =>
    replace h := am_1l_s h
    obtain ⟨v, st', rfl, h⟩ := h
    replace h := am_nil_s h
    obtain ⟨rfl, h⟩ := h
    cases h; simp [am_ln] at hln; subst hln
    exact hret _ rfl pc .lreturn x lo _ (Or.inr (Or.inl ⟨rfl, v, rfl, rfl⟩)) hd (by simpa only [am_cki] using hk)
  case areturn =>
    replace h := am_1r_s h
    obtain ⟨v, st', rfl, h⟩ := h
    replace h := am_nil_s h
    obtain ⟨rfl, h⟩ := h
    cases h; simp [am_ln] at hln; subst hln
    exact hret _ rfl pc .areturn x lo _ (Or.inr (Or.inr (Or.inl ⟨rfl, v, rfl, rfl⟩))) hd (by simpa only [am_cki] using hk)
  case return_ =>
    replace h := am_nil_s h
    obtain ⟨rfl, h⟩ := h
    cases h; simp [am_ln] at hln; subst hln
    exact hret _ rfl pc .return_ x lo _ (Or.inr (Or.inr (Or.inr ⟨rfl, rfl, rfl⟩))) hd (by simpa only [am_cki] using hk)
end St_
