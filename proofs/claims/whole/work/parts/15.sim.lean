/-! Whole methods: the small machine's answers by depth, and each answer as a contract of the method itself. -/
noncomputable def am_den (D : Nat → List am_V) (pg : Nat → Option ((Nat → Option am_E) × Nat)) : Nat → am_Cl
  | 0 => fun _ _ _ => none
  | d + 1 => fun m as s => match pg m with
    | none => none
    | some q => if (am_lo as).length ≤ q.2 then am_run D (am_den D pg d) q.1 0 (am_ent as q.2) [] s else none
theorem am_den_up {D : Nat → List am_V} {pg : Nat → Option ((Nat → Option am_E) × Nat)} {d : Nat} : ∀ m as s r, am_den D pg d m as s = some r → am_up s r.2 := by
  induction d with
  | zero => intro m as s r h; cases h
  | succ d ih =>
    intro m as s r h
    unfold am_den at h
    split at h
    · cases h
    · obtain ⟨-, h⟩ := am_if_s h
      exact am_rn_J _ ih h
/-- what is checked of a method's table -/
def am_Ckt (mi : am_MI) (y : MethodName) (bytes : ByteArray) (ret : Option FieldType) (P : Nat → Option am_E) : Prop :=
  ∀ pc e, P pc = some e → decode bytes pc = .ok (e.2.1, e.2.2.1) ∧ ((∃ d lw hi offs, e.2.1 = .tableswitch d lw hi offs) ∨ e.2.2.1 = am_ln e.2.1) ∧ am_cki mi y.cls (y.name = "<init>") ret pc e.2.1 e.2.2.2
def am_Ckm (mi : am_MI) (pg : Nat → Option ((Nat → Option am_E) × Nat)) : Prop :=
  ∀ m q y bytes maxL ret, pg m = some q → mi m = some (y, bytes, maxL, ret) → maxL = q.2 ∧ plainName y.cls = true ∧ am_Ckt mi y bytes ret q.1
theorem am_cki_nit {mi : am_MI} {own : String} {p q : Prop} (h : p → q) {ret : Option FieldType} {pc : Nat} {i : Instr} {x : am_X} (hk : am_cki mi own p ret pc i x) : am_cki mi own q ret pc i x := by
  cases i <;> first
    | exact hk
    | (obtain ⟨C, T, N, ref, ty, h1, h2, h3, h4, h5, h6⟩ := hk
       exact ⟨C, T, N, ref, ty, h1, h2, h3, h4, h5.imp id (fun z => ⟨z.1, h z.2.1, z.2.2⟩), h6⟩)
section Sim_
variable {p : Program} {l : Launch} {e : Env} {R : Room} {s : State} {m : MethodId} {args : Array Value} {below : List Frame} {meth : Method} {c : Code} {B : Nat} {ov : Nat → Option Nat} {G : va_G} {cI cR : Nat → ClassId} {O : List am_Ce} {n0 k0 : Nat} {Q : State → Prop} {nL : Nat} {cc : ByteArray} {own : String} {pc : Nat} {lo : am_L} {st : List am_V} {g : am_S}
theorem am_lo_sl (as : List am_V) : ∀ i : Nat, (am_lo as).length = (lg_sl (as.map (am_cv B ov))).length ∧ ∀ v, (am_lo as)[i]? = some (some v) → (lg_sl (as.map (am_cv B ov)))[i]? = some (Slot.val (am_cv B ov v)) := by
  induction as with
  | nil => intro i; exact ⟨rfl, fun v h => by simp [am_lo] at h⟩
  | cons a as ih =>
    intro i
    have e1 : ∀ w : am_V, am_cat w = 1 → lg_sl ((w :: as).map (am_cv B ov)) = Slot.val (am_cv B ov w) :: lg_sl (as.map (am_cv B ov)) := by
      intro w hw
      have : ¬ (am_cv B ov w).category = 2 := by rw [am_cv_cat, hw]; decide
      simp [lg_sl, this]
    have e2 : ∀ y : Int64, lg_sl ((am_l y :: as).map (am_cv B ov)) = Slot.val (.long y) :: Slot.second :: lg_sl (as.map (am_cv B ov)) := by
      intro y
      simp [lg_sl, am_cv, Value.category]
    rcases a with x | y | r
    · rw [e1 (.inl x) rfl]
      refine ⟨by simp only [am_lo, List.length_cons, (ih 0).1], fun v h => ?_⟩
      cases i with
      | zero => simp [am_lo] at h; subst h; rfl
      | succ i => simp only [am_lo, List.getElem?_cons_succ] at h ⊢; exact (ih i).2 v h
    · rw [e2 y]
      refine ⟨by simp only [am_lo, List.length_cons, (ih 0).1], fun v h => ?_⟩
      cases i with
      | zero => simp [am_lo] at h; subst h; rfl
      | succ i =>
        cases i with
        | zero => simp [am_lo] at h
        | succ i => simp only [am_lo, List.getElem?_cons_succ] at h ⊢; exact (ih i).2 v h
    · rw [e1 (.inr (.inr r)) rfl]
      refine ⟨by simp only [am_lo, List.length_cons, (ih 0).1], fun v h => ?_⟩
      cases i with
      | zero => simp [am_lo] at h; subst h; rfl
      | succ i => simp only [am_lo, List.getElem?_cons_succ] at h ⊢; exact (ih i).2 v h
theorem am_LR_ent {as : List am_V} {n : Nat} (h : (am_lo as).length ≤ n) : am_LR B ov ((lg_sl (as.map (am_cv B ov)) ++ List.replicate (n - (lg_sl (as.map (am_cv B ov))).length) Slot.unset).toArray) n (am_ent as n) := by
  have hl : (lg_sl (as.map (am_cv B ov))).length ≤ n := by rw [← (am_lo_sl as 0).1]; exact h
  have hh := lv_entry (as.map (am_cv B ov)) hl
  refine ⟨hh.1, ?_, hh.2.1, fun i v hv => ?_⟩
  · unfold am_ent
    rw [List.length_append, List.length_replicate]
    omega
  · unfold am_ent at hv
    rcases Nat.lt_or_ge i (am_lo as).length with q | q
    · rw [List.getElem?_append_left q] at hv
      have h2 := (am_lo_sl (B := B) (ov := ov) as i).2 v hv
      rw [List.getElem?_toArray, List.getElem?_append_left (by rw [← (am_lo_sl as 0).1]; exact q)]
      exact h2
    · rw [List.getElem?_append_right q, List.getElem?_replicate] at hv
      split at hv <;> cases hv
/-- a run of the small machine is one of the machine's -/
theorem am_ex_ok {mi : am_MI} {rtt : Option FieldType} {D : Nat → List am_V} {C : am_Cl} {d : Nat} {P : Nat → Option am_E} {r : am_R} (X : am_Cx p s m args c cc nL own B ov G cI cR O) (hCls : am_Cls D) (hup : ∀ m as s r, C m as s = some r → am_up s r.2)
    (hC : ∀ m as s r y bytes maxL rt, C m as s = some r → mi m = some (y, bytes, maxL, rt) → am_Mt l B ov G cI cR O d y bytes maxL rt as s r)
    (hfr : d + 1 ≤ R.frames) (hlo : 100 * (d + 1) ≤ R.locals) (hP : ∀ pc e, P pc = some e → decode cc pc = .ok (e.2.1, e.2.2.1) ∧ ((∃ d lw hi offs, e.2.1 = .tableswitch d lw hi offs) ∨ e.2.2.1 = am_ln e.2.1) ∧ am_cki mi own (meth.name = "<init>") rtt pc e.2.1 e.2.2.2)
    (hret : ∀ pc i x lo st, am_isr i x st r.1 → decode cc pc = .ok (i, 1) → am_cki mi own (meth.name = "<init>") rtt pc i x → am_Ok p l e R s m args below meth c B ov G cI cR O n0 k0 Q nL (pc) (lo) (st) (r.2))
    (hroom : r.2.1.length - n0 ≤ R.cells ∧ r.2.2 - k0 ≤ R.slots) : ∀ (n : Nat) (pc : Nat) (lo : am_L) (st : List am_V) (g : am_S), am_ex D C P n (pc, lo, st, g) = some r → am_Ok p l e R s m args below meth c B ov G cI cR O n0 k0 Q nL (pc) (lo) (st) (g) := by
  intro n
  induction n with
  | zero => intro pc lo st g h; cases h
  | succ n ih =>
    intro pc lo st g h
    unfold am_ex at h
    replace h := am_bd h
    obtain ⟨w, hw, h⟩ := h
    unfold am_nx am_sx at hw
    simp only at hw
    split at hw
    · cases hw
    · rename_i en hen
      obtain ⟨h1, h2, h3⟩ := hP pc en hen
      have hk : am_Ok p l e R s m args below meth c B ov G cI cR O n0 k0 Q nL (pc) (am_kill en.1 lo) (st) (g) := by
        refine am_st_ok X hCls hup hC hfr hlo h1 h2 h3 hw (fun pc' lo' st' g' e => ?_) (fun r' e => ?_) (fun pc' lo' st' g' e => ?_)
        · subst e; exact ih _ _ _ _ h
        · subst e
          have e : r' = r := Option.some.inj h
          subst e
          exact hret
        · subst e
          have hu := am_ex_J P hup h
          exact ⟨by have := hu.1; have := hroom.1; simp only at *; omega, by have := hu.2; have := hroom.2; simp only at *; omega⟩
      intro H locs ls hR hS hL q1 q2
      exact hk H locs ls hR hS (hL.kill en.1) q1 q2
end Sim_
set_option maxHeartbeats 1000000 in
theorem am_met {l : Launch} {B : Nat} {ov : Nat → Option Nat} {G : va_G} {cI cR : Nat → ClassId} {O : List am_Ce} {D : Nat → List am_V} {mi : am_MI} {pg : Nat → Option ((Nat → Option am_E) × Nat)} (hCls : am_Cls D) (hck : am_Ckm mi pg) :
    ∀ (d : Nat) (m : Nat) (as : List am_V) (g : am_S) (r : am_R) (y : MethodName) (bytes : ByteArray) (maxL : Nat) (ret : Option FieldType), am_den D pg d m as g = some r → mi m = some (y, bytes, maxL, ret) → am_Mt l B ov G cI cR O d y bytes maxL ret as g r := by
  intro d
  induction d with
  | zero => intro m as g r y bytes maxL ret h; cases h
  | succ d ih =>
    intro m as g r y bytes maxL ret h hm
    have hup0 := am_den_up _ _ _ _ h
    unfold am_den at h
    split at h
    · cases h
    · rename_i q hq
      obtain ⟨hln, h⟩ := am_if_s h
      obtain ⟨eL, hpl, hckt⟩ := hck _ _ _ _ _ _ hq hm
      obtain ⟨n, hn⟩ := am_rn_to _ _ _ h
      refine Met.ofW (cc := bytes) (maxL := maxL) (ret := ret) hpl rfl ?_
      intro p e s m1 args below meth c s₁ Bd hml hv
      obtain ⟨rfl, hRl, hKK⟩ := hv
      have hnm : meth.name = y.name := (name_of_methodNamed Bd.named Bd.method).1
      have hts0 := atoms_spec (ws := Cond.code y bytes maxL ret :: am_T) Bd.pre
      have X : am_Cx p s m1 (as.map (am_cv B ov)).toArray c bytes maxL y.cls B ov G cI cR O := ⟨Bd.exec, Bd.bytes, hml, findClass_of_methodNamed Bd.named, fun w hw => hts0 w (List.mem_cons_of_mem _ hw), hKK⟩
      have hr := Bd.returns
      have hlocks := Bd.notSynchronized
      rw [lg_entry_eq]
      have hz := am_ex_ok (p := p) (l := l) (e := e) (R := am_rm (d + 1) (r.2.1.length - g.1.length) (r.2.2 - g.2)) (s := s) (m := m1) (args := (as.map (am_cv B ov)).toArray) (below := below) (meth := meth) (c := c) (n0 := g.1.length) (k0 := g.2) (nL := maxL) (cc := bytes) (own := y.cls) (rtt := ret) (P := q.1)
        (Q := MQ below (am_Qc B ov G cI cR O r) (as.map (am_cv B ov)).toArray s (r.2.1.length - g.1.length) (r.2.2 - g.2) (fun q => B ≤ q)) X hCls (am_den_up (d := d)) ih (Nat.le_refl _) (Nat.le_refl _)
        (fun pc en hen => ⟨(hckt pc en hen).1, (hckt pc en hen).2.1, am_cki_nit (fun z => hnm.trans z) (hckt pc en hen).2.2⟩)
        (fun pc i x lo st hisr hd hk => ?_) ⟨Nat.le_refl _, Nat.le_refl _⟩ n 0 (am_ent as q.2) [] g hn s.heap [] _ hRl va_S.rf (by rw [← eL]; exact am_LR_ent (by rw [eL]; exact hln)) (Nat.le_refl _) (Nat.le_refl _)
      · rw [Nat.sub_self, Nat.sub_self] at hz
        exact hz
      · intro H locs ls hR hS hL q1 q2
        have hQ : ∀ v : Option Value, v = r.1.map (am_cv B ov) → ∀ t : State, t.heap = H → s.WarmedH t.vm → am_Qc B ov G cI cR O r (as.map (am_cv B ov)).toArray s (.returned v) t := fun v ev t ht _ => ⟨by rw [ev], by rw [ht]; exact hR, hS.F ht⟩
        rcases hisr with ⟨rfl, v, rfl, er, hv⟩ | ⟨rfl, v, rfl, er⟩ | ⟨rfl, v, rfl, er⟩ | ⟨rfl, rfl, er⟩
        · obtain ⟨ty, h1, h2⟩ := hk
          exact W.zret X.1 X.2.1 (hr.trans h1) (h2 v hv) (hQ _ (by rw [er]; rfl)) hS.2.2 hd
        · exact W.lret X.1 X.2.1 (hr.trans hk) (hQ _ (by rw [er]; rfl)) hS.2.2 hd
        · obtain ⟨ty, h1, h2⟩ := hk
          exact W.aret X.1 X.2.1 (hr.trans h1) h2 (va_rf_or _) (hQ _ (by rw [er]; rfl)) hS.2.2 hd
        · exact W.vret X.1 X.2.1 (hr.trans hk) (hQ _ (by rw [er]; rfl)) hS.2.2 hd
