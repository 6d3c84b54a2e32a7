/-! Calls, and what System.arraycopy and clone do. -/
def am_Pc (B : Nat) (ov : Nat → Option Nat) (G : va_G) (cI cR : Nat → ClassId) (O : List am_Ce) (as : List am_V) (g : am_S) : Array Value → State → Prop := fun v U => v = (as.map (am_cv B ov)).toArray ∧ am_Rl B ov G cI cR O g U.heap ∧ am_KK B ov G cI cR O U U.heap
def am_Qc (B : Nat) (ov : Nat → Option Nat) (G : va_G) (cI cR : Nat → ClassId) (O : List am_Ce) (r : am_R) : Array Value → State → Outcome → State → Prop := fun _ st o t => o = .returned (r.1.map (am_cv B ov)) ∧ am_Rl B ov G cI cR O r.2 t.heap ∧ va_F (fun q => B ≤ q) st t
def am_rm (d mc ms : Nat) : Room := { frames := d, cells := mc, slots := ms, locals := 100 * d }
/-- a method's contract, for one question and its answer: the method itself does as the small machine does -/
def am_Mt (l : Launch) (B : Nat) (ov : Nat → Option Nat) (G : va_G) (cI cR : Nat → ClassId) (O : List am_Ce) (d : Nat) (y : MethodName) (bytes : ByteArray) (maxL : Nat) (ret : Option FieldType) (as : List am_V) (g : am_S) (r : am_R) : Prop :=
  Met l y (Cond.code y bytes maxL ret :: am_T) (am_rm d (r.2.1.length - g.1.length) (r.2.2 - g.2)) (am_Pc B ov G cI cR O as g) (am_Qc B ov G cI cR O r) (r.2.1.length - g.1.length) (r.2.2 - g.2) (fun q => B ≤ q)
/-- what is said of a method that is called -/
def am_Mf (y : MethodName) (bytes : ByteArray) (maxL : Nat) (ret : Option FieldType) (n : Nat) : Prop :=
  Cond.code y bytes maxL ret ∈ am_T ∧ Cond.initialized y.cls ∈ am_T ∧ (y.cls ≠ "java/lang/invoke/MethodHandle" ∧ y.cls ≠ "java/lang/invoke/VarHandle" ∧ (parseMethodDescriptor y.desc).map (fun d => d.parameters.length) = some n) ∧ maxL ≤ 60
section Calls_
variable {p : Program} {l : Launch} {e : Env} {R : Room} {s : State} {m : MethodId} {args : Array Value} {below : List Frame} {meth : Method} {c : Code} {B : Nat} {ov : Nat → Option Nat} {G : va_G} {cI cR : Nat → ClassId} {O : List am_Ce} {n0 k0 : Nat} {Q : State → Prop} {nL : Nat} {cc : ByteArray} {own : String} {pc : Nat} {lo : am_L} {st : List am_V} {g : am_S}
theorem am_blind {as : List am_V} : FrameBlind (am_Pc B ov G cI cR O as g) := fun _ _ _ _ h => ⟨h.1, h.2.1, am_KK.same rfl h.2.2⟩
theorem am_preS (X : am_Cx p s m args c cc nL own B ov G cI cR O) {as : List am_V} {H : Heap} {locs : List Loc} (hR : am_Rl B ov G cI cR O g H) (hS : va_S (fun q => B ≤ q) s.heap H locs) : PreS s H (am_Pc B ov G cI cR O as g) (as.map (am_cv B ov)) :=
  ⟨am_blind, fun U hU hW => ⟨rfl, by rw [hU]; exact hR, am_KK.warm hW (by rw [hU]; exact am_KK.kept X.2.2.2.2.2 hS.2.1)⟩⟩
theorem am_goodC {y : MethodName} {bytes : ByteArray} {maxL : Nat} {ret : Option FieldType} (h : Cond.code y bytes maxL ret ∈ am_T) : GoodIn am_T (Cond.code y bytes maxL ret :: am_T) := by
  intro w hw
  have hm : w ∈ am_T := (List.mem_cons.mp hw).elim (fun e => e ▸ h) id
  exact am_T_good (fun _ z => z) w hm
theorem am_goes {H : Heap} {locs : List Loc} {ls : Array Slot} {st0 : List Value} {r : am_R} {a : Array Value} (hr : va_Run p l e R s m args below meth c H locs (g.1.length - n0) (g.2 - k0) (r.2.1.length - g.1.length) (r.2.2 - g.2) (F0 m pc ls st0) (st.map (am_cv B ov)) (am_Qc B ov G cI cR O r a) (fun q => B ≤ q)) (hu : am_up g r.2)
    (hS : va_S (fun q => B ≤ q) s.heap H locs) (hL : am_LR B ov ls nL lo) (h1 : n0 ≤ g.1.length) (h2 : k0 ≤ g.2) (h : am_Ok p l e R s m args below meth c B ov G cI cR O n0 k0 Q nL (pc + 3) (lo) (am_psh r.1 st) (r.2)) : W p l e R s m args below meth c H locs (g.1.length - n0) (g.2 - k0) Q (F0 m pc ls st0) := by
  intro T hT X
  obtain ⟨v, st₀, t, T', L, h0, X', hL', e1, e2, ⟨hv, hR', hF⟩, go⟩ := hr T hT X
  have hv := Outcome.returned.inj hv
  subst hv
  have f1 := hF.1
  have f2 := hF.2
  rw [h0, ← e1] at f1 f2
  have hz := h T'.heap (locs ++ L) ls (by rw [e1]; exact hR') ⟨Nat.le_trans hS.1 f1, fun q q1 q2 => (f2 q (Nat.lt_of_lt_of_le q1 hS.1) q2).trans (hS.2.1 q q1 q2), fun q hq => by
      rcases List.mem_append.mp hq with h | h
      · exact hS.2.2 q h
      · exact hL' q h⟩ hL (Nat.le_trans h1 hu.1) (Nat.le_trans h2 hu.2)
  have c1 : r.2.1.length - n0 = g.1.length - n0 + (r.2.1.length - g.1.length) := by have := hu.1; omega
  have c2 : r.2.2 - k0 = g.2 - k0 + (r.2.2 - g.2) := by have := hu.2; omega
  rw [c1, c2] at hz
  obtain ⟨t2, a1, b1⟩ := hz T' rfl X'
  refine ⟨t2, go t2 ?_, b1⟩
  have e3 : (am_psh r.1 st).map (am_cv B ov) = (r.1.map (am_cv B ov)).toList ++ st.map (am_cv B ov) := by
    cases r.1 <;> rfl
  rw [e3] at a1
  exact a1
theorem am_rstk {as : List am_V} : (as.reverse ++ st).map (am_cv B ov) = (as.map (am_cv B ov)).reverse ++ st.map (am_cv B ov) := by
  rw [List.map_append, List.map_reverse]
theorem am_calS (X : am_Cx p s m args c cc nL own B ov G cI cR O) {idx d n maxL : Nat} {y : MethodName} {bytes : ByteArray} {ret : Option FieldType} {as : List am_V} {r : am_R} (hM : am_Mt l B ov G cI cR O d y bytes maxL ret as g r) (hF : am_Mf y bytes maxL ret n) (hu : am_up g r.2) (hstat : Cond.static y ∈ am_T) (hl : Cond.methodLink own idx y ∈ am_T ∨ ∃ host, (own, idx, y, host) ∈ am_nst) (hn : as.length = n) (hsum : (st.map am_cat).sum ≤ 8)
    (hfr : d + 1 ≤ R.frames) (hlo : 100 * (d + 1) ≤ R.locals) (hc1 : r.2.1.length - n0 ≤ R.cells) (hs1 : r.2.2 - k0 ≤ R.slots) (hd : decode cc pc = .ok (.invokestatic idx, 3)) (h : am_Ok p l e R s m args below meth c B ov G cI cR O n0 k0 Q nL (pc + 3) (lo) (am_psh r.1 st) (r.2)) : am_Ok p l e R s m args below meth c B ov G cI cR O n0 k0 Q nL (pc) (lo) (as.reverse ++ st) (g) := by
  intro H locs ls hR hS hL h1 h2
  have X0 := X
  obtain ⟨hx, hb, hml, hown, hts, hKK⟩ := X
  obtain ⟨hcode, hini, hdd, hmL⟩ := hF
  have hRm : (am_rm d (r.2.1.length - g.1.length) (r.2.2 - g.2)).frames + 1 ≤ R.frames ∧ 8 + (maxL + 11) + (am_rm d (r.2.1.length - g.1.length) (r.2.2 - g.2)).locals ≤ R.locals := ⟨hfr, by show 8 + (maxL + 11) + 100 * d ≤ _; omega⟩
  have hcells : g.1.length - n0 + (r.2.1.length - g.1.length) ≤ R.cells ∧ g.2 - k0 + (r.2.2 - g.2) ≤ R.slots := ⟨by have := hu.1; omega, by have := hu.2; omega⟩
  have hsz : (F0 m pc ls ((as.reverse ++ st).map (am_cv B ov))).locals.size = nL := hL.1
  have hW : 2 * (F0 m pc ls ((as.reverse ++ st).map (am_cv B ov))).monitorRoom + ((st.map (am_cv B ov)).map fun v => v.category).sum ≤ 8 := lv_room (by rw [am_cv_sum]; exact hsum)
  rcases hl with hl | ⟨host, hl⟩
  · exact am_goes (va_runS (As := as.map (am_cv B ov)) ⟨hx, hb, hml, hown, hts⟩ hM ⟨callB_of n hts (am_goodC hcode) rfl rfl rfl (hts _ hini) (hts _ hl) hdd hRm, hts _ hstat⟩ (am_preS X0 hR hS) rfl (by rw [List.length_map]; exact hn) hsz am_rstk hW hd hcells) hu hS hL h1 h2 h
  · exact am_goes (va_runSN (As := as.map (am_cv B ov)) ⟨hx, hb, hml, hown, hts⟩ hM ⟨va_cnB n hts (am_goodC hcode) rfl rfl rfl (hKK.2.2.1 _ hl) (hts _ hini) hdd hRm, hts _ hstat, trivial⟩ (am_preS X0 hR hS) rfl (by rw [List.length_map]; exact hn) hsz am_rstk hW hd hcells) hu hS hL h1 h2 h
theorem am_rstkV {a : Nat} {as : List am_V} {q : Nat} (hq : am_rr B ov (some a) = some q) : ((am_r (some a) :: as).reverse ++ st).map (am_cv B ov) = (as.map (am_cv B ov)).reverse ++ .ref q :: st.map (am_cv B ov) := by
  rw [List.reverse_cons, List.map_append, List.map_append, List.map_reverse, List.append_assoc]
  congr 1
  show va_rf (am_rr B ov (some a)) :: _ = _
  rw [hq]; rfl
theorem am_argV {a : Nat} {as : List am_V} {q : Nat} (hq : am_rr B ov (some a) = some q) : (am_r (some a) :: as).map (am_cv B ov) = Value.ref q :: as.map (am_cv B ov) := by
  show va_rf (am_rr B ov (some a)) :: _ = _
  rw [hq]; rfl
/-- the object that is asked: where it stands -/
theorem am_Rl.recv {C : String} (hKK : am_KK B ov G cI cR O s s.heap) {H : Heap} {locs : List Loc} (hS : va_S (fun q => B ≤ q) s.heap H locs) (hR : am_Rl B ov G cI cR O g H) {a ci : Nat} {fs : List am_V} (hg : g.1[a]? = some (.inl (ci, fs))) (hC : (∃ T N, vwCl[ci]? = some (C, T, N)) ∨ (ci = 50 ∧ C = "java/lang/String")) :
    ∃ q, am_rr B ov (some a) = some q ∧ ∃ cellB : Cell, H[q]? = some cellB ∧ cellB.vm.isStatics = false ∧ s.vm.findClass C = some cellB.cls := by
  rcases hC with ⟨T, N, hc⟩ | ⟨rfl, rfl⟩
  · have ha := hR.isNew hKK hg (am_vw hc)
    exact ⟨_, am_rr_new ha, va_recv hKK.1 (am_P1 (hR.obj ha hg).1) hc (q0 := 0) rfl⟩
  · have ha : a < am_K := by
      rcases Nat.lt_or_ge a am_K with h | h
      · exact h
      · obtain ⟨-, r, hr, -⟩ := hR.obj h hg
        exact absurd (am_vw hr) (by decide)
    have hoc := hKK.2.2.2.2.2.2.2.2.1 a (.inl (50, fs)) ha (by rw [← hR.2.2.1 a ha]; exact hg)
    dsimp only [am_oc] at hoc
    obtain ⟨q, v0, v1, e1, e2, e3, e4, e5⟩ := hoc rfl
    obtain ⟨cell, c1, c2, c3, -⟩ := e3.kept hS.2.1
    exact ⟨q, by rw [am_rr_old ha, e1], cell, c1, c2, c3⟩
theorem am_calV (X : am_Cx p s m args c cc nL own B ov G cI cR O) {idx d n maxL a ci : Nat} {y : MethodName} {bytes : ByteArray} {ret : Option FieldType} {as fs : List am_V} {r : am_R} (hM : am_Mt l B ov G cI cR O d y bytes maxL ret (am_r (some a) :: as) g r) (hF : am_Mf y bytes maxL ret n) (hu : am_up g r.2) (hin : Cond.instanceMethod y ∈ am_T) (hsel : Cond.selects y.cls y y ∈ am_T) (hl : Cond.methodLink own idx y ∈ am_T) (hg : g.1[a]? = some (.inl (ci, fs))) (hC : (∃ T N, vwCl[ci]? = some (y.cls, T, N)) ∨ (ci = 50 ∧ y.cls = "java/lang/String")) (hn : as.length = n) (hsum : (st.map am_cat).sum ≤ 8)
    (hfr : d + 1 ≤ R.frames) (hlo : 100 * (d + 1) ≤ R.locals) (hc1 : r.2.1.length - n0 ≤ R.cells) (hs1 : r.2.2 - k0 ≤ R.slots) (hd : decode cc pc = .ok (.invokevirtual idx, 3)) (h : am_Ok p l e R s m args below meth c B ov G cI cR O n0 k0 Q nL (pc + 3) (lo) (am_psh r.1 st) (r.2)) : am_Ok p l e R s m args below meth c B ov G cI cR O n0 k0 Q nL (pc) (lo) ((am_r (some a) :: as).reverse ++ st) (g) := by
  intro H locs ls hR hS hL h1 h2
  have X0 := X
  obtain ⟨hx, hb, hml, hown, hts, hKK⟩ := X
  obtain ⟨hcode, hini, hdd, hmL⟩ := hF
  obtain ⟨q, hq, hrecv⟩ := hR.recv hKK hS hg hC
  have hRm : (am_rm d (r.2.1.length - g.1.length) (r.2.2 - g.2)).frames + 1 ≤ R.frames ∧ 8 + (maxL + 11) + (am_rm d (r.2.1.length - g.1.length) (r.2.2 - g.2)).locals ≤ R.locals := ⟨hfr, by show 8 + (maxL + 11) + 100 * d ≤ _; omega⟩
  have hcells : g.1.length - n0 + (r.2.1.length - g.1.length) ≤ R.cells ∧ g.2 - k0 + (r.2.2 - g.2) ≤ R.slots := ⟨by have := hu.1; omega, by have := hu.2; omega⟩
  have hW : 2 * (F0 m pc ls (((am_r (some a) :: as).reverse ++ st).map (am_cv B ov))).monitorRoom + ((st.map (am_cv B ov)).map fun v => v.category).sum ≤ 8 := lv_room (by rw [am_cv_sum]; exact hsum)
  have hp := (am_preS X0 (as := am_r (some a) :: as) hR hS).2
  rw [am_argV hq] at hp
  exact am_goes (va_runV (As := as.map (am_cv B ov)) (b := q) (C := y.cls) ⟨hx, hb, hml, hown, hts⟩ hM ⟨callB_of n hts (am_goodC hcode) rfl rfl rfl (hts _ hini) (hts _ hl) hdd hRm, hts _ hin, hts _ hsel⟩ ⟨am_blind, hrecv, hp⟩ rfl (by rw [List.length_map]; exact hn) hL.1 (am_rstkV hq) hW hd hcells) hu hS hL h1 h2 h
theorem am_calI (X : am_Cx p s m args c cc nL own B ov G cI cR O) {idx d n maxL a ci : Nat} {y : MethodName} {bytes : ByteArray} {as fs : List am_V} {r : am_R} (hM : am_Mt l B ov G cI cR O d y bytes maxL none (am_r (some a) :: as) g r) (hF : am_Mf y bytes maxL none n) (hu : am_up g r.2) (hin : Cond.instanceMethod y ∈ am_T) (hnm : y.name = "<init>") (hl : Cond.methodLink own idx y ∈ am_T ∨ ∃ host, (own, idx, y, host) ∈ am_nst) (hg : g.1[a]? = some (.inl (ci, fs))) (hC : ci < 14) (hn : as.length = n) (hsum : (st.map am_cat).sum ≤ 8)
    (hfr : d + 1 ≤ R.frames) (hlo : 100 * (d + 1) ≤ R.locals) (hc1 : r.2.1.length - n0 ≤ R.cells) (hs1 : r.2.2 - k0 ≤ R.slots) (hd : decode cc pc = .ok (.invokespecial idx, 3)) (h : am_Ok p l e R s m args below meth c B ov G cI cR O n0 k0 Q nL (pc + 3) (lo) (am_psh r.1 st) (r.2)) : am_Ok p l e R s m args below meth c B ov G cI cR O n0 k0 Q nL (pc) (lo) ((am_r (some a) :: as).reverse ++ st) (g) := by
  intro H locs ls hR hS hL h1 h2
  have X0 := X
  obtain ⟨hx, hb, hml, hown, hts, hKK⟩ := X
  obtain ⟨hcode, hini, hdd, hmL⟩ := hF
  have ha := hR.isNew hKK hg hC
  have hq := am_rr_new (B := B) (ov := ov) ha
  have hRm : (am_rm d (r.2.1.length - g.1.length) (r.2.2 - g.2)).frames + 1 ≤ R.frames ∧ 8 + (maxL + 11) + (am_rm d (r.2.1.length - g.1.length) (r.2.2 - g.2)).locals ≤ R.locals := ⟨hfr, by show 8 + (maxL + 11) + 100 * d ≤ _; omega⟩
  have hcells : g.1.length - n0 + (r.2.1.length - g.1.length) ≤ R.cells ∧ g.2 - k0 + (r.2.2 - g.2) ≤ R.slots := ⟨by have := hu.1; omega, by have := hu.2; omega⟩
  have hW : 2 * (F0 m pc ls (((am_r (some a) :: as).reverse ++ st).map (am_cv B ov))).monitorRoom + ((st.map (am_cv B ov)).map fun v => v.category).sum ≤ 8 := lv_room (by rw [am_cv_sum]; exact hsum)
  have hp := am_preS X0 (as := am_r (some a) :: as) hR hS
  rw [am_argV hq] at hp
  rcases hl with hl | ⟨host, hl⟩
  · exact am_goes (va_runI (As := as.map (am_cv B ov)) (b := B + (a - am_K)) ⟨hx, hb, hml, hown, hts⟩ hM (cwI n hts (am_goodC hcode) rfl rfl rfl (hts _ hini) (hts _ hl) (hts _ hin) hnm hdd hRm) hp rfl (by rw [List.length_map]; exact hn) hL.1 (am_rstkV hq) hW hd hcells) hu hS hL h1 h2 h
  · exact am_goes (va_runIN (As := as.map (am_cv B ov)) (b := B + (a - am_K)) ⟨hx, hb, hml, hown, hts⟩ hM ⟨va_cnB n hts (am_goodC hcode) rfl rfl rfl (hKK.2.2.1 _ hl) (hts _ hini) hdd hRm, hnm, hts _ hin⟩ hp rfl (by rw [List.length_map]; exact hn) hL.1 (am_rstkV hq) hW hd hcells) hu hS hL h1 h2 h
/-- arraycopy between two arrays -/
theorem am_wcpy {H : Heap} {locs : List Loc} {cells slots : Nat} {ls : Array Slot} {rest : List Value} {α : Type} (mk : α → Value) (hexec : p.tables.exec = Jvm.exec) (hb : c.code = cc) (hml : c.maxLocals = ls.size) {index : Nat} (hown : s.vm.findClass own = some m.cls) (hlink : (Cond.methodLink own index arraycopyName).before args s = true) (hnat : (Cond.native arraycopyName).before args s = true) (hstat : (Cond.static arraycopyName).before args s = true) (hini : (Cond.initialized "java/lang/System").before args s = true)
    {a0 a : Nat} {cA : ClassId} {N0 N1 : Nat} {f h : Nat → α} {ty : FieldType} (hc0 : H[a0]? = some (arrV cA N0 (fun j => mk (f j)))) (hc1 : H[a]? = some (arrV cA N1 (fun j => mk (h j)))) (hA : ArrOfT s cA ty)
    {sp dp n : Int32} (h1 : ¬ sp < 0) (h2 : ¬ dp < 0) (h3 : ¬ n < 0) (h4 : sp.toNatClampNeg + n.toNatClampNeg ≤ N0) (h5 : dp.toNatClampNeg + n.toNatClampNeg ≤ N1)
    (hvals : ∀ T : State, T.heap = H → ∀ vm', s.vm.Alike vm' → ∀ (k : Class) (comp : ClassId), s.vm.classes[cA]? = some k → k.kind = .array comp ty → ∀ i, i < n.toNatClampNeg → fits ty (mk (f (sp.toNatClampNeg + i))) = true ∧ (T.setVm vm').takes comp (mk (f (sp.toNatClampNeg + i))))
    (hframes : 1 ≤ R.frames) (hlocals : (rest.map fun v => v.category).sum + (nativeFrameWords "java/lang/System" "arraycopy" 5 + 11) ≤ R.locals) (hdg : decode cc pc = .ok (.invokestatic index, 3))
    (kk : ∀ (H1 : Heap) (L : List Loc), H1[a]? = some (arrV cA N1 (fun j => mk (va_cpy f h sp.toNatClampNeg dp.toNatClampNeg n.toNatClampNeg j))) → H1.size = H.size → (∀ q, q ≠ a → H1[q]? = H[q]?) → (∀ q ∈ L, q.base = a) → W p l e R s m args below meth c H1 (locs ++ L) cells slots Q (F0 m (pc + 3) ls rest)) : W p l e R s m args below meth c H locs cells slots Q (F0 m pc ls (.int n :: .int dp :: .ref a :: .int sp :: .ref a0 :: rest)) := by
  have nn : ∀ z : Int32, ¬ z < 0 → z.toInt = (z.toNatClampNeg : Int) := by
    intro z hz
    have hz0 : (0 : Int) ≤ z.toInt := by
      have := Int32.not_lt.mp hz
      simpa using Int32.le_iff_toInt_le.mp this
    show z.toInt = ((z.toInt.toNat : Nat) : Int)
    omega
  intro T hT X
  obtain ⟨-, k0, hk0, cm0, hkk0⟩ := hA N0 (fun j => mk (f j))
  obtain ⟨vm', X', step⟩ := X.arraycopy hexec hown hlink hnat hstat hini (src := a0) (dst := a) (cs := arrV cA N0 (fun j => mk (f j))) (cd := arrV cA N1 (fun j => mk (h j))) (srcPos := sp) (destPos := dp) (n := n) (by rw [hT]; exact hc0) (by rw [hT]; exact hc1)
    (fun _ h => by cases h) (fun _ h => by cases h) (fun h => by cases h) (fun h => by cases h) hk0 hk0 hkk0 hkk0 (by cases refKind ty <;> simp) h1 h2 h3
    (by rw [nn sp h1, nn n h3, arrV_size]; omega) (by rw [nn dp h2, nn n h3, arrV_size]; omega)
    (fun vm₁ hal i hi => by
      have e : (arrV cA N0 (fun j => mk (f j))).slots.getD (sp.toNatClampNeg + i) .null = mk (f (sp.toNatClampNeg + i)) := by
        rw [Array.getD_eq_getD_getElem?, arrV_read _ _ (by omega)]
        rfl
      rw [e]
      exact hvals T hT vm₁ hal k0 cm0 hk0 hkk0 i hi)
    (g := F0 m pc ls (.int n :: .int dp :: .ref a :: .int sp :: .ref a0 :: rest)) rfl (by rw [hml]) (rest := rest) rfl (by rw [hb]; exact hdg) hframes (by show 2 * 0 + _ + _ ≤ _; omega)
  have e1 : copied (arrV cA N0 (fun j => mk (f j))) (arrV cA N1 (fun j => mk (h j))) sp dp n = arrV cA N1 (fun j => mk (va_cpy f h sp.toNatClampNeg dp.toNatClampNeg n.toNatClampNeg j)) := va_copied mk cA cA f h h4
  rw [e1] at X' step
  have hl : a < H.size := (Array.getElem?_eq_some_iff.mp hc1).1
  obtain ⟨t, a1, b1⟩ := kk (H.setIfInBounds a (arrV cA N1 (fun j => mk (va_cpy f h sp.toNatClampNeg dp.toNatClampNeg n.toNatClampNeg j)))) _ (by simp [Array.getElem?_setIfInBounds, hl]) (by simp) (fun q hq => by simp [Array.getElem?_setIfInBounds, Ne.symm hq]) (fun q hq => by
      obtain ⟨z, -, hz⟩ := List.mem_map.mp hq
      rw [← hz]) _ (by rw [← hT]; rfl) X'
  exact ⟨t, step t a1, b1⟩
end Calls_
