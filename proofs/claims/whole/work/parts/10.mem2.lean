/-! More of memory: arrays of references, new cells, casts, constants, what the machine does by itself. -/
section Mem2
variable {p : Program} {l : Launch} {e : Env} {R : Room} {s : State} {m : MethodId} {args : Array Value} {below : List Frame} {meth : Method} {c : Code} {B : Nat} {ov : Nat → Option Nat} {G : va_G} {cI cR : Nat → ClassId} {O : List am_Ce} {n0 k0 : Nat} {Q : State → Prop} {nL : Nat} {cc : ByteArray} {own : String} {pc : Nat} {lo : am_L} {st : List am_V} {g : am_S}
theorem am_vw {ci : Nat} {r : vw_C} (h : vwCl[ci]? = some r) : ci < 14 := (List.getElem?_eq_some_iff.mp h).1
theorem am_Rl.isNew (hKK : am_KK B ov G cI cR O s s.heap) {H : Heap} (hR : am_Rl B ov G cI cR O g H) {a c : Nat} {fs : List am_V} (hg : g.1[a]? = some (.inl (c, fs))) (hc : c < 14) : am_K ≤ a := by
  rcases Nat.lt_or_ge a am_K with h | h
  · have := hKK.2.2.2.2.2.2.2.2.2 a c fs h (by rw [← hR.2.2.1 a h]; exact hg)
    omega
  · exact h
theorem am_cst_in : ∀ c, c < 14 → ∀ r, vwCl[c]? = some r → (r.1, "java/lang/Object") ∈ am_cst := by
  intro c hc r h
  have hm : ∀ q ∈ vwCl, (q.1, "java/lang/Object") ∈ am_cst := by
    intro q hq
    simp only [vwCl, List.mem_cons, List.not_mem_nil, or_false] at hq
    rcases hq with rfl | rfl | rfl | rfl | rfl | rfl | rfl | rfl | rfl | rfl | rfl | rfl | rfl | rfl <;> decide +kernel
  exact hm r (List.mem_of_getElem? h)
theorem am_new_S {H H' : Heap} {locs : List Loc} (hS : va_S (fun q => B ≤ q) s.heap H locs) (z : H'.size = H.size + 1) (oq : ∀ q, q < H.size → H'[q]? = H[q]?) : va_S (fun q => B ≤ q) s.heap H' locs :=
  ⟨Nat.le_trans hS.1 (by omega), fun q h1 h2 => (oq q (Nat.lt_of_lt_of_le h1 hS.1)).trans (hS.2.1 q h1 h2), hS.2.2⟩
/-- a new cell: what goes on behind it -/
theorem am_Ok.al {x : am_Ce} {n : Nat} (h : am_Ok p l e R s m args below meth c B ov G cI cR O n0 k0 Q nL (pc) (lo) (am_r (some g.1.length) :: st) (am_new g x n)) {H H' : Heap} {locs : List Loc} {ls : Array Slot} (hR : am_Rl B ov G cI cR O g H) (hS : va_S (fun q => B ≤ q) s.heap H locs) (hL : am_LR B ov ls nL lo) (h1 : n0 ≤ g.1.length) (h2 : k0 ≤ g.2) (hx : am_at B ov G cI cR H.size x H') (z : H'.size = H.size + 1) (oq : ∀ q, q < H.size → H'[q]? = H[q]?) :
    W p l e R s m args below meth c H' locs (g.1.length - n0 + 1) (g.2 - k0 + n) Q (F0 m pc ls (.ref H.size :: st.map (am_cv B ov))) := by
  have hz := h H' locs ls (hR.new hx z oq) (am_new_S hS z oq) hL (by simp [am_new]; omega) (by simp [am_new]; omega)
  have e1 : (am_new g x n).1.length - n0 = g.1.length - n0 + 1 := by simp [am_new]; omega
  have e2 : (am_new g x n).2 - k0 = g.2 - k0 + n := by simp [am_new]; omega
  rw [e1, e2] at hz
  have e3 : (am_r (some g.1.length) :: st).map (am_cv B ov) = .ref H.size :: st.map (am_cv B ov) := by
    show va_rf (am_rr B ov (some g.1.length)) :: _ = _
    rw [hR.ad]; rfl
  rw [e3] at hz
  exact hz
theorem am_newo (X : am_Cx p s m args c cc nL own B ov G cI cR O) {idx ci N : Nat} {C : String} {T : u_T} {ty : Nat → FieldType} {fs : List am_V} (hd : decode cc pc = .ok (.new idx, 3)) (hc : vwCl[ci]? = some (C, T, N)) (hin : ∀ w ∈ u_ws C T N, w ∈ am_T) (hty : ∀ k, k < N → parseFieldDescriptor (T k).2.2.1 = some (ty k)) (hcl : Cond.classLink own idx C ∈ am_T) (hinst : Cond.instantiable C N ∈ am_T) (hini : Cond.initialized C ∈ am_T)
    (hfs : ∀ j, j < N → defaultValue (ty j) = vp_V (fs.map (am_cv B ov)) j) (hfl : fs.length = N) (hc1 : g.1.length - n0 + 1 ≤ R.cells) (hs1 : g.2 - k0 + N ≤ R.slots) (h : am_Ok p l e R s m args below meth c B ov G cI cR O n0 k0 Q nL (pc + 3) (lo) (am_r (some g.1.length) :: st) (am_new g (.inl (ci, fs)) N)) : am_Ok p l e R s m args below meth c B ov G cI cR O n0 k0 Q nL (pc) (lo) (st) (g) := by
  intro H locs ls hR hS hL h1 h2
  obtain ⟨hx, hb, hml, hown, hts, hKK⟩ := X
  have hKn := hKK.1.1 ci _ hc
  refine W.newcK hx hb hown (hts _ hcl) (hts _ hinst) (hts _ hini) rfl hd hc1 hs1 hKn.2.1 rfl fun H1 kC hkC e1 z1 o1 => ?_
  exact h.al hR hS hL h1 h2 ⟨_, hc, hfl, (u_born ty hts hin hKn hkC e1 hty).to hfs⟩ z1 o1
theorem am_newi (X : am_Cx p s m args c cc nL own B ov G cI cR O) {atype : ArrayType} {t : Nat} {n : Int32} (hd : decode cc pc = .ok (.newarray atype, 2)) (ht : t < 3) (hat : newarray.typeOf atype = am_ty t) (harr : Cond.arrayClass (am_ty t) ∈ am_T) (hn : ¬ n < 0) (hn2 : n.toNatClampNeg ≤ 65536) (hc1 : g.1.length - n0 + 1 ≤ R.cells) (hs1 : g.2 - k0 + n.toNatClampNeg ≤ R.slots)
    (h : am_Ok p l e R s m args below meth c B ov G cI cR O n0 k0 Q nL (pc + 2) (lo) (am_r (some g.1.length) :: st) (am_new g (.inr (.inl (t, n.toNatClampNeg, fun _ => 0))) n.toNatClampNeg)) : am_Ok p l e R s m args below meth c B ov G cI cR O n0 k0 Q nL (pc) (lo) (am_i n :: st) (g) := by
  intro H locs ls hR hS hL h1 h2
  obtain ⟨hx, hb, hml, hown, hts, hKK⟩ := X
  have hRA := (am_tyI hKK.1 ht).2
  refine va_newaK hx hb (by rw [hat]; exact hts _ harr) rfl hd rfl hn rfl (by
      rw [hat]
      have : componentBytes (am_ty t) ≤ 4 := by
        rcases (show t = 0 ∨ t = 1 ∨ t = 2 by omega) with rfl | rfl | rfl <;> decide
      have := Nat.mul_le_mul hn2 this
      omega) hc1 hs1 rfl fun H1 cA e1 z1 o1 hAr hNm => ?_
  have ecA : cA = cI t := by
    rw [hat] at hNm
    rcases (show t = 0 ∨ t = 1 ∨ t = 2 by omega) with rfl | rfl | rfl <;> exact Option.some.inj (hNm.symm.trans hRA)
  subst ecA
  refine h.al hR hS hL h1 h2 ⟨ht, ?_⟩ z1 o1
  rw [e1, hat]
  rcases (show t = 0 ∨ t = 1 ∨ t = 2 by omega) with rfl | rfl | rfl <;> rfl
theorem am_newr (X : am_Cx p s m args c cc nL own B ov G cI cR O) {idx t : Nat} {n : Int32} (hd : decode cc pc = .ok (.anewarray idx, 3)) (ht : t = 0 ∨ t = 5 ∨ t = 9) (hcl : Cond.classLink own idx (am_tr t) ∈ am_T) (hn : ¬ n < 0) (hn2 : n.toNatClampNeg ≤ 65536) (hc1 : g.1.length - n0 + 1 ≤ R.cells) (hs1 : g.2 - k0 + n.toNatClampNeg ≤ R.slots)
    (h : am_Ok p l e R s m args below meth c B ov G cI cR O n0 k0 Q nL (pc + 3) (lo) (am_r (some g.1.length) :: st) (am_new g (.inr (.inr (t, n.toNatClampNeg, fun _ => none))) n.toNatClampNeg)) : am_Ok p l e R s m args below meth c B ov G cI cR O n0 k0 Q nL (pc) (lo) (am_i n :: st) (g) := by
  intro H locs ls hR hS hL h1 h2
  obtain ⟨hx, hb, hml, hown, hts, hKK⟩ := X
  have hRA := (am_tyR hKK.1 ht).2
  have hAO : va_AO (am_tr t) s := by
    rcases ht with rfl | rfl | rfl
    · exact hKK.2.2.2.1.1
    · exact hKK.2.2.2.1.2.1
    · exact hKK.2.2.2.1.2.2
  refine W.anew hx hb hown (hts _ hcl) (va_AO.use hAO) rfl hd rfl hn (by omega) hc1 hs1 fun cA kA comp f1 f2 f3 f4 => ?_
  obtain ⟨kA', comp', r1, r2, r3, r4⟩ := hRA
  have ecA : cA = cR t := Option.some.inj (f1.symm.trans r4)
  subst ecA
  have hz := h.al hR hS hL h1 h2 (H' := H.push { cls := cR t, slots := Array.replicate n.toNatClampNeg .null, vm := .none }) ⟨ht, by rw [Array.getElem?_push_size, arrV_new]; rfl⟩ (by rw [Array.size_push]) (fun q hq => by rw [Array.getElem?_push, if_neg (Nat.ne_of_lt hq)])
  exact hz
theorem am_Rl.any (hKK : am_KK B ov G cI cR O s s.heap) {H : Heap} (hR : am_Rl B ov G cI cR O g H) {t b : Nat} (ht : t = 0 ∨ t = 5 ∨ t = 9) (h : am_asg g.1 t (some b) = true) : am_rr B ov (some b) = some (B + (b - am_K)) ∧ va_Any (am_tr t) s H (B + (b - am_K)) := by
  obtain ⟨h1, c, fs, h2, h3, h4⟩ := am_asg_s h
  obtain ⟨hat, r, hr, -⟩ := hR.obj h1 h2
  refine ⟨am_rr_new h1, va_rAny hKK.1 (am_P1 hat) (q0 := 0) rfl hr (fun comp c0 e1 e2 => ?_)⟩
  rcases h3 with rfl | rfl
  · exact vb_asgC (hKK.2.1 _ (am_cst_in c h4 r hr)) comp c0 e1 e2
  · rcases ht with rfl | rfl | rfl
    · cases hr; exact vb_asgC (hKK.2.1 _ (am_cst_in 0 h4 _ rfl)) comp c0 e1 e2
    · cases hr; exact vb_asgS comp c0 e1 e2
    · cases hr; exact vb_asgS comp c0 e1 e2
theorem am_aast (X : am_Cx p s m args c cc nL own B ov G cI cR O) {a n t : Nat} {f : Nat → Option Nat} {i : Int32} {v : Option Nat} (hd : decode cc pc = .ok (.aastore, 1)) (ha : am_K ≤ a) (hg : g.1[a]? = some (.inr (.inr (t, n, f)))) (hi : vp_in i n) (hv : am_asg g.1 t v = true)
    (h : am_Ok p l e R s m args below meth c B ov G cI cR O n0 k0 Q nL (pc + 1) (lo) (st) ((g.1.set a (.inr (.inr (t, n, va_up f i.toNatClampNeg v))), g.2))) : am_Ok p l e R s m args below meth c B ov G cI cR O n0 k0 Q nL (pc) (lo) (am_r v :: am_i i :: am_r (some a) :: st) (g) := by
  intro H locs ls hR hS hL h1 h2
  obtain ⟨hx, hb, hml, hown, hts, hKK⟩ := X
  obtain ⟨ht, e2⟩ := hR.2.2.2 a _ ha hg
  simp only at ht e2
  show W p l e R s m args below meth c H locs _ _ Q (F0 m pc ls (va_rf (am_rr B ov v) :: .int i :: va_rf (am_rr B ov (some a)) :: st.map (am_cv B ov)))
  rw [am_rr_new ha]
  have fin : ∀ H' : Heap, H'[B + (a - am_K)]? = some ((arrV (cR t) n (fun j => va_rf (am_rr B ov (f j)))).setSlot i.toNatClampNeg (va_rf (am_rr B ov v))) → H'.size = H.size → (∀ q, q ≠ B + (a - am_K) → H'[q]? = H[q]?) → W p l e R s m args below meth c H' (locs ++ [⟨B + (a - am_K), i.toNatClampNeg⟩]) (g.1.length - n0) (g.2 - k0) Q (F0 m (pc + 1) ls (st.map (am_cv B ov))) := by
    intro H' e1 z oq
    have e3 : (arrV (cR t) n (fun j => va_rf (am_rr B ov (f j)))).setSlot i.toNatClampNeg (va_rf (am_rr B ov v)) = arrV (cR t) n (fun j => va_rf (am_rr B ov (va_up f i.toNatClampNeg v j))) := by
      rw [arrV_store]
      congr 1
      funext q
      by_cases hq : q = i.toNatClampNeg
      · simp [updV, va_up, hq]
      · simp [updV, va_up, hq]
    rw [e3] at e1
    have hz := h H' (locs ++ [⟨B + (a - am_K), i.toNatClampNeg⟩]) ls (hR.set ha ⟨ht, e1⟩ z oq) (hS.put z oq (by omega)) hL (by simpa using h1) h2
    simpa using hz
  have hAr := (am_tyR hKK.1 ht).1 n (fun j => va_rf (am_rr B ov (f j)))
  have hin : ¬ (i < 0 ∨ (arrV (cR t) n (fun j => va_rf (am_rr B ov (f j)))).slots.size ≤ i.toNatClampNeg) := by rw [arrV_size]; exact hi
  cases v with
  | none => exact va_WaastN hx hb e2 hAr (fun q => by cases q) hin rfl rfl hd fin
  | some b =>
    obtain ⟨eb, cellV, g1, g3, ⟨kC, hkC⟩, hasg⟩ := hR.any hKK ht hv
    rw [eb] at fin ⊢
    obtain ⟨kA, comp, k1, k2, k3, -⟩ := (am_tyR hKK.1 ht).2
    obtain ⟨kE, hkE, -⟩ := Vm.findClass_spec k3
    exact W.aast hx hb e2 (fun q h => by cases h) (fun h => by cases h) k1 k2 rfl hkE ⟨fun q => hin (Or.inl q), by rw [arrV_size]; exact am_inl hi⟩ g1 (fun q h => by rw [h] at g3; cases g3) hkC (hasg _ k3) rfl rfl hd fin
theorem am_castN (X : am_Cx p s m args c cc nL own B ov G cI cR O) {idx : Nat} (hd : decode cc pc = .ok (.checkcast idx, 3)) (h : am_Ok p l e R s m args below meth c B ov G cI cR O n0 k0 Q nL (pc + 3) (lo) (am_r none :: st) (g)) : am_Ok p l e R s m args below meth c B ov G cI cR O n0 k0 Q nL (pc) (lo) (am_r none :: st) (g) := by
  intro H locs ls hR hS hL h1 h2
  exact lv_castN X.1 X.2.1 hd (h H locs ls hR hS hL h1 h2)
theorem am_casto (X : am_Cx p s m args c cc nL own B ov G cI cR O) {idx a ci : Nat} {fs : List am_V} {r : vw_C} (hd : decode cc pc = .ok (.checkcast idx, 3)) (hg : g.1[a]? = some (.inl (ci, fs))) (hc : vwCl[ci]? = some r) (hcl : Cond.classLink own idx r.1 ∈ am_T) (h : am_Ok p l e R s m args below meth c B ov G cI cR O n0 k0 Q nL (pc + 3) (lo) (am_r (some a) :: st) (g)) : am_Ok p l e R s m args below meth c B ov G cI cR O n0 k0 Q nL (pc) (lo) (am_r (some a) :: st) (g) := by
  intro H locs ls hR hS hL h1 h2
  obtain ⟨hx, hb, hml, hown, hts, hKK⟩ := X
  have ha := hR.isNew hKK hg (am_vw hc)
  have hz := h H locs ls hR hS hL h1 h2
  have e3 : (am_r (some a) :: st).map (am_cv B ov) = .ref (B + (a - am_K)) :: st.map (am_cv B ov) := by
    show va_rf (am_rr B ov (some a)) :: _ = _
    rw [am_rr_new ha]; rfl
  rw [e3] at hz ⊢
  exact va_castS hx hb hown (hts _ hcl) (hKK.1.1 ci r hc).2 (va_recv hKK.1 (am_P1 (hR.obj ha hg).1) hc (q0 := 0) rfl) hd hz
theorem am_casta (X : am_Cx p s m args c cc nL own B ov G cI cR O) {idx a n : Nat} {f : Nat → Int32} (hd : decode cc pc = .ok (.checkcast idx, 3)) (ha : am_K ≤ a) (hg : g.1[a]? = some (.inr (.inl (0, n, f)))) (hcl : Cond.classLink own idx "[I" ∈ am_T) (h : am_Ok p l e R s m args below meth c B ov G cI cR O n0 k0 Q nL (pc + 3) (lo) (am_r (some a) :: st) (g)) : am_Ok p l e R s m args below meth c B ov G cI cR O n0 k0 Q nL (pc) (lo) (am_r (some a) :: st) (g) := by
  intro H locs ls hR hS hL h1 h2
  obtain ⟨hx, hb, hml, hown, hts, hKK⟩ := X
  have hz := h H locs ls hR hS hL h1 h2
  have e3 : (am_r (some a) :: st).map (am_cv B ov) = .ref (B + (a - am_K)) :: st.map (am_cv B ov) := by
    show va_rf (am_rr B ov (some a)) :: _ = _
    rw [am_rr_new ha]; rfl
  rw [e3] at hz ⊢
  obtain ⟨-, e2⟩ := hR.2.2.2 a _ ha hg
  exact va_castA (D := G) (cl := vwCl) (x := (n, .inl f)) hx hb hown (hts _ hcl) (am_P1 (q := (B + (a - am_K), .inl (cI 0, n, .inl f))) e2) 0 rfl (va_nm_int (am_tyI hKK.1 (t := 0) (by decide)).2) hd hz
theorem am_ldcS (X : am_Cx p s m args c cc nL own B ov G cI cR O) {idx o : Nat} {tx : String} (hd : decode cc pc = .ok (.ldc idx, 2)) (ho : o < am_K) (hs : (own, idx, o, tx) ∈ am_sls) (h : am_Ok p l e R s m args below meth c B ov G cI cR O n0 k0 Q nL (pc + 2) (lo) (am_r (some o) :: st) (g)) : am_Ok p l e R s m args below meth c B ov G cI cR O n0 k0 Q nL (pc) (lo) (st) (g) := by
  intro H locs ls hR hS hL h1 h2
  obtain ⟨hx, hb, hml, hown, hts, hKK⟩ := X
  obtain ⟨a, e1, e2⟩ := hKK.2.2.2.2.2.2.1 _ hs
  have hz := h H locs ls hR hS hL h1 h2
  have e3 : (am_r (some o) :: st).map (am_cv B ov) = .ref a :: st.map (am_cv B ov) := by
    show va_rf (am_rr B ov (some o)) :: _ = _
    rw [am_rr_old ho]
    simp only at e1
    rw [e1]; rfl
  rw [e3] at hz
  exact va_ldcS hx hb hown e2 hd hz
theorem am_ldcM (X : am_Cx p s m args c cc nL own B ov G cI cR O) {idx : Nat} (hd : decode cc pc = .ok (.ldc idx, 2)) (hcl : Cond.classLink own idx "[Ljava/lang/Object;" ∈ am_T) (h : am_Ok p l e R s m args below meth c B ov G cI cR O n0 k0 Q nL (pc + 2) (lo) (am_r (some 2) :: st) (g)) : am_Ok p l e R s m args below meth c B ov G cI cR O n0 k0 Q nL (pc) (lo) (st) (g) := by
  intro H locs ls hR hS hL h1 h2
  obtain ⟨hx, hb, hml, hown, hts, hKK⟩ := X
  obtain ⟨mi, e1, e2⟩ := hKK.2.2.2.2.1
  have hz := h H locs ls hR hS hL h1 h2
  have e3 : (am_r (some 2) :: st).map (am_cv B ov) = .ref mi :: st.map (am_cv B ov) := by
    show va_rf (am_rr B ov (some 2)) :: _ = _
    rw [am_rr_old (by decide), e1]; rfl
  rw [e3] at hz
  exact va_ldcM hx hb hown (hts _ hcl) e2 hd hz
theorem am_gets (X : am_Cx p s m args c cc nL own B ov G cI cR O) {idx : Nat} {C n d : String} {v : am_V} (hd : decode cc pc = .ok (.getstatic idx, 3)) (hl : Cond.fieldLink own idx C n d ∈ am_T) (hv : (C = "java/util/ArrayList" ∧ n = "DEFAULTCAPACITY_EMPTY_ELEMENTDATA" ∧ d = "[Ljava/lang/Object;" ∧ v = am_r (some 1)) ∨ (C = "java/lang/String" ∧ n = "COMPACT_STRINGS" ∧ d = "Z" ∧ v = am_i 1) ∨ (C = "jdk/internal/util/Preconditions" ∧ n = "SIOOBE_FORMATTER" ∧ d = "Ljava/util/function/BiFunction;" ∧ v = am_r (some 3)))
    (h : am_Ok p l e R s m args below meth c B ov G cI cR O n0 k0 Q nL (pc + 3) (lo) (v :: st) (g)) : am_Ok p l e R s m args below meth c B ov G cI cR O n0 k0 Q nL (pc) (lo) (st) (g) := by
  intro H locs ls hR hS hL h1 h2
  obtain ⟨hx, hb, hml, hown, hts, hKK⟩ := X
  obtain ⟨z1, z2, z3⟩ := hKK.2.2.2.2.2.2.2.1
  have hz := h H locs ls hR hS hL h1 h2
  rcases hv with ⟨rfl, rfl, rfl, rfl⟩ | ⟨rfl, rfl, rfl, rfl⟩ | ⟨rfl, rfl, rfl, rfl⟩
  · have e3 : (am_r (some 1) :: st).map (am_cv B ov) = va_rf (ov 1) :: st.map (am_cv B ov) := by
      show va_rf (am_rr B ov (some 1)) :: _ = _
      rw [am_rr_old (by decide)]
    rw [e3] at hz
    exact va_gets hx hb z1 hS hown (hts _ hl) (fun _ z => z) hd hz
  · exact va_gets hx hb z2 hS hown (hts _ hl) (fun _ z => z) hd hz
  · have e3 : (am_r (some 3) :: st).map (am_cv B ov) = va_rf (ov 3) :: st.map (am_cv B ov) := by
      show va_rf (am_rr B ov (some 3)) :: _ = _
      rw [am_rr_old (by decide)]
    rw [e3] at hz
    exact va_gets hx hb z3 hS hown (hts _ hl) (fun _ z => z) hd hz
theorem am_obji (X : am_Cx p s m args c cc nL own B ov G cI cR O) {idx a ci : Nat} {fs : List am_V} (hd : decode cc pc = .ok (.invokespecial idx, 3)) (hg : g.1[a]? = some (.inl (ci, fs))) (hci : ci < 14) (hl : Cond.methodLink own idx objectInit ∈ am_T) (hin : Cond.instanceMethod objectInit ∈ am_T) (hco : Cond.code objectInit ⟨#[0xb1]⟩ 1 none ∈ am_T) (hsum : (st.map am_cat).sum ≤ 8) (hfr : 1 ≤ R.frames) (hlo : 40 ≤ R.locals)
    (h : am_Ok p l e R s m args below meth c B ov G cI cR O n0 k0 Q nL (pc + 3) (lo) (st) (g)) : am_Ok p l e R s m args below meth c B ov G cI cR O n0 k0 Q nL (pc) (lo) (am_r (some a) :: st) (g) := by
  intro H locs ls hR hS hL h1 h2
  obtain ⟨hx, hb, hml, hown, hts, hKK⟩ := X
  have ha := hR.isNew hKK hg hci
  show W p l e R s m args below meth c H locs _ _ Q (F0 m pc ls (va_rf (am_rr B ov (some a)) :: st.map (am_cv B ov)))
  rw [am_rr_new ha]
  refine W.objInit hx hb hown (hts _ hl) (hts _ hin) (hts _ hco) rfl (by rw [hml]; exact hL.1) rfl hd hfr ?_ (h H locs ls hR hS hL h1 h2)
  rw [am_cv_sum]
  show 2 * 0 + _ + 12 ≤ _
  omega
theorem am_getc (X : am_Cx p s m args c cc nL own B ov G cI cR O) {idx a n : Nat} {f : Nat → Option Nat} (hd : decode cc pc = .ok (.invokevirtual idx, 3)) (ha : am_K ≤ a) (hg : g.1[a]? = some (.inr (.inr (0, n, f)))) (hl : Cond.methodLink own idx ⟨"java/lang/Object", "getClass", "()Ljava/lang/Class;"⟩ ∈ am_T) (hsel : Cond.selects "[Ljava/lang/Object;" ⟨"java/lang/Object", "getClass", "()Ljava/lang/Class;"⟩ ⟨"java/lang/Object", "getClass", "()Ljava/lang/Class;"⟩ ∈ am_T) (hins : Cond.instanceMethod ⟨"java/lang/Object", "getClass", "()Ljava/lang/Class;"⟩ ∈ am_T) (hnat : Cond.native ⟨"java/lang/Object", "getClass", "()Ljava/lang/Class;"⟩ ∈ am_T)
    (hsum : (st.map am_cat).sum ≤ 8) (hfr : 1 ≤ R.frames) (hlo : 40 ≤ R.locals) (h : am_Ok p l e R s m args below meth c B ov G cI cR O n0 k0 Q nL (pc + 3) (lo) (am_r (some 2) :: st) (g)) : am_Ok p l e R s m args below meth c B ov G cI cR O n0 k0 Q nL (pc) (lo) (am_r (some a) :: st) (g) := by
  intro H locs ls hR hS hL h1 h2
  obtain ⟨hx, hb, hml, hown, hts, hKK⟩ := X
  obtain ⟨mi, e1, e2⟩ := hKK.2.2.2.2.1
  have hz := h H locs ls hR hS hL h1 h2
  have e3 : (am_r (some 2) :: st).map (am_cv B ov) = .ref mi :: st.map (am_cv B ov) := by
    show va_rf (am_rr B ov (some 2)) :: _ = _
    rw [am_rr_old (by decide), e1]; rfl
  rw [e3] at hz
  obtain ⟨-, e4⟩ := hR.2.2.2 a _ ha hg
  show W p l e R s m args below meth c H locs _ _ Q (F0 m pc ls (va_rf (am_rr B ov (some a)) :: st.map (am_cv B ov)))
  rw [am_rr_new ha]
  exact va_getC hx hb (by rw [hml]; exact hL.1.symm) hown (hts _ hl) (va_Dc.use hKK.2.2.2.2.2.1) (hts _ hsel) (hts _ hins) (hts _ hnat) e2 ⟨_, e4, rfl, va_nmO (am_tyR hKK.1 (t := 0) (Or.inl rfl)).2 rfl⟩ hfr (by rw [am_cv_sum]; omega) hd hz
end Mem2
