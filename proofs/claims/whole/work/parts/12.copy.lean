/-! arraycopy and clone as rules. -/
section Copy_
variable {p : Program} {l : Launch} {e : Env} {R : Room} {s : State} {m : MethodId} {args : Array Value} {below : List Frame} {meth : Method} {c : Code} {B : Nat} {ov : Nat → Option Nat} {G : va_G} {cI cR : Nat → ClassId} {O : List am_Ce} {n0 k0 : Nat} {Q : State → Prop} {nL : Nat} {cc : ByteArray} {own : String} {pc : Nat} {lo : am_L} {st : List am_V} {g : am_S}
theorem am_copyr (X : am_Cx p s m args c cc nL own B ov G cI cR O) {idx a b N0 N1 : Nat} {i j n : Int32} {f f' : Nat → Int32} (hd : decode cc pc = .ok (.invokestatic idx, 3)) (hl : Cond.methodLink own idx arraycopyName ∈ am_T) (hnat : Cond.native arraycopyName ∈ am_T) (hstat : Cond.static arraycopyName ∈ am_T) (hini : Cond.initialized "java/lang/System" ∈ am_T)
    (ha : am_K ≤ a) (hb0 : am_K ≤ b) (h1 : ¬ i < 0) (h2 : ¬ j < 0) (h3 : ¬ n < 0) (hga : g.1[a]? = some (.inr (.inl (0, N0, f)))) (hgb : g.1[b]? = some (.inr (.inl (0, N1, f')))) (h4 : i.toNatClampNeg + n.toNatClampNeg ≤ N0) (h5 : j.toNatClampNeg + n.toNatClampNeg ≤ N1) (hsum : (st.map am_cat).sum ≤ 8) (hfr : 1 ≤ R.frames) (hlo : 100 ≤ R.locals)
    (h : am_Ok p l e R s m args below meth c B ov G cI cR O n0 k0 Q nL (pc + 3) (lo) (st) ((g.1.set b (.inr (.inl (0, N1, va_cpy f f' i.toNatClampNeg j.toNatClampNeg n.toNatClampNeg))), g.2))) : am_Ok p l e R s m args below meth c B ov G cI cR O n0 k0 Q nL (pc) (lo) (am_i n :: am_i j :: am_r (some b) :: am_i i :: am_r (some a) :: st) (g) := by
  intro H locs ls hR hS hL q1 q2
  obtain ⟨hx, hb, hml, hown, hts, hKK⟩ := X
  obtain ⟨-, ea⟩ := hR.2.2.2 a _ ha hga
  obtain ⟨-, eb⟩ := hR.2.2.2 b _ hb0 hgb
  simp only at ea eb
  show W p l e R s m args below meth c H locs _ _ Q (F0 m pc ls (.int n :: .int j :: va_rf (am_rr B ov (some b)) :: .int i :: va_rf (am_rr B ov (some a)) :: st.map (am_cv B ov)))
  rw [am_rr_new ha, am_rr_new hb0]
  have hw : nativeFrameWords "java/lang/System" "arraycopy" 5 ≤ 60 := by decide
  refine am_wcpy (fun z => Value.int z) hx hb (hml.trans hL.1.symm) hown (hts _ hl) (hts _ hnat) (hts _ hstat) (hts _ hini) ea eb (am_tyI hKK.1 (t := 0) (by decide)).1 h1 h2 h3 h4 h5 (fun _ _ _ _ _ _ _ _ _ _ => ⟨rfl, trivial⟩) hfr (by rw [am_cv_sum]; omega) hd fun H1 L e1 z oq hL1 => ?_
  have hz := h H1 (locs ++ L) ls (hR.set hb0 ⟨(show (0 : Nat) < 3 by decide), e1⟩ z oq) ⟨by rw [z]; exact hS.1, fun q g1 g2 => by rw [oq q (by omega)]; exact hS.2.1 q g1 g2, fun q hq => by
      rcases List.mem_append.mp hq with h | h
      · exact hS.2.2 q h
      · show B ≤ q.base; rw [hL1 q h]; omega⟩ hL (by simpa using q1) q2
  simpa using hz
theorem am_copyo (X : am_Cx p s m args c cc nL own B ov G cI cR O) {idx a b N0 N1 : Nat} {i j n : Int32} {f f' : Nat → Option Nat} (hd : decode cc pc = .ok (.invokestatic idx, 3)) (hl : Cond.methodLink own idx arraycopyName ∈ am_T) (hnat : Cond.native arraycopyName ∈ am_T) (hstat : Cond.static arraycopyName ∈ am_T) (hini : Cond.initialized "java/lang/System" ∈ am_T)
    (ha : am_K ≤ a) (hb0 : am_K ≤ b) (h1 : ¬ i < 0) (h2 : ¬ j < 0) (h3 : ¬ n < 0) (hga : g.1[a]? = some (.inr (.inr (0, N0, f)))) (hgb : g.1[b]? = some (.inr (.inr (0, N1, f')))) (h4 : i.toNatClampNeg + n.toNatClampNeg ≤ N0) (h5 : j.toNatClampNeg + n.toNatClampNeg ≤ N1) (hasg : ∀ k, k < n.toNatClampNeg → am_asg g.1 0 (f (i.toNatClampNeg + k)) = true) (hsum : (st.map am_cat).sum ≤ 8) (hfr : 1 ≤ R.frames) (hlo : 100 ≤ R.locals)
    (h : am_Ok p l e R s m args below meth c B ov G cI cR O n0 k0 Q nL (pc + 3) (lo) (st) ((g.1.set b (.inr (.inr (0, N1, va_cpy f f' i.toNatClampNeg j.toNatClampNeg n.toNatClampNeg))), g.2))) : am_Ok p l e R s m args below meth c B ov G cI cR O n0 k0 Q nL (pc) (lo) (am_i n :: am_i j :: am_r (some b) :: am_i i :: am_r (some a) :: st) (g) := by
  intro H locs ls hR hS hL q1 q2
  obtain ⟨hx, hb, hml, hown, hts, hKK⟩ := X
  obtain ⟨-, ea⟩ := hR.2.2.2 a _ ha hga
  obtain ⟨-, eb⟩ := hR.2.2.2 b _ hb0 hgb
  simp only at ea eb
  show W p l e R s m args below meth c H locs _ _ Q (F0 m pc ls (.int n :: .int j :: va_rf (am_rr B ov (some b)) :: .int i :: va_rf (am_rr B ov (some a)) :: st.map (am_cv B ov)))
  rw [am_rr_new ha, am_rr_new hb0]
  have hw : nativeFrameWords "java/lang/System" "arraycopy" 5 ≤ 60 := by decide
  refine am_wcpy (fun z => va_rf (am_rr B ov z)) hx hb (hml.trans hL.1.symm) hown (hts _ hl) (hts _ hnat) (hts _ hstat) (hts _ hini) ea eb (am_tyR hKK.1 (t := 0) (Or.inl rfl)).1 h1 h2 h3 h4 h5 (fun T hT vm₁ hal k1 comp1 hk1 hkk1 k hk => ?_) hfr (by rw [am_cv_sum]; omega) hd fun H1 L e1 z oq hL1 => ?_
  · have ha1 := hasg k hk
    cases hy : f (i.toNatClampNeg + k) with
    | none => exact ⟨rfl, trivial⟩
    | some y =>
      rw [hy] at ha1
      obtain ⟨er, cellV, g1, g2, ⟨kC, hkC⟩, has⟩ := hR.any hKK (Or.inl rfl) ha1
      obtain ⟨kA, comp, r1, r2, r3, -⟩ := (am_tyR hKK.1 (t := 0) (Or.inl rfl)).2
      cases hk1.symm.trans r1
      cases hkk1.symm.trans r2
      obtain ⟨kE, hkE, -⟩ := Vm.findClass_spec r3
      obtain ⟨kC', hkC', -⟩ := hal.2.2 _ _ hkC
      obtain ⟨kE', hkE', -⟩ := hal.2.2 _ _ hkE
      rw [er]
      refine ⟨rfl, cellV, (show T.heap[_]? = some cellV by rw [hT]; exact g1), (fun q h => by rw [h] at g2; cases g2), ⟨kC', hkC'⟩, ⟨kE', hkE'⟩, ?_⟩
      show vm₁.assignable _ _ = true
      rw [hal.assignable]
      exact has _ r3
  · have hz := h H1 (locs ++ L) ls (hR.set hb0 ⟨Or.inl rfl, e1⟩ z oq) ⟨by rw [z]; exact hS.1, fun q g1 g2 => by rw [oq q (by omega)]; exact hS.2.1 q g1 g2, fun q hq => by
        rcases List.mem_append.mp hq with h | h
        · exact hS.2.2 q h
        · show B ≤ q.base; rw [hL1 q h]; omega⟩ hL (by simpa using q1) q2
    simpa using hz
theorem am_cloner (X : am_Cx p s m args c cc nL own B ov G cI cR O) {idx a n : Nat} {f : Nat → Int32} (hd : decode cc pc = .ok (.invokevirtual idx, 3)) (ha : am_K ≤ a) (hg : g.1[a]? = some (.inr (.inl (0, n, f)))) (hlink : Cond.methodLink own idx ⟨"[I", "clone", "()Ljava/lang/Object;"⟩ ∈ am_T) (hsame : Cond.sameMethod "[I" "java/lang/Object" "clone" "()Ljava/lang/Object;" ∈ am_T) (hnat : Cond.native ⟨"java/lang/Object", "clone", "()Ljava/lang/Object;"⟩ ∈ am_T) (hinst : Cond.instanceMethod ⟨"java/lang/Object", "clone", "()Ljava/lang/Object;"⟩ ∈ am_T) (hsel : Cond.selects "[I" ⟨"[I", "clone", "()Ljava/lang/Object;"⟩ ⟨"java/lang/Object", "clone", "()Ljava/lang/Object;"⟩ ∈ am_T)
    (hsum : (st.map am_cat).sum ≤ 8) (hfr : 1 ≤ R.frames) (hlo : 100 ≤ R.locals) (hc1 : g.1.length - n0 + 1 ≤ R.cells) (hs1 : g.2 - k0 + n ≤ R.slots) (h : am_Ok p l e R s m args below meth c B ov G cI cR O n0 k0 Q nL (pc + 3) (lo) (am_r (some g.1.length) :: st) (am_new g (.inr (.inl (0, n, fun k => if k < n then f k else 0))) n)) : am_Ok p l e R s m args below meth c B ov G cI cR O n0 k0 Q nL (pc) (lo) (am_r (some a) :: st) (g) := by
  intro H locs ls hR hS hL h1 h2
  obtain ⟨hx, hb, hml, hown, hts, hKK⟩ := X
  obtain ⟨-, ea⟩ := hR.2.2.2 a _ ha hg
  simp only at ea
  show W p l e R s m args below meth c H locs _ _ Q (F0 m pc ls (va_rf (am_rr B ov (some a)) :: st.map (am_cv B ov)))
  rw [am_rr_new ha]
  have hA := am_tyI hKK.1 (t := 0) (by decide)
  have hnm := va_nm_int hA.2
  obtain ⟨c0, t0, f1, f2, f3⟩ := Cond.castable_spec (va_Nw.use (A := args) rfl (hKK.2.1 ("[I", "java/lang/Cloneable") (by decide)))
  cases hnm.symm.trans f1
  intro T hT X
  obtain ⟨-, kA, hkA, comp, hkind⟩ := State.isArrayOf_alike X.warmed.alike (hA.1 0 (fun _ => .null))
  obtain ⟨-, kS, hkS, compS, hkindS⟩ := hA.1 0 (fun _ => .null)
  obtain ⟨vm', X', st'⟩ := X.cloneArray hx hown (hts _ hlink) (hts _ hsame) (hts _ hnat) (hts _ hinst) (hts _ hsel) (a := B + (a - am_K)) (cell := arrV (cI 0) n (fun j => .int (f j))) (by rw [hT]; exact ea) (fun k h => by cases h) (fun h => by cases h) hnm f2 f3
    (fun i v hv => by
      have hk' : T.vm.classes[cI 0]? = some kA := hkA
      have hi : i < n := by
        have := (Array.getElem?_eq_some_iff.mp hv).1
        rwa [arrV_size] at this
      rw [arrV_read _ _ hi] at hv
      cases hv
      show T.fitsSlot (cI 0) .none i (.int (f i)) = true
      simp [State.fitsSlot, State.slotType?, hk', hkind, fits, am_ty])
    (g := F0 m pc ls (.ref (B + (a - am_K)) :: st.map (am_cv B ov))) rfl (by show ls.size = c.maxLocals; rw [hml]; exact hL.1) rfl (by rw [hb]; exact hd) hfr (by show 2 * 0 + _ + 14 ≤ _; rw [am_cv_sum]; omega) hc1 (by rw [arrV_size]; exact hs1) (hloader := Vm.clonesLoader_of_array hkS hkindS)
  rw [arrV_size] at X'
  have ef : arrV (cI 0) n (fun j => .int (f j)) = arrV (cI 0) n (fun j => .int (if j < n then f j else 0)) := by
    have e0 : (fun j : Fin n => Value.int (f j.val)) = fun j : Fin n => Value.int (if j.val < n then f j.val else 0) := funext fun j => by rw [if_pos j.isLt]
    unfold arrV; rw [e0]
  have hz := h.al hR hS hL h1 h2 (H' := H.push (arrV (cI 0) n (fun j => .int (f j)))) ⟨(show (0 : Nat) < 3 by decide), by rw [Array.getElem?_push_size]; exact congrArg some ef⟩ (by rw [Array.size_push]) (fun q hq => by rw [Array.getElem?_push, if_neg (Nat.ne_of_lt hq)])
  obtain ⟨t, b1, b2⟩ := hz ((T.setVm vm').pushCell (arrV (cI 0) n (fun j => .int (f j)))) (by rw [← hT]; rfl) X'
  refine ⟨t, st' t ?_, b2⟩
  rw [hT]
  exact b1
end Copy_
