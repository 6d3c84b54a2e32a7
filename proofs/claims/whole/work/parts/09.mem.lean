/-! Memory: fields, arrays, new cells, as rules of am_Ok. -/
section Mem
variable {p : Program} {l : Launch} {e : Env} {R : Room} {s : State} {m : MethodId} {args : Array Value} {below : List Frame} {meth : Method} {c : Code} {B : Nat} {ov : Nat → Option Nat} {G : va_G} {cI cR : Nat → ClassId} {O : List am_Ce} {n0 k0 : Nat} {Q : State → Prop} {nL : Nat} {cc : ByteArray} {own : String} {pc : Nat} {lo : am_L} {st : List am_V} {g : am_S}
theorem am_P1 {G : va_G} {q : Nat × va_E} {H : Heap} (h : va_at G vwCl q H) : va_P G vwCl [q] H := by
  intro k q' hk
  cases k with
  | zero => cases hk; exact h
  | succ k => cases hk
theorem am_Rl.obj {H : Heap} (hR : am_Rl B ov G cI cR O g H) {a ci : Nat} {fs : List am_V} (ha : am_K ≤ a) (hg : g.1[a]? = some (.inl (ci, fs))) : va_at G vwCl (B + (a - am_K), .inr (ci, fs.map (am_cv B ov))) H ∧ ∃ r : vw_C, vwCl[ci]? = some r ∧ fs.length = r.2.2 := by
  obtain ⟨r, h1, h2, h3⟩ := hR.2.2.2 a _ ha hg
  exact ⟨⟨r, h1, h3⟩, r, h1, h2⟩
theorem am_getf (X : am_Cx p s m args c cc nL own B ov G cI cR O) {idx ci k a N : Nat} {C : String} {T : u_T} {fs : List am_V} {v : am_V} {ref : String} (hd : decode cc pc = .ok (.getfield idx, 3)) (ha : am_K ≤ a) (hg : g.1[a]? = some (.inl (ci, fs))) (hv : fs[k]? = some v) (hc : vwCl[ci]? = some (C, T, N)) (hk : k < N) (hin : ∀ w ∈ u_ws C T N, w ∈ am_T)
    (hl : Cond.fieldLink own idx ref (T k).2.1 (T k).2.2.1 ∈ am_T) (hsame : ref = (T k).1 ∨ Cond.sameField ref (T k).1 (T k).2.1 (T k).2.2.1 ∈ am_T) (h : am_Ok p l e R s m args below meth c B ov G cI cR O n0 k0 Q nL (pc + 3) (lo) (v :: st) (g)) : am_Ok p l e R s m args below meth c B ov G cI cR O n0 k0 Q nL (pc) (lo) (am_r (some a) :: st) (g) := by
  intro H locs ls hR hS hL h1 h2
  obtain ⟨hx, hb, hml, hown, hts, hKK⟩ := X
  show W p l e R s m args below meth c H locs _ _ Q (F0 m pc ls (va_rf (am_rr B ov (some a)) :: st.map (am_cv B ov)))
  rw [am_rr_new ha]
  refine va_get (D := G) (cl := vwCl) (v := am_cv B ov v) hx hb hts hin hown hKK.1 (am_P1 (hR.obj ha hg).1) 0 rfl hc k hk (hts _ hl) (fun x hx => ?_) (by rw [List.getElem?_map, hv]; rfl) hd (h H locs ls hR hS hL h1 h2)
  rcases hsame with e | e
  · rw [e]; exact hx
  · exact u_same (hts _ e) x hx
theorem am_getS (X : am_Cx p s m args c cc nL own B ov G cI cR O) {idx k a : Nat} {fs : List am_V} {v : am_V} (hd : decode cc pc = .ok (.getfield idx, 3)) (ha : a < am_K) (hg : g.1[a]? = some (.inl (50, fs))) (hv : fs[k]? = some v)
    (hl : (k = 0 ∧ Cond.fieldLink own idx "java/lang/String" "value" "[B" ∈ am_T) ∨ (k = 1 ∧ Cond.fieldLink own idx "java/lang/String" "coder" "B" ∈ am_T)) (h : am_Ok p l e R s m args below meth c B ov G cI cR O n0 k0 Q nL (pc + 3) (lo) (v :: st) (g)) : am_Ok p l e R s m args below meth c B ov G cI cR O n0 k0 Q nL (pc) (lo) (am_r (some a) :: st) (g) := by
  intro H locs ls hR hS hL h1 h2
  obtain ⟨hx, hb, hml, hown, hts, hKK⟩ := X
  show W p l e R s m args below meth c H locs _ _ Q (F0 m pc ls (va_rf (am_rr B ov (some a)) :: st.map (am_cv B ov)))
  have hoc := hKK.2.2.2.2.2.2.2.2.1 a (.inl (50, fs)) ha (by rw [← hR.2.2.1 a ha]; exact hg)
  dsimp only [am_oc] at hoc
  obtain ⟨q, v0, v1, e1, e2, e3, e4, e5⟩ := hoc rfl
  rw [am_rr_old ha, e1]
  subst e2
  rcases hl with ⟨rfl, hl⟩ | ⟨rfl, hl⟩
  · cases hv
    exact vk_getf hx hb e4 hS hown (hts _ hl) (fun _ z => z) hd (h H locs ls hR hS hL h1 h2)
  · cases hv
    exact vk_getf hx hb e5 hS hown (hts _ hl) (fun _ z => z) hd (h H locs ls hR hS hL h1 h2)
theorem am_fit {v : am_V} {ty : FieldType} (h : (ty = .int ∧ ∃ x, v = am_i x) ∨ (ty = .boolean ∧ ∃ x, v = am_i x ∧ am_nar 2 x = x) ∨ (((∃ n, ty = .object n) ∨ ∃ t, ty = .array t) ∧ ∃ r, v = am_r r)) : narrow ty (am_cv B ov v) = am_cv B ov v ∧ fits ty (am_cv B ov v) = true := by
  rcases h with ⟨rfl, x, rfl⟩ | ⟨rfl, x, rfl, hx⟩ | ⟨h, r, rfl⟩
  · exact ⟨rfl, rfl⟩
  · have hx : x &&& 1 = x := hx
    refine ⟨by show Value.int (x &&& 1) = .int x; rw [hx], ?_⟩
    show (x == 0 || x == 1) = true
    have h2 : ∀ b : Bool, True := fun _ => trivial
    have hb : x = 0 ∨ x = 1 := by
      have : (x &&& 1 = 0) ∨ (x &&& 1 = 1) := by
        rcases Nat.mod_two_eq_zero_or_one x.toBitVec.toNat with e | e
        · left
          apply Int32.toBitVec_inj.mp
          apply BitVec.eq_of_toNat_eq
          show (x.toBitVec &&& 1#32).toNat = 0
          rw [BitVec.toNat_and]
          show x.toBitVec.toNat &&& 1 = 0
          rw [Nat.and_one_is_mod]; exact e
        · right
          apply Int32.toBitVec_inj.mp
          apply BitVec.eq_of_toNat_eq
          show (x.toBitVec &&& 1#32).toNat = 1
          rw [BitVec.toNat_and]
          show x.toBitVec.toNat &&& 1 = 1
          rw [Nat.and_one_is_mod]; exact e
      rcases this with e | e
      · exact Or.inl (hx.symm.trans e)
      · exact Or.inr (hx.symm.trans e)
    rcases hb with rfl | rfl <;> decide
  · show narrow ty (va_rf (am_rr B ov r)) = va_rf (am_rr B ov r) ∧ fits ty (va_rf (am_rr B ov r)) = true
    rcases h with ⟨n, rfl⟩ | ⟨t, rfl⟩ <;> cases am_rr B ov r <;> exact ⟨rfl, rfl⟩
theorem am_putf (X : am_Cx p s m args c cc nL own B ov G cI cR O) {idx ci k a N : Nat} {C : String} {T : u_T} {ty0 : Nat → FieldType} {fs : List am_V} {v : am_V} {ref : String} {ty : FieldType} (hd : decode cc pc = .ok (.putfield idx, 3)) (ha : am_K ≤ a) (hg : g.1[a]? = some (.inl (ci, fs))) (hl0 : k < fs.length) (hc : vwCl[ci]? = some (C, T, N)) (hk : k < N) (hin : ∀ w ∈ u_ws C T N, w ∈ am_T)
    (hty : ∀ k, k < N → parseFieldDescriptor (T k).2.2.1 = some (ty0 k)) (hnm : ∀ a, a < N → ∀ b, b < N → a ≠ b → (T a).2.1 ≠ (T b).2.1)
    (hl : Cond.fieldLink own idx ref (T k).2.1 (T k).2.2.1 ∈ am_T) (hsame : ref = (T k).1 ∨ Cond.sameField ref (T k).1 (T k).2.1 (T k).2.2.1 ∈ am_T) (hfin : (T k).2.2.2 = false ∨ ((T k).2.2.2 = true ∧ meth.name = "<init>" ∧ (T k).1 = own)) (hdsc : parseFieldDescriptor (T k).2.2.1 = some ty) (hft : narrow ty (am_cv B ov v) = am_cv B ov v ∧ fits ty (am_cv B ov v) = true)
    (h : am_Ok p l e R s m args below meth c B ov G cI cR O n0 k0 Q nL (pc + 3) (lo) (st) ((g.1.set a (.inl (ci, fs.set k v)), g.2))) : am_Ok p l e R s m args below meth c B ov G cI cR O n0 k0 Q nL (pc) (lo) (v :: am_r (some a) :: st) (g) := by
  intro H locs ls hR hS hL h1 h2
  obtain ⟨hx, hb, hml, hown, hts, hKK⟩ := X
  show W p l e R s m args below meth c H locs _ _ Q (F0 m pc ls (am_cv B ov v :: va_rf (am_rr B ov (some a)) :: st.map (am_cv B ov)))
  rw [am_rr_new ha]
  obtain ⟨⟨r, hr, cell, q1, q2, q3, q4⟩, r', hr', hlen⟩ := hR.obj ha hg
  have e0 : r = (C, T, N) := Option.some.inj (hr.symm.trans hc)
  subst e0
  have e0' : r' = (C, T, N) := Option.some.inj (hr'.symm.trans hc)
  subst e0'
  have hap := va_apart (own := own) hts hin ty0 hty hnm hKK.1 hc
  obtain ⟨hSl, hfc, kC, hkC, hkind⟩ := hKK.1.1 ci _ hc
  obtain ⟨cf, kf, fi, f, hi, hsl⟩ := hSl k hk
  have hlay := hts _ (hin _ (u_in_lay hk))
  unfold u_lay at hlay
  have hi' : s.fieldFound? ref (T k).2.1 (T k).2.2.1 = some (cf, kf, fi, f) := by
    rcases hsame with e | e
    · rw [e]; exact hi
    · exact u_same (hts _ e) _ hi
  have fin : ∀ H' : Heap, H'[B + (a - am_K)]? = some (cell.setSlot f.slot (am_cv B ov v)) → H'.size = H.size → (∀ q, q ≠ B + (a - am_K) → H'[q]? = H[q]?) → W p l e R s m args below meth c H' (locs ++ [⟨B + (a - am_K), f.slot⟩]) (g.1.length - n0) (g.2 - k0) Q (F0 m (pc + 3) ls (st.map (am_cv B ov))) := by
    intro H' e1 z oq
    have hz := h H' (locs ++ [⟨B + (a - am_K), f.slot⟩]) ls (hR.set ha ⟨_, hc, by rw [List.length_set]; exact hlen, t_OB.to (V := updV (vp_V (fs.map (am_cv B ov))) k (am_cv B ov v)) ⟨_, e1, q2, q3, by rw [hsl]; exact t_set q4 hap hk _⟩ (fun j _ => by
        rw [vp_updV_set (by rw [List.length_map]; exact hl0), List.map_set])⟩ z oq) (hS.put z oq (by omega)) hL (by simpa using h1) h2
    simpa using hz
  rcases hfin with hf | ⟨hf, hin2, hdecl⟩
  · rw [if_neg (by rw [hf]; decide)] at hlay
    exact W.putK hx hb (f := f) ⟨hown, hts _ hl, ⟨_, _, _, hi'⟩, (u_facts hfc hkC (u_lays hts hin hk) hi).1⟩ (by rw [q2]; exact u_store hfc hkC hkind hlay hi hdsc hft.1 hft.2) q1 q3 (by rw [hsl]; exact k2_hasslot (q4 k hk)) rfl rfl hd fin
  · rw [if_pos hf] at hlay
    have hcf : m.cls = cf := by
      obtain ⟨_, _, c', _, _, _, -, -, hf', -, -, -, hown2, -⟩ := Cond.laysFinal_spec hlay
      have e1 : c' = cf := by have := hi.symm.trans hf'; simp at this; exact this.1.symm
      rw [hdecl] at hown2
      rw [← e1]; exact Option.some.inj (hown.symm.trans hown2)
    exact W.putFinK hx hb hown (hts _ hl) hi' (u_facts hfc hkC (u_lays hts hin hk) hi).1 hcf hin2 (by rw [q2]; exact u_fits hfc hkC hkind (Or.inr hlay) hi hdsc hft.1 hft.2) q1 q3 (by rw [hsl]; exact k2_hasslot (q4 k hk)) rfl rfl hd fin
-- arrays of ints, bytes, booleans
theorem am_tyI {s : State} {G : va_G} {cI cR : Nat → ClassId} (hK : va_K G vwCl (am_tys cI cR) s) {t : Nat} (ht : t < 3) : ArrOfT s (cI t) (am_ty t) ∧ va_RA s (cI t) (am_ty t) := by
  rcases (show t = 0 ∨ t = 1 ∨ t = 2 by omega) with rfl | rfl | rfl
  · exact hK.2 0 _ rfl
  · exact hK.2 1 _ rfl
  · exact hK.2 2 _ rfl
theorem am_tyR {s : State} {G : va_G} {cI cR : Nat → ClassId} (hK : va_K G vwCl (am_tys cI cR) s) {t : Nat} (ht : t = 0 ∨ t = 5 ∨ t = 9) : ArrOfT s (cR t) (.object (am_tr t)) ∧ va_RA s (cR t) (.object (am_tr t)) := by
  rcases ht with rfl | rfl | rfl
  · exact hK.2 3 _ rfl
  · exact hK.2 4 _ rfl
  · exact hK.2 5 _ rfl
/-- an array's cell, old or new: where it stands, of what kind it is, what it holds -/
theorem am_Rl.arrI {H : Heap} {locs : List Loc} (hKK : am_KK B ov G cI cR O s s.heap) (hS : va_S (fun q => B ≤ q) s.heap H locs) (hR : am_Rl B ov G cI cR O g H) {a t n : Nat} {f : Nat → Int32} (hg : g.1[a]? = some (.inr (.inl (t, n, f)))) :
    t < 3 ∧ ∃ (q : Nat) (cell : Cell), am_rr B ov (some a) = some q ∧ H[q]? = some cell ∧ s.isArrayOf cell (am_ty t) ∧ cell.vm ≠ .unknown ∧ n ≤ cell.slots.size ∧ cell.slots.size.toInt32 = Int32.ofNat n ∧ ∀ j : Nat, j < n → cell.slots[j]? = some (.int (f j)) := by
  by_cases ha : a < am_K
  · obtain ⟨q, e1, e2, cell, h1, h2, h3, h4, h5, h6, h7⟩ := hKK.2.2.2.2.2.2.2.2.1 a _ ha (by rw [← hR.2.2.1 a ha]; exact hg)
    exact ⟨e2, q, cell, by rw [am_rr_old ha, e1], by rw [hS.2.1 q (Array.getElem?_eq_some_iff.mp h1).1 h7]; exact h1, h2, h3, h4, h5, h6⟩
  · obtain ⟨e1, e2⟩ := hR.2.2.2 a _ (Nat.not_lt.mp ha) hg
    refine ⟨e1, B + (a - am_K), _, am_rr_new (Nat.not_lt.mp ha), e2, (am_tyI hKK.1 e1).1 _ _, (fun q => by cases q), ?_, ?_, fun j hj => arrV_read _ _ hj⟩
    · rw [arrV_size]; exact Nat.le_refl _
    · rw [arrV_size]
theorem am_Rl.arrR {H : Heap} {locs : List Loc} (hKK : am_KK B ov G cI cR O s s.heap) (hS : va_S (fun q => B ≤ q) s.heap H locs) (hR : am_Rl B ov G cI cR O g H) {a t n : Nat} {f : Nat → Option Nat} (hg : g.1[a]? = some (.inr (.inr (t, n, f)))) :
    (t = 0 ∨ t = 5 ∨ t = 9) ∧ ∃ (q : Nat) (cell : Cell), am_rr B ov (some a) = some q ∧ H[q]? = some cell ∧ s.isArrayOf cell (.object (am_tr t)) ∧ cell.vm ≠ .unknown ∧ n ≤ cell.slots.size ∧ cell.slots.size.toInt32 = Int32.ofNat n ∧ ∀ j : Nat, j < n → cell.slots[j]? = some (va_rf (am_rr B ov (f j))) := by
  by_cases ha : a < am_K
  · obtain ⟨q, e1, e2, cell, h1, h2, h3, h4, h5, h6, h7⟩ := hKK.2.2.2.2.2.2.2.2.1 a _ ha (by rw [← hR.2.2.1 a ha]; exact hg)
    simp only at e2
    subst e2
    exact ⟨Or.inl rfl, q, cell, by rw [am_rr_old ha, e1], by rw [hS.2.1 q (Array.getElem?_eq_some_iff.mp h1).1 h7]; exact h1, h2, h3, h4, h5, h6⟩
  · obtain ⟨e1, e2⟩ := hR.2.2.2 a _ (Nat.not_lt.mp ha) hg
    refine ⟨e1, B + (a - am_K), _, am_rr_new (Nat.not_lt.mp ha), e2, (am_tyR hKK.1 e1).1 _ _, (fun q => by cases q), ?_, ?_, fun j hj => arrV_read _ _ hj⟩
    · rw [arrV_size]; exact Nat.le_refl _
    · rw [arrV_size]
theorem am_inx {i : Int32} {n k : Nat} (h : vp_in i n) (hk : n ≤ k) : ¬ (i < 0 ∨ k ≤ i.toNatClampNeg) := by
  rintro (q | q)
  · exact h (Or.inl q)
  · exact h (Or.inr (Nat.le_trans hk q))
theorem am_inl {i : Int32} {n : Nat} (h : vp_in i n) : i.toNatClampNeg < n := Nat.not_le.mp fun q => h (Or.inr q)
theorem am_iald (X : am_Cx p s m args c cc nL own B ov G cI cR O) {a n t : Nat} {f : Nat → Int32} {i : Int32} (hd : (t = 0 ∧ decode cc pc = .ok (.iaload, 1)) ∨ ((t = 1 ∨ t = 2) ∧ decode cc pc = .ok (.baload, 1))) (hg : g.1[a]? = some (.inr (.inl (t, n, f)))) (hi : vp_in i n) (h : am_Ok p l e R s m args below meth c B ov G cI cR O n0 k0 Q nL (pc + 1) (lo) (am_i (f i.toNatClampNeg) :: st) (g)) : am_Ok p l e R s m args below meth c B ov G cI cR O n0 k0 Q nL (pc) (lo) (am_i i :: am_r (some a) :: st) (g) := by
  intro H locs ls hR hS hL h1 h2
  obtain ⟨hx, hb, hml, hown, hts, hKK⟩ := X
  obtain ⟨ht, q, cell, e1, e2, e3, e4, e5, e6, e7⟩ := hR.arrI hKK hS hg
  show W p l e R s m args below meth c H locs _ _ Q (F0 m pc ls (.int i :: va_rf (am_rr B ov (some a)) :: st.map (am_cv B ov)))
  rw [e1]
  have hz := h H locs ls hR hS hL h1 h2
  rcases hd with ⟨rfl, hd⟩ | ⟨rfl | rfl, hd⟩
  · exact W.iald hx hb e2 e3 e4 (am_inx hi e5) (e7 _ (am_inl hi)) rfl rfl hd hz
  · exact W.bald hx hb e2 e3 e4 (am_inx hi e5) (e7 _ (am_inl hi)) rfl rfl hd hz
  · exact W.zald hx hb e2 e3 e4 (am_inx hi e5) (e7 _ (am_inl hi)) rfl rfl hd hz
theorem am_aald (X : am_Cx p s m args c cc nL own B ov G cI cR O) {a n t : Nat} {f : Nat → Option Nat} {i : Int32} (hd : decode cc pc = .ok (.aaload, 1)) (hg : g.1[a]? = some (.inr (.inr (t, n, f)))) (hi : vp_in i n) (h : am_Ok p l e R s m args below meth c B ov G cI cR O n0 k0 Q nL (pc + 1) (lo) (am_r (f i.toNatClampNeg) :: st) (g)) : am_Ok p l e R s m args below meth c B ov G cI cR O n0 k0 Q nL (pc) (lo) (am_i i :: am_r (some a) :: st) (g) := by
  intro H locs ls hR hS hL h1 h2
  obtain ⟨hx, hb, hml, hown, hts, hKK⟩ := X
  obtain ⟨ht, q, cell, e1, e2, e3, e4, e5, e6, e7⟩ := hR.arrR hKK hS hg
  show W p l e R s m args below meth c H locs _ _ Q (F0 m pc ls (.int i :: va_rf (am_rr B ov (some a)) :: st.map (am_cv B ov)))
  rw [e1]
  exact W.aald hx hb e2 e3 rfl e4 (am_inx hi e5) (e7 _ (am_inl hi)) rfl rfl hd (h H locs ls hR hS hL h1 h2)
theorem am_alen (X : am_Cx p s m args c cc nL own B ov G cI cR O) {a n : Nat} (hd : decode cc pc = .ok (.arraylength, 1)) (hg : (∃ t f, g.1[a]? = some (.inr (.inl (t, n, f)))) ∨ ∃ t f, g.1[a]? = some (.inr (.inr (t, n, f)))) (h : am_Ok p l e R s m args below meth c B ov G cI cR O n0 k0 Q nL (pc + 1) (lo) (am_i (Int32.ofNat n) :: st) (g)) : am_Ok p l e R s m args below meth c B ov G cI cR O n0 k0 Q nL (pc) (lo) (am_r (some a) :: st) (g) := by
  intro H locs ls hR hS hL h1 h2
  obtain ⟨hx, hb, hml, hown, hts, hKK⟩ := X
  show W p l e R s m args below meth c H locs _ _ Q (F0 m pc ls (va_rf (am_rr B ov (some a)) :: st.map (am_cv B ov)))
  have hz := h H locs ls hR hS hL h1 h2
  rcases hg with ⟨t, f, hg⟩ | ⟨t, f, hg⟩
  · obtain ⟨ht, q, cell, e1, e2, e3, e4, e5, e6, e7⟩ := hR.arrI hKK hS hg
    rw [e1]
    exact W.alen hx hb e2 e3 e6 rfl rfl hd hz
  · obtain ⟨ht, q, cell, e1, e2, e3, e4, e5, e6, e7⟩ := hR.arrR hKK hS hg
    rw [e1]
    exact W.alen hx hb e2 e3 e6 rfl rfl hd hz
theorem am_iast (X : am_Cx p s m args c cc nL own B ov G cI cR O) {a n t : Nat} {f : Nat → Int32} {i x : Int32} (hd : (t = 0 ∧ decode cc pc = .ok (.iastore, 1)) ∨ ((t = 1 ∨ t = 2) ∧ decode cc pc = .ok (.bastore, 1))) (ha : am_K ≤ a) (hg : g.1[a]? = some (.inr (.inl (t, n, f)))) (hi : vp_in i n)
    (h : am_Ok p l e R s m args below meth c B ov G cI cR O n0 k0 Q nL (pc + 1) (lo) (st) ((g.1.set a (.inr (.inl (t, n, upd f i.toNatClampNeg (am_nar t x)))), g.2))) : am_Ok p l e R s m args below meth c B ov G cI cR O n0 k0 Q nL (pc) (lo) (am_i x :: am_i i :: am_r (some a) :: st) (g) := by
  intro H locs ls hR hS hL h1 h2
  obtain ⟨hx, hb, hml, hown, hts, hKK⟩ := X
  obtain ⟨ht, e2⟩ := hR.2.2.2 a _ ha hg
  simp only at ht e2
  show W p l e R s m args below meth c H locs _ _ Q (F0 m pc ls (.int x :: .int i :: va_rf (am_rr B ov (some a)) :: st.map (am_cv B ov)))
  rw [am_rr_new ha]
  have fin : ∀ H' : Heap, H'[B + (a - am_K)]? = some ((arrV (cI t) n (fun j => .int (f j))).setSlot i.toNatClampNeg (.int (am_nar t x))) → H'.size = H.size → (∀ q, q ≠ B + (a - am_K) → H'[q]? = H[q]?) → W p l e R s m args below meth c H' (locs ++ [⟨B + (a - am_K), i.toNatClampNeg⟩]) (g.1.length - n0) (g.2 - k0) Q (F0 m (pc + 1) ls (st.map (am_cv B ov))) := by
    intro H' e1 z oq
    have e3 : (arrV (cI t) n (fun j => .int (f j))).setSlot i.toNatClampNeg (.int (am_nar t x)) = arrV (cI t) n (fun j => .int (upd f i.toNatClampNeg (am_nar t x) j)) := by
      rw [arrV_store]
      congr 1
      funext q
      by_cases hq : q = i.toNatClampNeg
      · simp [updV, upd, hq]
      · simp [updV, upd, hq]
    rw [e3] at e1
    have hz := h H' (locs ++ [⟨B + (a - am_K), i.toNatClampNeg⟩]) ls (hR.set ha ⟨ht, e1⟩ z oq) (hS.put z oq (by omega)) hL (by simpa using h1) h2
    simpa using hz
  have hAr := (am_tyI hKK.1 ht).1 n (fun j => Value.int (f j))
  have hin : ¬ (i < 0 ∨ (arrV (cI t) n (fun j => Value.int (f j))).slots.size ≤ i.toNatClampNeg) := by rw [arrV_size]; exact hi
  rcases hd with ⟨rfl, hd⟩ | ⟨rfl | rfl, hd⟩
  · exact W.iast hx hb e2 hAr (fun q => by cases q) hin rfl rfl hd fin
  · exact W.bast hx hb e2 hAr (fun q => by cases q) hin rfl rfl hd fin
  · exact W.zast hx hb e2 hAr (fun q => by cases q) hin rfl rfl hd fin
end Mem
